set_option maxHeartbeats 4000000 in
set_option maxRecDepth 100000 in
theorem c_X0_dropOldest (l : Launch) (D : va_G) (T : TI) (ya : Nat) (yb : Nat) (F : Nat → Option Nat) (gq : Nat → Nat → Nat) (cs : Nat → Nat → Nat → Int32) (hF : ∀ k, k < 6 → F k = some (gq k 0)) : CV l yX0_dropOldest cX0_dropOldest 3 (rmD 0 0 0) D T [.ref ya] [yW T ya yb F (nI 6), sW T (gq 0) (cs 0), sW T (gq 1) (cs 1), sW T (gq 2) (cs 2), sW T (gq 3) (cs 3), sW T (gq 4) (cs 4), sW T (gq 5) (cs 5)] 0 0 (β := Nat → Option Nat) (fun (F2 : Nat → Option Nat) => [yW T ya yb F2 (nI 5), sW T (gq 0) (cs 0), sW T (gq 1) (cs 1), sW T (gq 2) (cs 2), sW T (gq 3) (cs 3), sW T (gq 4) (cs 4), sW T (gq 5) (cs 5)]) (fun (F2 : Nat → Option Nat) => ∀ k, k < 6 → F2 k = some (rotG gq k 0)) := by
  intro sz
  refine met_rw (Qc := fun A => va_Qv _ (PST D _ A) A) rfl (Nat.le_of_ble_eq_true rfl) ?_
  intro pX eX sX mX bX mtX cX A hAe hC hA hP0 hD0 hS0 ls0 hl0 TG hTG
  clear hAe
  obtain ⟨hx, hb, hr, hml, hown, hts, hlocks, hin, hK⟩ := hC
  have hown : sX.vm.findClass RX0 = some mX.cls := hown
  have hl0 : lv_has ls0 3 [(0, .ref ya)] := hl0
  refine lv_aload_n hx hb dX0_dropOldest_0 rfl (lv_at hl0 0 rfl) ?_
  refine r_get (own := RX0) (C := RX0) (F := TX0) (N := 2) (ci := 0) (v := .ref yb) hx hb hK hts in_X0 hown hP0 0 rfl rfl 0 (by decide) kw_150 rfl dX0_dropOldest_1 ?_
  refine lv_iconst (v := nI 0) hx hb dX0_dropOldest_4 (by decide) ?_
  refine r_aald (C := RX3) (v := ((gq 0) 0)) hx hb hK hP0 1 3 rfl rfl 0 (by decide) dX0_dropOldest_5 (by decide) (by simp [va_up, hF]) ?_
  refine lv_astore_n (lv' := [(1, .ref ((gq 0) 0)), (0, .ref ya)]) hx hb dX0_dropOldest_6 rfl hl0 (by decide) rfl (fun ls1 hl1 => ?_)
  clear hl0
  refine lv_iconst (v := nI 1) hx hb dX0_dropOldest_7 (by decide) ?_
  refine lv_istore_n (lv' := [(2, .int (nI 1)), (1, .ref ((gq 0) 0)), (0, .ref ya)]) hx hb dX0_dropOldest_8 rfl hl1 (by decide) rfl (fun ls2 hl2 => ?_)
  clear hl1
  refine lv_iload_n hx hb dX0_dropOldest_9 rfl (lv_at hl2 0 rfl) ?_
  refine lv_bipush (v := nI 6) hx hb dX0_dropOldest_10 (by decide) ?_
  refine n_icmp_ge (tgt := 35) hx hb (by omega) (by omega) dX0_dropOldest_12 (by decide) (fun c3 => absurd c3 (by decide)) (fun c3 => ?_)
  refine lv_aload_n hx hb dX0_dropOldest_15 rfl (lv_at hl2 2 rfl) ?_
  refine r_get (own := RX0) (C := RX0) (F := TX0) (N := 2) (ci := 0) (v := .ref yb) hx hb hK hts in_X0 hown hP0 0 rfl rfl 0 (by decide) kw_150 rfl dX0_dropOldest_16 ?_
  refine lv_iload_n hx hb dX0_dropOldest_19 rfl (lv_at hl2 0 rfl) ?_
  refine lv_iconst (v := nI 1) hx hb dX0_dropOldest_20 (by decide) ?_
  refine lv_isub hx hb dX0_dropOldest_21 ?_
  refine tp_i (y := nI 0) (by decide) ?_
  refine lv_aload_n hx hb dX0_dropOldest_22 rfl (lv_at hl2 2 rfl) ?_
  refine r_get (own := RX0) (C := RX0) (F := TX0) (N := 2) (ci := 0) (v := .ref yb) hx hb hK hts in_X0 hown hP0 0 rfl rfl 0 (by decide) kw_150 rfl dX0_dropOldest_23 ?_
  refine lv_iload_n hx hb dX0_dropOldest_26 rfl (lv_at hl2 0 rfl) ?_
  refine r_aald (C := RX3) (v := ((gq 1) 0)) hx hb hK hP0 1 3 rfl rfl 1 (by decide) dX0_dropOldest_27 (by decide) (by simp [va_up, hF]) ?_
  refine r_aast hx hb hK hP0 hD0 hS0 1 3 13 3 (f := F) rfl rfl rfl rfl 0 (by decide) dX0_dropOldest_28 (by decide) (fun (H4 : Heap) (locs4 : List Loc) (hP4 : va_P D vwCl (fl [yW T ya yb (va_up F 0 (some ((gq 1) 0))) (nI 6), sW T (gq 0) (cs 0), sW T (gq 1) (cs 1), sW T (gq 2) (cs 2), sW T (gq 3) (cs 3), sW T (gq 4) (cs 4), sW T (gq 5) (cs 5)]) H4) (hD4 : va_D A (fl [yW T ya yb (va_up F 0 (some ((gq 1) 0))) (nI 6), sW T (gq 0) (cs 0), sW T (gq 1) (cs 1), sW T (gq 2) (cs 2), sW T (gq 3) (cs 3), sW T (gq 4) (cs 4), sW T (gq 5) (cs 5)])) hS4 => ?_)
  clear hP0 hD0 hS0
  refine lv_iinc (v := nI 2) (lv' := [(2, .int (nI 2)), (1, .ref ((gq 0) 0)), (0, .ref ya)]) hx hb dX0_dropOldest_29 hl2 (k := 0) rfl (by decide) (by decide) rfl (fun ls5 hl5 => ?_)
  clear hl2
  refine lv_goto (tgt := 9) hx hb dX0_dropOldest_32 (by decide) ?_
  refine lv_iload_n hx hb dX0_dropOldest_9 rfl (lv_at hl5 0 rfl) ?_
  refine lv_bipush (v := nI 6) hx hb dX0_dropOldest_10 (by decide) ?_
  refine n_icmp_ge (tgt := 35) hx hb (by omega) (by omega) dX0_dropOldest_12 (by decide) (fun c6 => absurd c6 (by decide)) (fun c6 => ?_)
  refine lv_aload_n hx hb dX0_dropOldest_15 rfl (lv_at hl5 2 rfl) ?_
  refine r_get (own := RX0) (C := RX0) (F := TX0) (N := 2) (ci := 0) (v := .ref yb) hx hb hK hts in_X0 hown hP4 0 rfl rfl 0 (by decide) kw_150 rfl dX0_dropOldest_16 ?_
  refine lv_iload_n hx hb dX0_dropOldest_19 rfl (lv_at hl5 0 rfl) ?_
  refine lv_iconst (v := nI 1) hx hb dX0_dropOldest_20 (by decide) ?_
  refine lv_isub hx hb dX0_dropOldest_21 ?_
  refine tp_i (y := nI 1) (by decide) ?_
  refine lv_aload_n hx hb dX0_dropOldest_22 rfl (lv_at hl5 2 rfl) ?_
  refine r_get (own := RX0) (C := RX0) (F := TX0) (N := 2) (ci := 0) (v := .ref yb) hx hb hK hts in_X0 hown hP4 0 rfl rfl 0 (by decide) kw_150 rfl dX0_dropOldest_23 ?_
  refine lv_iload_n hx hb dX0_dropOldest_26 rfl (lv_at hl5 0 rfl) ?_
  refine r_aald (C := RX3) (v := ((gq 2) 0)) hx hb hK hP4 1 3 rfl rfl 2 (by decide) dX0_dropOldest_27 (by decide) (by simp [va_up, hF]) ?_
  refine r_aast hx hb hK hP4 hD4 hS4 1 3 24 3 (f := (va_up F 0 (some ((gq 1) 0)))) rfl rfl rfl rfl 1 (by decide) dX0_dropOldest_28 (by decide) (fun (H7 : Heap) (locs7 : List Loc) (hP7 : va_P D vwCl (fl [yW T ya yb (va_up (va_up F 0 (some ((gq 1) 0))) 1 (some ((gq 2) 0))) (nI 6), sW T (gq 0) (cs 0), sW T (gq 1) (cs 1), sW T (gq 2) (cs 2), sW T (gq 3) (cs 3), sW T (gq 4) (cs 4), sW T (gq 5) (cs 5)]) H7) (hD7 : va_D A (fl [yW T ya yb (va_up (va_up F 0 (some ((gq 1) 0))) 1 (some ((gq 2) 0))) (nI 6), sW T (gq 0) (cs 0), sW T (gq 1) (cs 1), sW T (gq 2) (cs 2), sW T (gq 3) (cs 3), sW T (gq 4) (cs 4), sW T (gq 5) (cs 5)])) hS7 => ?_)
  clear hP4 hD4 hS4
  refine lv_iinc (v := nI 3) (lv' := [(2, .int (nI 3)), (1, .ref ((gq 0) 0)), (0, .ref ya)]) hx hb dX0_dropOldest_29 hl5 (k := 0) rfl (by decide) (by decide) rfl (fun ls8 hl8 => ?_)
  clear hl5
  refine lv_goto (tgt := 9) hx hb dX0_dropOldest_32 (by decide) ?_
  refine lv_iload_n hx hb dX0_dropOldest_9 rfl (lv_at hl8 0 rfl) ?_
  refine lv_bipush (v := nI 6) hx hb dX0_dropOldest_10 (by decide) ?_
  refine n_icmp_ge (tgt := 35) hx hb (by omega) (by omega) dX0_dropOldest_12 (by decide) (fun c9 => absurd c9 (by decide)) (fun c9 => ?_)
  refine lv_aload_n hx hb dX0_dropOldest_15 rfl (lv_at hl8 2 rfl) ?_
  refine r_get (own := RX0) (C := RX0) (F := TX0) (N := 2) (ci := 0) (v := .ref yb) hx hb hK hts in_X0 hown hP7 0 rfl rfl 0 (by decide) kw_150 rfl dX0_dropOldest_16 ?_
  refine lv_iload_n hx hb dX0_dropOldest_19 rfl (lv_at hl8 0 rfl) ?_
  refine lv_iconst (v := nI 1) hx hb dX0_dropOldest_20 (by decide) ?_
  refine lv_isub hx hb dX0_dropOldest_21 ?_
  refine tp_i (y := nI 2) (by decide) ?_
  refine lv_aload_n hx hb dX0_dropOldest_22 rfl (lv_at hl8 2 rfl) ?_
  refine r_get (own := RX0) (C := RX0) (F := TX0) (N := 2) (ci := 0) (v := .ref yb) hx hb hK hts in_X0 hown hP7 0 rfl rfl 0 (by decide) kw_150 rfl dX0_dropOldest_23 ?_
  refine lv_iload_n hx hb dX0_dropOldest_26 rfl (lv_at hl8 0 rfl) ?_
  refine r_aald (C := RX3) (v := ((gq 3) 0)) hx hb hK hP7 1 3 rfl rfl 3 (by decide) dX0_dropOldest_27 (by decide) (by simp [va_up, hF]) ?_
  refine r_aast hx hb hK hP7 hD7 hS7 1 3 35 3 (f := (va_up (va_up F 0 (some ((gq 1) 0))) 1 (some ((gq 2) 0)))) rfl rfl rfl rfl 2 (by decide) dX0_dropOldest_28 (by decide) (fun (H10 : Heap) (locs10 : List Loc) (hP10 : va_P D vwCl (fl [yW T ya yb (va_up (va_up (va_up F 0 (some ((gq 1) 0))) 1 (some ((gq 2) 0))) 2 (some ((gq 3) 0))) (nI 6), sW T (gq 0) (cs 0), sW T (gq 1) (cs 1), sW T (gq 2) (cs 2), sW T (gq 3) (cs 3), sW T (gq 4) (cs 4), sW T (gq 5) (cs 5)]) H10) (hD10 : va_D A (fl [yW T ya yb (va_up (va_up (va_up F 0 (some ((gq 1) 0))) 1 (some ((gq 2) 0))) 2 (some ((gq 3) 0))) (nI 6), sW T (gq 0) (cs 0), sW T (gq 1) (cs 1), sW T (gq 2) (cs 2), sW T (gq 3) (cs 3), sW T (gq 4) (cs 4), sW T (gq 5) (cs 5)])) hS10 => ?_)
  clear hP7 hD7 hS7
  refine lv_iinc (v := nI 4) (lv' := [(2, .int (nI 4)), (1, .ref ((gq 0) 0)), (0, .ref ya)]) hx hb dX0_dropOldest_29 hl8 (k := 0) rfl (by decide) (by decide) rfl (fun ls11 hl11 => ?_)
  clear hl8
  refine lv_goto (tgt := 9) hx hb dX0_dropOldest_32 (by decide) ?_
  refine lv_iload_n hx hb dX0_dropOldest_9 rfl (lv_at hl11 0 rfl) ?_
  refine lv_bipush (v := nI 6) hx hb dX0_dropOldest_10 (by decide) ?_
  refine n_icmp_ge (tgt := 35) hx hb (by omega) (by omega) dX0_dropOldest_12 (by decide) (fun c12 => absurd c12 (by decide)) (fun c12 => ?_)
  refine lv_aload_n hx hb dX0_dropOldest_15 rfl (lv_at hl11 2 rfl) ?_
  refine r_get (own := RX0) (C := RX0) (F := TX0) (N := 2) (ci := 0) (v := .ref yb) hx hb hK hts in_X0 hown hP10 0 rfl rfl 0 (by decide) kw_150 rfl dX0_dropOldest_16 ?_
  refine lv_iload_n hx hb dX0_dropOldest_19 rfl (lv_at hl11 0 rfl) ?_
  refine lv_iconst (v := nI 1) hx hb dX0_dropOldest_20 (by decide) ?_
  refine lv_isub hx hb dX0_dropOldest_21 ?_
  refine tp_i (y := nI 3) (by decide) ?_
  refine lv_aload_n hx hb dX0_dropOldest_22 rfl (lv_at hl11 2 rfl) ?_
  refine r_get (own := RX0) (C := RX0) (F := TX0) (N := 2) (ci := 0) (v := .ref yb) hx hb hK hts in_X0 hown hP10 0 rfl rfl 0 (by decide) kw_150 rfl dX0_dropOldest_23 ?_
  refine lv_iload_n hx hb dX0_dropOldest_26 rfl (lv_at hl11 0 rfl) ?_
  refine r_aald (C := RX3) (v := ((gq 4) 0)) hx hb hK hP10 1 3 rfl rfl 4 (by decide) dX0_dropOldest_27 (by decide) (by simp [va_up, hF]) ?_
  refine r_aast hx hb hK hP10 hD10 hS10 1 3 46 3 (f := (va_up (va_up (va_up F 0 (some ((gq 1) 0))) 1 (some ((gq 2) 0))) 2 (some ((gq 3) 0)))) rfl rfl rfl rfl 3 (by decide) dX0_dropOldest_28 (by decide) (fun (H13 : Heap) (locs13 : List Loc) (hP13 : va_P D vwCl (fl [yW T ya yb (va_up (va_up (va_up (va_up F 0 (some ((gq 1) 0))) 1 (some ((gq 2) 0))) 2 (some ((gq 3) 0))) 3 (some ((gq 4) 0))) (nI 6), sW T (gq 0) (cs 0), sW T (gq 1) (cs 1), sW T (gq 2) (cs 2), sW T (gq 3) (cs 3), sW T (gq 4) (cs 4), sW T (gq 5) (cs 5)]) H13) (hD13 : va_D A (fl [yW T ya yb (va_up (va_up (va_up (va_up F 0 (some ((gq 1) 0))) 1 (some ((gq 2) 0))) 2 (some ((gq 3) 0))) 3 (some ((gq 4) 0))) (nI 6), sW T (gq 0) (cs 0), sW T (gq 1) (cs 1), sW T (gq 2) (cs 2), sW T (gq 3) (cs 3), sW T (gq 4) (cs 4), sW T (gq 5) (cs 5)])) hS13 => ?_)
  clear hP10 hD10 hS10
  refine lv_iinc (v := nI 5) (lv' := [(2, .int (nI 5)), (1, .ref ((gq 0) 0)), (0, .ref ya)]) hx hb dX0_dropOldest_29 hl11 (k := 0) rfl (by decide) (by decide) rfl (fun ls14 hl14 => ?_)
  clear hl11
  refine lv_goto (tgt := 9) hx hb dX0_dropOldest_32 (by decide) ?_
  refine lv_iload_n hx hb dX0_dropOldest_9 rfl (lv_at hl14 0 rfl) ?_
  refine lv_bipush (v := nI 6) hx hb dX0_dropOldest_10 (by decide) ?_
  refine n_icmp_ge (tgt := 35) hx hb (by omega) (by omega) dX0_dropOldest_12 (by decide) (fun c15 => absurd c15 (by decide)) (fun c15 => ?_)
  refine lv_aload_n hx hb dX0_dropOldest_15 rfl (lv_at hl14 2 rfl) ?_
  refine r_get (own := RX0) (C := RX0) (F := TX0) (N := 2) (ci := 0) (v := .ref yb) hx hb hK hts in_X0 hown hP13 0 rfl rfl 0 (by decide) kw_150 rfl dX0_dropOldest_16 ?_
  refine lv_iload_n hx hb dX0_dropOldest_19 rfl (lv_at hl14 0 rfl) ?_
  refine lv_iconst (v := nI 1) hx hb dX0_dropOldest_20 (by decide) ?_
  refine lv_isub hx hb dX0_dropOldest_21 ?_
  refine tp_i (y := nI 4) (by decide) ?_
  refine lv_aload_n hx hb dX0_dropOldest_22 rfl (lv_at hl14 2 rfl) ?_
  refine r_get (own := RX0) (C := RX0) (F := TX0) (N := 2) (ci := 0) (v := .ref yb) hx hb hK hts in_X0 hown hP13 0 rfl rfl 0 (by decide) kw_150 rfl dX0_dropOldest_23 ?_
  refine lv_iload_n hx hb dX0_dropOldest_26 rfl (lv_at hl14 0 rfl) ?_
  refine r_aald (C := RX3) (v := ((gq 5) 0)) hx hb hK hP13 1 3 rfl rfl 5 (by decide) dX0_dropOldest_27 (by decide) (by simp [va_up, hF]) ?_
  refine r_aast hx hb hK hP13 hD13 hS13 1 3 57 3 (f := (va_up (va_up (va_up (va_up F 0 (some ((gq 1) 0))) 1 (some ((gq 2) 0))) 2 (some ((gq 3) 0))) 3 (some ((gq 4) 0)))) rfl rfl rfl rfl 4 (by decide) dX0_dropOldest_28 (by decide) (fun (H16 : Heap) (locs16 : List Loc) (hP16 : va_P D vwCl (fl [yW T ya yb (va_up (va_up (va_up (va_up (va_up F 0 (some ((gq 1) 0))) 1 (some ((gq 2) 0))) 2 (some ((gq 3) 0))) 3 (some ((gq 4) 0))) 4 (some ((gq 5) 0))) (nI 6), sW T (gq 0) (cs 0), sW T (gq 1) (cs 1), sW T (gq 2) (cs 2), sW T (gq 3) (cs 3), sW T (gq 4) (cs 4), sW T (gq 5) (cs 5)]) H16) (hD16 : va_D A (fl [yW T ya yb (va_up (va_up (va_up (va_up (va_up F 0 (some ((gq 1) 0))) 1 (some ((gq 2) 0))) 2 (some ((gq 3) 0))) 3 (some ((gq 4) 0))) 4 (some ((gq 5) 0))) (nI 6), sW T (gq 0) (cs 0), sW T (gq 1) (cs 1), sW T (gq 2) (cs 2), sW T (gq 3) (cs 3), sW T (gq 4) (cs 4), sW T (gq 5) (cs 5)])) hS16 => ?_)
  clear hP13 hD13 hS13
  refine lv_iinc (v := nI 6) (lv' := [(2, .int (nI 6)), (1, .ref ((gq 0) 0)), (0, .ref ya)]) hx hb dX0_dropOldest_29 hl14 (k := 0) rfl (by decide) (by decide) rfl (fun ls17 hl17 => ?_)
  clear hl14
  refine lv_goto (tgt := 9) hx hb dX0_dropOldest_32 (by decide) ?_
  refine lv_iload_n hx hb dX0_dropOldest_9 rfl (lv_at hl17 0 rfl) ?_
  refine lv_bipush (v := nI 6) hx hb dX0_dropOldest_10 (by decide) ?_
  refine n_icmp_ge (tgt := 35) hx hb (by omega) (by omega) dX0_dropOldest_12 (by decide) (fun c18 => ?_) (fun c18 => absurd (by decide) c18)
  refine lv_aload_n hx hb dX0_dropOldest_35 rfl (lv_at hl17 2 rfl) ?_
  refine r_get (own := RX0) (C := RX0) (F := TX0) (N := 2) (ci := 0) (v := .ref yb) hx hb hK hts in_X0 hown hP16 0 rfl rfl 0 (by decide) kw_150 rfl dX0_dropOldest_36 ?_
  refine lv_iconst (v := nI 5) hx hb dX0_dropOldest_39 (by decide) ?_
  refine lv_aload_n hx hb dX0_dropOldest_40 rfl (lv_at hl17 1 rfl) ?_
  refine r_aast hx hb hK hP16 hD16 hS16 1 3 2 3 (f := (va_up (va_up (va_up (va_up (va_up F 0 (some ((gq 1) 0))) 1 (some ((gq 2) 0))) 2 (some ((gq 3) 0))) 3 (some ((gq 4) 0))) 4 (some ((gq 5) 0)))) rfl rfl rfl rfl 5 (by decide) dX0_dropOldest_41 (by decide) (fun (H19 : Heap) (locs19 : List Loc) (hP19 : va_P D vwCl (fl [yW T ya yb (va_up (va_up (va_up (va_up (va_up (va_up F 0 (some ((gq 1) 0))) 1 (some ((gq 2) 0))) 2 (some ((gq 3) 0))) 3 (some ((gq 4) 0))) 4 (some ((gq 5) 0))) 5 (some ((gq 0) 0))) (nI 6), sW T (gq 0) (cs 0), sW T (gq 1) (cs 1), sW T (gq 2) (cs 2), sW T (gq 3) (cs 3), sW T (gq 4) (cs 4), sW T (gq 5) (cs 5)]) H19) (hD19 : va_D A (fl [yW T ya yb (va_up (va_up (va_up (va_up (va_up (va_up F 0 (some ((gq 1) 0))) 1 (some ((gq 2) 0))) 2 (some ((gq 3) 0))) 3 (some ((gq 4) 0))) 4 (some ((gq 5) 0))) 5 (some ((gq 0) 0))) (nI 6), sW T (gq 0) (cs 0), sW T (gq 1) (cs 1), sW T (gq 2) (cs 2), sW T (gq 3) (cs 3), sW T (gq 4) (cs 4), sW T (gq 5) (cs 5)])) hS19 => ?_)
  clear hP16 hD16 hS16
  refine lv_aload_n hx hb dX0_dropOldest_42 rfl (lv_at hl17 2 rfl) ?_
  refine lv_iconst (v := nI 5) hx hb dX0_dropOldest_43 (by decide) ?_
  refine r_put (own := RX0) (C := RX0) (F := TX0) (N := 2) (ci := 0) (v := nI 5) hx hb hK hts in_X0 tyX0 tyX0_ok nmX0 hown hP19 hD19 hS19 0 rfl rfl 1 (by decide) kw_151 rfl rfl (Nat.le_of_ble_eq_true rfl) dX0_dropOldest_44 (fun (H20 : Heap) (locs20 : List Loc) (hP20 : va_P D vwCl (fl [yW T ya yb (va_up (va_up (va_up (va_up (va_up (va_up F 0 (some ((gq 1) 0))) 1 (some ((gq 2) 0))) 2 (some ((gq 3) 0))) 3 (some ((gq 4) 0))) 4 (some ((gq 5) 0))) 5 (some ((gq 0) 0))) (nI 5), sW T (gq 0) (cs 0), sW T (gq 1) (cs 1), sW T (gq 2) (cs 2), sW T (gq 3) (cs 3), sW T (gq 4) (cs 4), sW T (gq 5) (cs 5)]) H20) (hD20 : va_D A (fl [yW T ya yb (va_up (va_up (va_up (va_up (va_up (va_up F 0 (some ((gq 1) 0))) 1 (some ((gq 2) 0))) 2 (some ((gq 3) 0))) 3 (some ((gq 4) 0))) 4 (some ((gq 5) 0))) 5 (some ((gq 0) 0))) (nI 5), sW T (gq 0) (cs 0), sW T (gq 1) (cs 1), sW T (gq 2) (cs 2), sW T (gq 3) (cs 3), sW T (gq 4) (cs 4), sW T (gq 5) (cs 5)])) hS20 => ?_)
  clear hP19 hD19 hS19
  refine ret_v hTG (Nat.le_refl _) (Nat.le_refl _) hx hb hr hlocks ((va_up (va_up (va_up (va_up (va_up (va_up F 0 (some ((gq 1) 0))) 1 (some ((gq 2) 0))) 2 (some ((gq 3) 0))) 3 (some ((gq 4) 0))) 4 (some ((gq 5) 0))) 5 (some ((gq 0) 0)))) hP20 hD20 hS20 [0, 1, 2, 3, 4, 5, 6] rfl (by decide) dX0_dropOldest_47 ?_
  intro k hk
  rcases (show k = 0 ∨ k = 1 ∨ k = 2 ∨ k = 3 ∨ k = 4 ∨ k = 5 by omega) with rfl | rfl | rfl | rfl | rfl | rfl <;> simp [va_up, rotG]
set_option maxHeartbeats 4000000 in
set_option maxRecDepth 100000 in
theorem c_X0_keep (l : Launch) (D : va_G) (T : TI) (ya : Nat) (yb : Nat) (F : Nat → Option Nat) (gq : Nat → Nat → Nat) (cs : Nat → Nat → Nat → Int32) (Ls : Nat → Nat → Nat) (kp : Nat) (q : Nat → Nat) (c : Nat → Nat → Int32) (L : Nat → Nat) (hkp : kp ≤ 6) (hF : ∀ k, k < 6 → F k = some (gq k 0)) (hz1 : ∀ k, k < 2 → c 1 k = 0 ∨ c 1 k = 1) (hz5 : ∀ k, k < 12 → c 5 k = 0 ∨ c 5 k = 1) : CV l yX0_keep cX0_keep 2 (rmD 3 0 0) D T [.ref ya, .ref (q 0)] [yW T ya yb F (nI kp), sW T (gq 0) (cs 0), tW T ((gq 0) 11) ((gq 0) 12) (nI ((Ls 0) 0)) ((cs 0) 9), tW T ((gq 0) 13) ((gq 0) 14) (nI ((Ls 0) 1)) ((cs 0) 10), tW T ((gq 0) 15) ((gq 0) 16) (nI ((Ls 0) 2)) ((cs 0) 11), sW T (gq 1) (cs 1), tW T ((gq 1) 11) ((gq 1) 12) (nI ((Ls 1) 0)) ((cs 1) 9), tW T ((gq 1) 13) ((gq 1) 14) (nI ((Ls 1) 1)) ((cs 1) 10), tW T ((gq 1) 15) ((gq 1) 16) (nI ((Ls 1) 2)) ((cs 1) 11), sW T (gq 2) (cs 2), tW T ((gq 2) 11) ((gq 2) 12) (nI ((Ls 2) 0)) ((cs 2) 9), tW T ((gq 2) 13) ((gq 2) 14) (nI ((Ls 2) 1)) ((cs 2) 10), tW T ((gq 2) 15) ((gq 2) 16) (nI ((Ls 2) 2)) ((cs 2) 11), sW T (gq 3) (cs 3), tW T ((gq 3) 11) ((gq 3) 12) (nI ((Ls 3) 0)) ((cs 3) 9), tW T ((gq 3) 13) ((gq 3) 14) (nI ((Ls 3) 1)) ((cs 3) 10), tW T ((gq 3) 15) ((gq 3) 16) (nI ((Ls 3) 2)) ((cs 3) 11), sW T (gq 4) (cs 4), tW T ((gq 4) 11) ((gq 4) 12) (nI ((Ls 4) 0)) ((cs 4) 9), tW T ((gq 4) 13) ((gq 4) 14) (nI ((Ls 4) 1)) ((cs 4) 10), tW T ((gq 4) 15) ((gq 4) 16) (nI ((Ls 4) 2)) ((cs 4) 11), sW T (gq 5) (cs 5), tW T ((gq 5) 11) ((gq 5) 12) (nI ((Ls 5) 0)) ((cs 5) 9), tW T ((gq 5) 13) ((gq 5) 14) (nI ((Ls 5) 1)) ((cs 5) 10), tW T ((gq 5) 15) ((gq 5) 16) (nI ((Ls 5) 2)) ((cs 5) 11), sW T q c, tW T (q 11) (q 12) (nI (L 0)) (c 9), tW T (q 13) (q 14) (nI (L 1)) (c 10), tW T (q 15) (q 16) (nI (L 2)) (c 11)] 0 0 (β := (Nat → Option Nat) × (Nat → Nat → Nat) × (Nat → Nat → Nat → Int32) × (Nat → Nat → Nat)) (fun ⟨F2, gq2, cs2, Ls2⟩ => [yW T ya yb F2 (nI (svK kp)), sW T (gq2 0) (cs2 0), tW T ((gq2 0) 11) ((gq2 0) 12) (nI ((Ls2 0) 0)) ((cs2 0) 9), tW T ((gq2 0) 13) ((gq2 0) 14) (nI ((Ls2 0) 1)) ((cs2 0) 10), tW T ((gq2 0) 15) ((gq2 0) 16) (nI ((Ls2 0) 2)) ((cs2 0) 11), sW T (gq2 1) (cs2 1), tW T ((gq2 1) 11) ((gq2 1) 12) (nI ((Ls2 1) 0)) ((cs2 1) 9), tW T ((gq2 1) 13) ((gq2 1) 14) (nI ((Ls2 1) 1)) ((cs2 1) 10), tW T ((gq2 1) 15) ((gq2 1) 16) (nI ((Ls2 1) 2)) ((cs2 1) 11), sW T (gq2 2) (cs2 2), tW T ((gq2 2) 11) ((gq2 2) 12) (nI ((Ls2 2) 0)) ((cs2 2) 9), tW T ((gq2 2) 13) ((gq2 2) 14) (nI ((Ls2 2) 1)) ((cs2 2) 10), tW T ((gq2 2) 15) ((gq2 2) 16) (nI ((Ls2 2) 2)) ((cs2 2) 11), sW T (gq2 3) (cs2 3), tW T ((gq2 3) 11) ((gq2 3) 12) (nI ((Ls2 3) 0)) ((cs2 3) 9), tW T ((gq2 3) 13) ((gq2 3) 14) (nI ((Ls2 3) 1)) ((cs2 3) 10), tW T ((gq2 3) 15) ((gq2 3) 16) (nI ((Ls2 3) 2)) ((cs2 3) 11), sW T (gq2 4) (cs2 4), tW T ((gq2 4) 11) ((gq2 4) 12) (nI ((Ls2 4) 0)) ((cs2 4) 9), tW T ((gq2 4) 13) ((gq2 4) 14) (nI ((Ls2 4) 1)) ((cs2 4) 10), tW T ((gq2 4) 15) ((gq2 4) 16) (nI ((Ls2 4) 2)) ((cs2 4) 11), sW T (gq2 5) (cs2 5), tW T ((gq2 5) 11) ((gq2 5) 12) (nI ((Ls2 5) 0)) ((cs2 5) 9), tW T ((gq2 5) 13) ((gq2 5) 14) (nI ((Ls2 5) 1)) ((cs2 5) 10), tW T ((gq2 5) 15) ((gq2 5) 16) (nI ((Ls2 5) 2)) ((cs2 5) 11), sW T q c, tW T (q 11) (q 12) (nI (L 0)) (c 9), tW T (q 13) (q 14) (nI (L 1)) (c 10), tW T (q 15) (q 16) (nI (L 2)) (c 11)]) (fun ⟨F2, gq2, cs2, Ls2⟩ => (∀ k, k < 6 → F2 k = some (gq2 k 0)) ∧ ∃ c3, Eqv c3 c ∧ cs2 = pushS kp cs c3 ∧ Ls2 = pushS kp Ls L) := by
  intro sz
  refine met_rw (Qc := fun A => va_Qv _ (PST D _ A) A) rfl (Nat.le_of_ble_eq_true rfl) ?_
  intro pX eX sX mX bX mtX cX A hAe hC hA hP0 hD0 hS0 ls0 hl0 TG hTG
  clear hAe
  obtain ⟨hx, hb, hr, hml, hown, hts, hlocks, hin, hK⟩ := hC
  have hown : sX.vm.findClass RX0 = some mX.cls := hown
  have hl0 : lv_has ls0 2 [(0, .ref ya), (1, .ref (q 0))] := hl0
  rcases (show kp = 0 ∨ kp = 1 ∨ kp = 2 ∨ kp = 3 ∨ kp = 4 ∨ kp = 5 ∨ kp = 6 by omega) with rfl | rfl | rfl | rfl | rfl | rfl | rfl
  · skip
    refine lv_aload_n hx hb dX0_keep_0 rfl (lv_at hl0 0 rfl) ?_
    refine r_get (own := RX0) (C := RX0) (F := TX0) (N := 2) (ci := 0) (v := .int (nI 0)) hx hb hK hts in_X0 hown hP0 0 rfl rfl 1 (by decide) kw_151 rfl dX0_keep_1 ?_
    refine lv_bipush (v := nI 6) hx hb dX0_keep_4 (by decide) ?_
    refine n_icmp_lt (tgt := 13) hx hb (by omega) (by omega) dX0_keep_6 (by decide) (fun c1 => ?_) (fun c1 => absurd (by decide) c1)
    refine lv_aload_n hx hb dX0_keep_13 rfl (lv_at hl0 0 rfl) ?_
    refine r_get (own := RX0) (C := RX0) (F := TX0) (N := 2) (ci := 0) (v := .int (nI 0)) hx hb hK hts in_X0 hown hP0 0 rfl rfl 1 (by decide) kw_151 rfl dX0_keep_14 ?_
    refine n_if_lt hx hb (by omega) dX0_keep_17 52 (by decide) ?_
    refine lv_aload_n hx hb dX0_keep_20 rfl (lv_at hl0 0 rfl) ?_
    refine r_get (own := RX0) (C := RX0) (F := TX0) (N := 2) (ci := 0) (v := .int (nI 0)) hx hb hK hts in_X0 hown hP0 0 rfl rfl 1 (by decide) kw_151 rfl dX0_keep_21 ?_
    refine lv_bipush (v := nI 6) hx hb dX0_keep_24 (by decide) ?_
    refine n_icmp_ge (tgt := 52) hx hb (by omega) (by omega) dX0_keep_26 (by decide) (fun c2 => absurd c2 (by decide)) (fun c2 => ?_)
    refine lv_aload_n hx hb dX0_keep_29 rfl (lv_at hl0 0 rfl) ?_
    refine r_get (own := RX0) (C := RX0) (F := TX0) (N := 2) (ci := 0) (v := .ref yb) hx hb hK hts in_X0 hown hP0 0 rfl rfl 0 (by decide) kw_150 rfl dX0_keep_30 ?_
    refine lv_aload_n hx hb dX0_keep_33 rfl (lv_at hl0 0 rfl) ?_
    refine r_get (own := RX0) (C := RX0) (F := TX0) (N := 2) (ci := 0) (v := .int (nI 0)) hx hb hK hts in_X0 hown hP0 0 rfl rfl 1 (by decide) kw_151 rfl dX0_keep_34 ?_
    refine r_aald (C := RX3) (v := ((gq 0) 0)) hx hb hK hP0 1 3 rfl rfl 0 (by decide) dX0_keep_37 (by decide) (hF 0 (by omega)) ?_
    refine lv_aload_n hx hb dX0_keep_38 rfl (lv_at hl0 1 rfl) ?_
    have hPc3 : va_P D vwCl (fl [sW T (gq 0) (cs 0), tW T ((gq 0) 11) ((gq 0) 12) (nI ((Ls 0) 0)) ((cs 0) 9), tW T ((gq 0) 13) ((gq 0) 14) (nI ((Ls 0) 1)) ((cs 0) 10), tW T ((gq 0) 15) ((gq 0) 16) (nI ((Ls 0) 2)) ((cs 0) 11), sW T q c, tW T (q 11) (q 12) (nI (L 0)) (c 9), tW T (q 13) (q 14) (nI (L 1)) (c 10), tW T (q 15) (q 16) (nI (L 2)) (c 11)]) _ := flP_sub hP0 [1, 2, 3, 4, 25, 26, 27, 28] rfl
    have hDc3 : va_D A (fl [sW T (gq 0) (cs 0), tW T ((gq 0) 11) ((gq 0) 12) (nI ((Ls 0) 0)) ((cs 0) 9), tW T ((gq 0) 13) ((gq 0) 14) (nI ((Ls 0) 1)) ((cs 0) 10), tW T ((gq 0) 15) ((gq 0) 16) (nI ((Ls 0) 2)) ((cs 0) 11), sW T q c, tW T (q 11) (q 12) (nI (L 0)) (c 9), tW T (q 13) (q 14) (nI (L 1)) (c 10), tW T (q 15) (q 16) (nI (L 2)) (c 11)]) := flD_sub hD0 [1, 2, 3, 4, 25, 26, 27, 28] (by decide) rfl
    refine cl_v (br := [yW T ya yb F (nI 0), sW T (gq 1) (cs 1), tW T ((gq 1) 11) ((gq 1) 12) (nI ((Ls 1) 0)) ((cs 1) 9), tW T ((gq 1) 13) ((gq 1) 14) (nI ((Ls 1) 1)) ((cs 1) 10), tW T ((gq 1) 15) ((gq 1) 16) (nI ((Ls 1) 2)) ((cs 1) 11), sW T (gq 2) (cs 2), tW T ((gq 2) 11) ((gq 2) 12) (nI ((Ls 2) 0)) ((cs 2) 9), tW T ((gq 2) 13) ((gq 2) 14) (nI ((Ls 2) 1)) ((cs 2) 10), tW T ((gq 2) 15) ((gq 2) 16) (nI ((Ls 2) 2)) ((cs 2) 11), sW T (gq 3) (cs 3), tW T ((gq 3) 11) ((gq 3) 12) (nI ((Ls 3) 0)) ((cs 3) 9), tW T ((gq 3) 13) ((gq 3) 14) (nI ((Ls 3) 1)) ((cs 3) 10), tW T ((gq 3) 15) ((gq 3) 16) (nI ((Ls 3) 2)) ((cs 3) 11), sW T (gq 4) (cs 4), tW T ((gq 4) 11) ((gq 4) 12) (nI ((Ls 4) 0)) ((cs 4) 9), tW T ((gq 4) 13) ((gq 4) 14) (nI ((Ls 4) 1)) ((cs 4) 10), tW T ((gq 4) 15) ((gq 4) 16) (nI ((Ls 4) 2)) ((cs 4) 11), sW T (gq 5) (cs 5), tW T ((gq 5) 11) ((gq 5) 12) (nI ((Ls 5) 0)) ((cs 5) 9), tW T ((gq 5) 13) ((gq 5) 14) (nI ((Ls 5) 1)) ((cs 5) 10), tW T ((gq 5) 15) ((gq 5) 16) (nI ((Ls 5) 2)) ((cs 5) 11)]) (va_runV (As := [.ref (q 0)]) (rest := []) ⟨hx, hb, hml, hown, hts⟩ (c_X3_copyFrom l D T (gq 0) (cs 0) (Ls 0) q c L (by omega) (by omega) _) (mkV hts okX3_copyFrom kw_505 kw_230 kw_231 ⟨rfl, rfl, Nat.le_of_ble_eq_true rfl, Nat.le_of_ble_eq_true rfl⟩) (pv_rw hK hPc3 hDc3 (q0 := 0) rfl rfl rfl) rfl rfl hl0.1 rfl (lv_room (Nat.le_of_ble_eq_true rfl)) dX0_keep_39 ⟨Nat.le_of_ble_eq_true rfl, Nat.le_of_ble_eq_true rfl⟩) hP0 hD0 hS0 hA [0, 5, 6, 7, 8, 9, 10, 11, 12, 13, 14, 15, 16, 17, 18, 19, 20, 21, 22, 23, 24] [1, 2, 3, 4, 25, 26, 27, 28] rfl (by decide) (fun c3_39 H4 locs4 hq_39 hP4 hD4 hS4 => ?_)
    clear hP0 hD0 hS0 hPc3 hDc3
    have hP4 : va_P D vwCl (fl [yW T ya yb F (nI 0), sW T (gq 1) (cs 1), tW T ((gq 1) 11) ((gq 1) 12) (nI ((Ls 1) 0)) ((cs 1) 9), tW T ((gq 1) 13) ((gq 1) 14) (nI ((Ls 1) 1)) ((cs 1) 10), tW T ((gq 1) 15) ((gq 1) 16) (nI ((Ls 1) 2)) ((cs 1) 11), sW T (gq 2) (cs 2), tW T ((gq 2) 11) ((gq 2) 12) (nI ((Ls 2) 0)) ((cs 2) 9), tW T ((gq 2) 13) ((gq 2) 14) (nI ((Ls 2) 1)) ((cs 2) 10), tW T ((gq 2) 15) ((gq 2) 16) (nI ((Ls 2) 2)) ((cs 2) 11), sW T (gq 3) (cs 3), tW T ((gq 3) 11) ((gq 3) 12) (nI ((Ls 3) 0)) ((cs 3) 9), tW T ((gq 3) 13) ((gq 3) 14) (nI ((Ls 3) 1)) ((cs 3) 10), tW T ((gq 3) 15) ((gq 3) 16) (nI ((Ls 3) 2)) ((cs 3) 11), sW T (gq 4) (cs 4), tW T ((gq 4) 11) ((gq 4) 12) (nI ((Ls 4) 0)) ((cs 4) 9), tW T ((gq 4) 13) ((gq 4) 14) (nI ((Ls 4) 1)) ((cs 4) 10), tW T ((gq 4) 15) ((gq 4) 16) (nI ((Ls 4) 2)) ((cs 4) 11), sW T (gq 5) (cs 5), tW T ((gq 5) 11) ((gq 5) 12) (nI ((Ls 5) 0)) ((cs 5) 9), tW T ((gq 5) 13) ((gq 5) 14) (nI ((Ls 5) 1)) ((cs 5) 10), tW T ((gq 5) 15) ((gq 5) 16) (nI ((Ls 5) 2)) ((cs 5) 11), sW T (gq 0) c3_39, tW T ((gq 0) 11) ((gq 0) 12) (nI (L 0)) (c3_39 9), tW T ((gq 0) 13) ((gq 0) 14) (nI (L 1)) (c3_39 10), tW T ((gq 0) 15) ((gq 0) 16) (nI (L 2)) (c3_39 11), sW T q c, tW T (q 11) (q 12) (nI (L 0)) (c 9), tW T (q 13) (q 14) (nI (L 1)) (c 10), tW T (q 15) (q 16) (nI (L 2)) (c 11)]) _ := hP4
    have hD4 : va_D A (fl [yW T ya yb F (nI 0), sW T (gq 1) (cs 1), tW T ((gq 1) 11) ((gq 1) 12) (nI ((Ls 1) 0)) ((cs 1) 9), tW T ((gq 1) 13) ((gq 1) 14) (nI ((Ls 1) 1)) ((cs 1) 10), tW T ((gq 1) 15) ((gq 1) 16) (nI ((Ls 1) 2)) ((cs 1) 11), sW T (gq 2) (cs 2), tW T ((gq 2) 11) ((gq 2) 12) (nI ((Ls 2) 0)) ((cs 2) 9), tW T ((gq 2) 13) ((gq 2) 14) (nI ((Ls 2) 1)) ((cs 2) 10), tW T ((gq 2) 15) ((gq 2) 16) (nI ((Ls 2) 2)) ((cs 2) 11), sW T (gq 3) (cs 3), tW T ((gq 3) 11) ((gq 3) 12) (nI ((Ls 3) 0)) ((cs 3) 9), tW T ((gq 3) 13) ((gq 3) 14) (nI ((Ls 3) 1)) ((cs 3) 10), tW T ((gq 3) 15) ((gq 3) 16) (nI ((Ls 3) 2)) ((cs 3) 11), sW T (gq 4) (cs 4), tW T ((gq 4) 11) ((gq 4) 12) (nI ((Ls 4) 0)) ((cs 4) 9), tW T ((gq 4) 13) ((gq 4) 14) (nI ((Ls 4) 1)) ((cs 4) 10), tW T ((gq 4) 15) ((gq 4) 16) (nI ((Ls 4) 2)) ((cs 4) 11), sW T (gq 5) (cs 5), tW T ((gq 5) 11) ((gq 5) 12) (nI ((Ls 5) 0)) ((cs 5) 9), tW T ((gq 5) 13) ((gq 5) 14) (nI ((Ls 5) 1)) ((cs 5) 10), tW T ((gq 5) 15) ((gq 5) 16) (nI ((Ls 5) 2)) ((cs 5) 11), sW T (gq 0) c3_39, tW T ((gq 0) 11) ((gq 0) 12) (nI (L 0)) (c3_39 9), tW T ((gq 0) 13) ((gq 0) 14) (nI (L 1)) (c3_39 10), tW T ((gq 0) 15) ((gq 0) 16) (nI (L 2)) (c3_39 11), sW T q c, tW T (q 11) (q 12) (nI (L 0)) (c 9), tW T (q 13) (q 14) (nI (L 1)) (c 10), tW T (q 15) (q 16) (nI (L 2)) (c 11)]) := hD4
    have hq_39 : Eqv c3_39 c := hq_39
    refine lv_aload_n hx hb dX0_keep_42 rfl (lv_at hl0 0 rfl) ?_
    refine lv_dup hx hb dX0_keep_43 rfl ?_
    refine r_get (own := RX0) (C := RX0) (F := TX0) (N := 2) (ci := 0) (v := .int (nI 0)) hx hb hK hts in_X0 hown hP4 0 rfl rfl 1 (by decide) kw_151 rfl dX0_keep_44 ?_
    refine lv_iconst (v := nI 1) hx hb dX0_keep_47 (by decide) ?_
    refine lv_iadd hx hb dX0_keep_48 ?_
    refine tp_i (y := nI 1) (by decide) ?_
    refine r_put (own := RX0) (C := RX0) (F := TX0) (N := 2) (ci := 0) (v := nI 1) hx hb hK hts in_X0 tyX0 tyX0_ok nmX0 hown hP4 hD4 hS4 0 rfl rfl 1 (by decide) kw_151 rfl rfl (Nat.le_of_ble_eq_true rfl) dX0_keep_49 (fun (H5 : Heap) (locs5 : List Loc) (hP5 : va_P D vwCl (fl [yW T ya yb F (nI 1), sW T (gq 1) (cs 1), tW T ((gq 1) 11) ((gq 1) 12) (nI ((Ls 1) 0)) ((cs 1) 9), tW T ((gq 1) 13) ((gq 1) 14) (nI ((Ls 1) 1)) ((cs 1) 10), tW T ((gq 1) 15) ((gq 1) 16) (nI ((Ls 1) 2)) ((cs 1) 11), sW T (gq 2) (cs 2), tW T ((gq 2) 11) ((gq 2) 12) (nI ((Ls 2) 0)) ((cs 2) 9), tW T ((gq 2) 13) ((gq 2) 14) (nI ((Ls 2) 1)) ((cs 2) 10), tW T ((gq 2) 15) ((gq 2) 16) (nI ((Ls 2) 2)) ((cs 2) 11), sW T (gq 3) (cs 3), tW T ((gq 3) 11) ((gq 3) 12) (nI ((Ls 3) 0)) ((cs 3) 9), tW T ((gq 3) 13) ((gq 3) 14) (nI ((Ls 3) 1)) ((cs 3) 10), tW T ((gq 3) 15) ((gq 3) 16) (nI ((Ls 3) 2)) ((cs 3) 11), sW T (gq 4) (cs 4), tW T ((gq 4) 11) ((gq 4) 12) (nI ((Ls 4) 0)) ((cs 4) 9), tW T ((gq 4) 13) ((gq 4) 14) (nI ((Ls 4) 1)) ((cs 4) 10), tW T ((gq 4) 15) ((gq 4) 16) (nI ((Ls 4) 2)) ((cs 4) 11), sW T (gq 5) (cs 5), tW T ((gq 5) 11) ((gq 5) 12) (nI ((Ls 5) 0)) ((cs 5) 9), tW T ((gq 5) 13) ((gq 5) 14) (nI ((Ls 5) 1)) ((cs 5) 10), tW T ((gq 5) 15) ((gq 5) 16) (nI ((Ls 5) 2)) ((cs 5) 11), sW T (gq 0) c3_39, tW T ((gq 0) 11) ((gq 0) 12) (nI (L 0)) (c3_39 9), tW T ((gq 0) 13) ((gq 0) 14) (nI (L 1)) (c3_39 10), tW T ((gq 0) 15) ((gq 0) 16) (nI (L 2)) (c3_39 11), sW T q c, tW T (q 11) (q 12) (nI (L 0)) (c 9), tW T (q 13) (q 14) (nI (L 1)) (c 10), tW T (q 15) (q 16) (nI (L 2)) (c 11)]) H5) (hD5 : va_D A (fl [yW T ya yb F (nI 1), sW T (gq 1) (cs 1), tW T ((gq 1) 11) ((gq 1) 12) (nI ((Ls 1) 0)) ((cs 1) 9), tW T ((gq 1) 13) ((gq 1) 14) (nI ((Ls 1) 1)) ((cs 1) 10), tW T ((gq 1) 15) ((gq 1) 16) (nI ((Ls 1) 2)) ((cs 1) 11), sW T (gq 2) (cs 2), tW T ((gq 2) 11) ((gq 2) 12) (nI ((Ls 2) 0)) ((cs 2) 9), tW T ((gq 2) 13) ((gq 2) 14) (nI ((Ls 2) 1)) ((cs 2) 10), tW T ((gq 2) 15) ((gq 2) 16) (nI ((Ls 2) 2)) ((cs 2) 11), sW T (gq 3) (cs 3), tW T ((gq 3) 11) ((gq 3) 12) (nI ((Ls 3) 0)) ((cs 3) 9), tW T ((gq 3) 13) ((gq 3) 14) (nI ((Ls 3) 1)) ((cs 3) 10), tW T ((gq 3) 15) ((gq 3) 16) (nI ((Ls 3) 2)) ((cs 3) 11), sW T (gq 4) (cs 4), tW T ((gq 4) 11) ((gq 4) 12) (nI ((Ls 4) 0)) ((cs 4) 9), tW T ((gq 4) 13) ((gq 4) 14) (nI ((Ls 4) 1)) ((cs 4) 10), tW T ((gq 4) 15) ((gq 4) 16) (nI ((Ls 4) 2)) ((cs 4) 11), sW T (gq 5) (cs 5), tW T ((gq 5) 11) ((gq 5) 12) (nI ((Ls 5) 0)) ((cs 5) 9), tW T ((gq 5) 13) ((gq 5) 14) (nI ((Ls 5) 1)) ((cs 5) 10), tW T ((gq 5) 15) ((gq 5) 16) (nI ((Ls 5) 2)) ((cs 5) 11), sW T (gq 0) c3_39, tW T ((gq 0) 11) ((gq 0) 12) (nI (L 0)) (c3_39 9), tW T ((gq 0) 13) ((gq 0) 14) (nI (L 1)) (c3_39 10), tW T ((gq 0) 15) ((gq 0) 16) (nI (L 2)) (c3_39 11), sW T q c, tW T (q 11) (q 12) (nI (L 0)) (c 9), tW T (q 13) (q 14) (nI (L 1)) (c 10), tW T (q 15) (q 16) (nI (L 2)) (c 11)])) hS5 => ?_)
    clear hP4 hD4 hS4
    refine ret_v hTG (Nat.le_refl _) (Nat.le_refl _) hx hb hr hlocks ((F, gq, pushS 0 cs c3_39, pushS 0 Ls L)) hP5 hD5 hS5 [0, 21, 22, 23, 24, 1, 2, 3, 4, 5, 6, 7, 8, 9, 10, 11, 12, 13, 14, 15, 16, 17, 18, 19, 20, 25, 26, 27, 28] rfl (by decide) dX0_keep_52 ?_
    exact ⟨hF, _, hq_39, rfl, rfl⟩
  · skip
    refine lv_aload_n hx hb dX0_keep_0 rfl (lv_at hl0 0 rfl) ?_
    refine r_get (own := RX0) (C := RX0) (F := TX0) (N := 2) (ci := 0) (v := .int (nI 1)) hx hb hK hts in_X0 hown hP0 0 rfl rfl 1 (by decide) kw_151 rfl dX0_keep_1 ?_
    refine lv_bipush (v := nI 6) hx hb dX0_keep_4 (by decide) ?_
    refine n_icmp_lt (tgt := 13) hx hb (by omega) (by omega) dX0_keep_6 (by decide) (fun c6 => ?_) (fun c6 => absurd (by decide) c6)
    refine lv_aload_n hx hb dX0_keep_13 rfl (lv_at hl0 0 rfl) ?_
    refine r_get (own := RX0) (C := RX0) (F := TX0) (N := 2) (ci := 0) (v := .int (nI 1)) hx hb hK hts in_X0 hown hP0 0 rfl rfl 1 (by decide) kw_151 rfl dX0_keep_14 ?_
    refine n_if_lt hx hb (by omega) dX0_keep_17 52 (by decide) ?_
    refine lv_aload_n hx hb dX0_keep_20 rfl (lv_at hl0 0 rfl) ?_
    refine r_get (own := RX0) (C := RX0) (F := TX0) (N := 2) (ci := 0) (v := .int (nI 1)) hx hb hK hts in_X0 hown hP0 0 rfl rfl 1 (by decide) kw_151 rfl dX0_keep_21 ?_
    refine lv_bipush (v := nI 6) hx hb dX0_keep_24 (by decide) ?_
    refine n_icmp_ge (tgt := 52) hx hb (by omega) (by omega) dX0_keep_26 (by decide) (fun c7 => absurd c7 (by decide)) (fun c7 => ?_)
    refine lv_aload_n hx hb dX0_keep_29 rfl (lv_at hl0 0 rfl) ?_
    refine r_get (own := RX0) (C := RX0) (F := TX0) (N := 2) (ci := 0) (v := .ref yb) hx hb hK hts in_X0 hown hP0 0 rfl rfl 0 (by decide) kw_150 rfl dX0_keep_30 ?_
    refine lv_aload_n hx hb dX0_keep_33 rfl (lv_at hl0 0 rfl) ?_
    refine r_get (own := RX0) (C := RX0) (F := TX0) (N := 2) (ci := 0) (v := .int (nI 1)) hx hb hK hts in_X0 hown hP0 0 rfl rfl 1 (by decide) kw_151 rfl dX0_keep_34 ?_
    refine r_aald (C := RX3) (v := ((gq 1) 0)) hx hb hK hP0 1 3 rfl rfl 1 (by decide) dX0_keep_37 (by decide) (hF 1 (by omega)) ?_
    refine lv_aload_n hx hb dX0_keep_38 rfl (lv_at hl0 1 rfl) ?_
    have hPc8 : va_P D vwCl (fl [sW T (gq 1) (cs 1), tW T ((gq 1) 11) ((gq 1) 12) (nI ((Ls 1) 0)) ((cs 1) 9), tW T ((gq 1) 13) ((gq 1) 14) (nI ((Ls 1) 1)) ((cs 1) 10), tW T ((gq 1) 15) ((gq 1) 16) (nI ((Ls 1) 2)) ((cs 1) 11), sW T q c, tW T (q 11) (q 12) (nI (L 0)) (c 9), tW T (q 13) (q 14) (nI (L 1)) (c 10), tW T (q 15) (q 16) (nI (L 2)) (c 11)]) _ := flP_sub hP0 [5, 6, 7, 8, 25, 26, 27, 28] rfl
    have hDc8 : va_D A (fl [sW T (gq 1) (cs 1), tW T ((gq 1) 11) ((gq 1) 12) (nI ((Ls 1) 0)) ((cs 1) 9), tW T ((gq 1) 13) ((gq 1) 14) (nI ((Ls 1) 1)) ((cs 1) 10), tW T ((gq 1) 15) ((gq 1) 16) (nI ((Ls 1) 2)) ((cs 1) 11), sW T q c, tW T (q 11) (q 12) (nI (L 0)) (c 9), tW T (q 13) (q 14) (nI (L 1)) (c 10), tW T (q 15) (q 16) (nI (L 2)) (c 11)]) := flD_sub hD0 [5, 6, 7, 8, 25, 26, 27, 28] (by decide) rfl
    refine cl_v (br := [yW T ya yb F (nI 1), sW T (gq 0) (cs 0), tW T ((gq 0) 11) ((gq 0) 12) (nI ((Ls 0) 0)) ((cs 0) 9), tW T ((gq 0) 13) ((gq 0) 14) (nI ((Ls 0) 1)) ((cs 0) 10), tW T ((gq 0) 15) ((gq 0) 16) (nI ((Ls 0) 2)) ((cs 0) 11), sW T (gq 2) (cs 2), tW T ((gq 2) 11) ((gq 2) 12) (nI ((Ls 2) 0)) ((cs 2) 9), tW T ((gq 2) 13) ((gq 2) 14) (nI ((Ls 2) 1)) ((cs 2) 10), tW T ((gq 2) 15) ((gq 2) 16) (nI ((Ls 2) 2)) ((cs 2) 11), sW T (gq 3) (cs 3), tW T ((gq 3) 11) ((gq 3) 12) (nI ((Ls 3) 0)) ((cs 3) 9), tW T ((gq 3) 13) ((gq 3) 14) (nI ((Ls 3) 1)) ((cs 3) 10), tW T ((gq 3) 15) ((gq 3) 16) (nI ((Ls 3) 2)) ((cs 3) 11), sW T (gq 4) (cs 4), tW T ((gq 4) 11) ((gq 4) 12) (nI ((Ls 4) 0)) ((cs 4) 9), tW T ((gq 4) 13) ((gq 4) 14) (nI ((Ls 4) 1)) ((cs 4) 10), tW T ((gq 4) 15) ((gq 4) 16) (nI ((Ls 4) 2)) ((cs 4) 11), sW T (gq 5) (cs 5), tW T ((gq 5) 11) ((gq 5) 12) (nI ((Ls 5) 0)) ((cs 5) 9), tW T ((gq 5) 13) ((gq 5) 14) (nI ((Ls 5) 1)) ((cs 5) 10), tW T ((gq 5) 15) ((gq 5) 16) (nI ((Ls 5) 2)) ((cs 5) 11)]) (va_runV (As := [.ref (q 0)]) (rest := []) ⟨hx, hb, hml, hown, hts⟩ (c_X3_copyFrom l D T (gq 1) (cs 1) (Ls 1) q c L (by omega) (by omega) _) (mkV hts okX3_copyFrom kw_505 kw_230 kw_231 ⟨rfl, rfl, Nat.le_of_ble_eq_true rfl, Nat.le_of_ble_eq_true rfl⟩) (pv_rw hK hPc8 hDc8 (q0 := 0) rfl rfl rfl) rfl rfl hl0.1 rfl (lv_room (Nat.le_of_ble_eq_true rfl)) dX0_keep_39 ⟨Nat.le_of_ble_eq_true rfl, Nat.le_of_ble_eq_true rfl⟩) hP0 hD0 hS0 hA [0, 1, 2, 3, 4, 9, 10, 11, 12, 13, 14, 15, 16, 17, 18, 19, 20, 21, 22, 23, 24] [5, 6, 7, 8, 25, 26, 27, 28] rfl (by decide) (fun c3_39 H9 locs9 hq_39 hP9 hD9 hS9 => ?_)
    clear hP0 hD0 hS0 hPc8 hDc8
    have hP9 : va_P D vwCl (fl [yW T ya yb F (nI 1), sW T (gq 0) (cs 0), tW T ((gq 0) 11) ((gq 0) 12) (nI ((Ls 0) 0)) ((cs 0) 9), tW T ((gq 0) 13) ((gq 0) 14) (nI ((Ls 0) 1)) ((cs 0) 10), tW T ((gq 0) 15) ((gq 0) 16) (nI ((Ls 0) 2)) ((cs 0) 11), sW T (gq 2) (cs 2), tW T ((gq 2) 11) ((gq 2) 12) (nI ((Ls 2) 0)) ((cs 2) 9), tW T ((gq 2) 13) ((gq 2) 14) (nI ((Ls 2) 1)) ((cs 2) 10), tW T ((gq 2) 15) ((gq 2) 16) (nI ((Ls 2) 2)) ((cs 2) 11), sW T (gq 3) (cs 3), tW T ((gq 3) 11) ((gq 3) 12) (nI ((Ls 3) 0)) ((cs 3) 9), tW T ((gq 3) 13) ((gq 3) 14) (nI ((Ls 3) 1)) ((cs 3) 10), tW T ((gq 3) 15) ((gq 3) 16) (nI ((Ls 3) 2)) ((cs 3) 11), sW T (gq 4) (cs 4), tW T ((gq 4) 11) ((gq 4) 12) (nI ((Ls 4) 0)) ((cs 4) 9), tW T ((gq 4) 13) ((gq 4) 14) (nI ((Ls 4) 1)) ((cs 4) 10), tW T ((gq 4) 15) ((gq 4) 16) (nI ((Ls 4) 2)) ((cs 4) 11), sW T (gq 5) (cs 5), tW T ((gq 5) 11) ((gq 5) 12) (nI ((Ls 5) 0)) ((cs 5) 9), tW T ((gq 5) 13) ((gq 5) 14) (nI ((Ls 5) 1)) ((cs 5) 10), tW T ((gq 5) 15) ((gq 5) 16) (nI ((Ls 5) 2)) ((cs 5) 11), sW T (gq 1) c3_39, tW T ((gq 1) 11) ((gq 1) 12) (nI (L 0)) (c3_39 9), tW T ((gq 1) 13) ((gq 1) 14) (nI (L 1)) (c3_39 10), tW T ((gq 1) 15) ((gq 1) 16) (nI (L 2)) (c3_39 11), sW T q c, tW T (q 11) (q 12) (nI (L 0)) (c 9), tW T (q 13) (q 14) (nI (L 1)) (c 10), tW T (q 15) (q 16) (nI (L 2)) (c 11)]) _ := hP9
    have hD9 : va_D A (fl [yW T ya yb F (nI 1), sW T (gq 0) (cs 0), tW T ((gq 0) 11) ((gq 0) 12) (nI ((Ls 0) 0)) ((cs 0) 9), tW T ((gq 0) 13) ((gq 0) 14) (nI ((Ls 0) 1)) ((cs 0) 10), tW T ((gq 0) 15) ((gq 0) 16) (nI ((Ls 0) 2)) ((cs 0) 11), sW T (gq 2) (cs 2), tW T ((gq 2) 11) ((gq 2) 12) (nI ((Ls 2) 0)) ((cs 2) 9), tW T ((gq 2) 13) ((gq 2) 14) (nI ((Ls 2) 1)) ((cs 2) 10), tW T ((gq 2) 15) ((gq 2) 16) (nI ((Ls 2) 2)) ((cs 2) 11), sW T (gq 3) (cs 3), tW T ((gq 3) 11) ((gq 3) 12) (nI ((Ls 3) 0)) ((cs 3) 9), tW T ((gq 3) 13) ((gq 3) 14) (nI ((Ls 3) 1)) ((cs 3) 10), tW T ((gq 3) 15) ((gq 3) 16) (nI ((Ls 3) 2)) ((cs 3) 11), sW T (gq 4) (cs 4), tW T ((gq 4) 11) ((gq 4) 12) (nI ((Ls 4) 0)) ((cs 4) 9), tW T ((gq 4) 13) ((gq 4) 14) (nI ((Ls 4) 1)) ((cs 4) 10), tW T ((gq 4) 15) ((gq 4) 16) (nI ((Ls 4) 2)) ((cs 4) 11), sW T (gq 5) (cs 5), tW T ((gq 5) 11) ((gq 5) 12) (nI ((Ls 5) 0)) ((cs 5) 9), tW T ((gq 5) 13) ((gq 5) 14) (nI ((Ls 5) 1)) ((cs 5) 10), tW T ((gq 5) 15) ((gq 5) 16) (nI ((Ls 5) 2)) ((cs 5) 11), sW T (gq 1) c3_39, tW T ((gq 1) 11) ((gq 1) 12) (nI (L 0)) (c3_39 9), tW T ((gq 1) 13) ((gq 1) 14) (nI (L 1)) (c3_39 10), tW T ((gq 1) 15) ((gq 1) 16) (nI (L 2)) (c3_39 11), sW T q c, tW T (q 11) (q 12) (nI (L 0)) (c 9), tW T (q 13) (q 14) (nI (L 1)) (c 10), tW T (q 15) (q 16) (nI (L 2)) (c 11)]) := hD9
    have hq_39 : Eqv c3_39 c := hq_39
    refine lv_aload_n hx hb dX0_keep_42 rfl (lv_at hl0 0 rfl) ?_
    refine lv_dup hx hb dX0_keep_43 rfl ?_
    refine r_get (own := RX0) (C := RX0) (F := TX0) (N := 2) (ci := 0) (v := .int (nI 1)) hx hb hK hts in_X0 hown hP9 0 rfl rfl 1 (by decide) kw_151 rfl dX0_keep_44 ?_
    refine lv_iconst (v := nI 1) hx hb dX0_keep_47 (by decide) ?_
    refine lv_iadd hx hb dX0_keep_48 ?_
    refine tp_i (y := nI 2) (by decide) ?_
    refine r_put (own := RX0) (C := RX0) (F := TX0) (N := 2) (ci := 0) (v := nI 2) hx hb hK hts in_X0 tyX0 tyX0_ok nmX0 hown hP9 hD9 hS9 0 rfl rfl 1 (by decide) kw_151 rfl rfl (Nat.le_of_ble_eq_true rfl) dX0_keep_49 (fun (H10 : Heap) (locs10 : List Loc) (hP10 : va_P D vwCl (fl [yW T ya yb F (nI 2), sW T (gq 0) (cs 0), tW T ((gq 0) 11) ((gq 0) 12) (nI ((Ls 0) 0)) ((cs 0) 9), tW T ((gq 0) 13) ((gq 0) 14) (nI ((Ls 0) 1)) ((cs 0) 10), tW T ((gq 0) 15) ((gq 0) 16) (nI ((Ls 0) 2)) ((cs 0) 11), sW T (gq 2) (cs 2), tW T ((gq 2) 11) ((gq 2) 12) (nI ((Ls 2) 0)) ((cs 2) 9), tW T ((gq 2) 13) ((gq 2) 14) (nI ((Ls 2) 1)) ((cs 2) 10), tW T ((gq 2) 15) ((gq 2) 16) (nI ((Ls 2) 2)) ((cs 2) 11), sW T (gq 3) (cs 3), tW T ((gq 3) 11) ((gq 3) 12) (nI ((Ls 3) 0)) ((cs 3) 9), tW T ((gq 3) 13) ((gq 3) 14) (nI ((Ls 3) 1)) ((cs 3) 10), tW T ((gq 3) 15) ((gq 3) 16) (nI ((Ls 3) 2)) ((cs 3) 11), sW T (gq 4) (cs 4), tW T ((gq 4) 11) ((gq 4) 12) (nI ((Ls 4) 0)) ((cs 4) 9), tW T ((gq 4) 13) ((gq 4) 14) (nI ((Ls 4) 1)) ((cs 4) 10), tW T ((gq 4) 15) ((gq 4) 16) (nI ((Ls 4) 2)) ((cs 4) 11), sW T (gq 5) (cs 5), tW T ((gq 5) 11) ((gq 5) 12) (nI ((Ls 5) 0)) ((cs 5) 9), tW T ((gq 5) 13) ((gq 5) 14) (nI ((Ls 5) 1)) ((cs 5) 10), tW T ((gq 5) 15) ((gq 5) 16) (nI ((Ls 5) 2)) ((cs 5) 11), sW T (gq 1) c3_39, tW T ((gq 1) 11) ((gq 1) 12) (nI (L 0)) (c3_39 9), tW T ((gq 1) 13) ((gq 1) 14) (nI (L 1)) (c3_39 10), tW T ((gq 1) 15) ((gq 1) 16) (nI (L 2)) (c3_39 11), sW T q c, tW T (q 11) (q 12) (nI (L 0)) (c 9), tW T (q 13) (q 14) (nI (L 1)) (c 10), tW T (q 15) (q 16) (nI (L 2)) (c 11)]) H10) (hD10 : va_D A (fl [yW T ya yb F (nI 2), sW T (gq 0) (cs 0), tW T ((gq 0) 11) ((gq 0) 12) (nI ((Ls 0) 0)) ((cs 0) 9), tW T ((gq 0) 13) ((gq 0) 14) (nI ((Ls 0) 1)) ((cs 0) 10), tW T ((gq 0) 15) ((gq 0) 16) (nI ((Ls 0) 2)) ((cs 0) 11), sW T (gq 2) (cs 2), tW T ((gq 2) 11) ((gq 2) 12) (nI ((Ls 2) 0)) ((cs 2) 9), tW T ((gq 2) 13) ((gq 2) 14) (nI ((Ls 2) 1)) ((cs 2) 10), tW T ((gq 2) 15) ((gq 2) 16) (nI ((Ls 2) 2)) ((cs 2) 11), sW T (gq 3) (cs 3), tW T ((gq 3) 11) ((gq 3) 12) (nI ((Ls 3) 0)) ((cs 3) 9), tW T ((gq 3) 13) ((gq 3) 14) (nI ((Ls 3) 1)) ((cs 3) 10), tW T ((gq 3) 15) ((gq 3) 16) (nI ((Ls 3) 2)) ((cs 3) 11), sW T (gq 4) (cs 4), tW T ((gq 4) 11) ((gq 4) 12) (nI ((Ls 4) 0)) ((cs 4) 9), tW T ((gq 4) 13) ((gq 4) 14) (nI ((Ls 4) 1)) ((cs 4) 10), tW T ((gq 4) 15) ((gq 4) 16) (nI ((Ls 4) 2)) ((cs 4) 11), sW T (gq 5) (cs 5), tW T ((gq 5) 11) ((gq 5) 12) (nI ((Ls 5) 0)) ((cs 5) 9), tW T ((gq 5) 13) ((gq 5) 14) (nI ((Ls 5) 1)) ((cs 5) 10), tW T ((gq 5) 15) ((gq 5) 16) (nI ((Ls 5) 2)) ((cs 5) 11), sW T (gq 1) c3_39, tW T ((gq 1) 11) ((gq 1) 12) (nI (L 0)) (c3_39 9), tW T ((gq 1) 13) ((gq 1) 14) (nI (L 1)) (c3_39 10), tW T ((gq 1) 15) ((gq 1) 16) (nI (L 2)) (c3_39 11), sW T q c, tW T (q 11) (q 12) (nI (L 0)) (c 9), tW T (q 13) (q 14) (nI (L 1)) (c 10), tW T (q 15) (q 16) (nI (L 2)) (c 11)])) hS10 => ?_)
    clear hP9 hD9 hS9
    refine ret_v hTG (Nat.le_refl _) (Nat.le_refl _) hx hb hr hlocks ((F, gq, pushS 1 cs c3_39, pushS 1 Ls L)) hP10 hD10 hS10 [0, 1, 2, 3, 4, 21, 22, 23, 24, 5, 6, 7, 8, 9, 10, 11, 12, 13, 14, 15, 16, 17, 18, 19, 20, 25, 26, 27, 28] rfl (by decide) dX0_keep_52 ?_
    exact ⟨hF, _, hq_39, rfl, rfl⟩
  · skip
    refine lv_aload_n hx hb dX0_keep_0 rfl (lv_at hl0 0 rfl) ?_
    refine r_get (own := RX0) (C := RX0) (F := TX0) (N := 2) (ci := 0) (v := .int (nI 2)) hx hb hK hts in_X0 hown hP0 0 rfl rfl 1 (by decide) kw_151 rfl dX0_keep_1 ?_
    refine lv_bipush (v := nI 6) hx hb dX0_keep_4 (by decide) ?_
    refine n_icmp_lt (tgt := 13) hx hb (by omega) (by omega) dX0_keep_6 (by decide) (fun c11 => ?_) (fun c11 => absurd (by decide) c11)
    refine lv_aload_n hx hb dX0_keep_13 rfl (lv_at hl0 0 rfl) ?_
    refine r_get (own := RX0) (C := RX0) (F := TX0) (N := 2) (ci := 0) (v := .int (nI 2)) hx hb hK hts in_X0 hown hP0 0 rfl rfl 1 (by decide) kw_151 rfl dX0_keep_14 ?_
    refine n_if_lt hx hb (by omega) dX0_keep_17 52 (by decide) ?_
    refine lv_aload_n hx hb dX0_keep_20 rfl (lv_at hl0 0 rfl) ?_
    refine r_get (own := RX0) (C := RX0) (F := TX0) (N := 2) (ci := 0) (v := .int (nI 2)) hx hb hK hts in_X0 hown hP0 0 rfl rfl 1 (by decide) kw_151 rfl dX0_keep_21 ?_
    refine lv_bipush (v := nI 6) hx hb dX0_keep_24 (by decide) ?_
    refine n_icmp_ge (tgt := 52) hx hb (by omega) (by omega) dX0_keep_26 (by decide) (fun c12 => absurd c12 (by decide)) (fun c12 => ?_)
    refine lv_aload_n hx hb dX0_keep_29 rfl (lv_at hl0 0 rfl) ?_
    refine r_get (own := RX0) (C := RX0) (F := TX0) (N := 2) (ci := 0) (v := .ref yb) hx hb hK hts in_X0 hown hP0 0 rfl rfl 0 (by decide) kw_150 rfl dX0_keep_30 ?_
    refine lv_aload_n hx hb dX0_keep_33 rfl (lv_at hl0 0 rfl) ?_
    refine r_get (own := RX0) (C := RX0) (F := TX0) (N := 2) (ci := 0) (v := .int (nI 2)) hx hb hK hts in_X0 hown hP0 0 rfl rfl 1 (by decide) kw_151 rfl dX0_keep_34 ?_
    refine r_aald (C := RX3) (v := ((gq 2) 0)) hx hb hK hP0 1 3 rfl rfl 2 (by decide) dX0_keep_37 (by decide) (hF 2 (by omega)) ?_
    refine lv_aload_n hx hb dX0_keep_38 rfl (lv_at hl0 1 rfl) ?_
    have hPc13 : va_P D vwCl (fl [sW T (gq 2) (cs 2), tW T ((gq 2) 11) ((gq 2) 12) (nI ((Ls 2) 0)) ((cs 2) 9), tW T ((gq 2) 13) ((gq 2) 14) (nI ((Ls 2) 1)) ((cs 2) 10), tW T ((gq 2) 15) ((gq 2) 16) (nI ((Ls 2) 2)) ((cs 2) 11), sW T q c, tW T (q 11) (q 12) (nI (L 0)) (c 9), tW T (q 13) (q 14) (nI (L 1)) (c 10), tW T (q 15) (q 16) (nI (L 2)) (c 11)]) _ := flP_sub hP0 [9, 10, 11, 12, 25, 26, 27, 28] rfl
    have hDc13 : va_D A (fl [sW T (gq 2) (cs 2), tW T ((gq 2) 11) ((gq 2) 12) (nI ((Ls 2) 0)) ((cs 2) 9), tW T ((gq 2) 13) ((gq 2) 14) (nI ((Ls 2) 1)) ((cs 2) 10), tW T ((gq 2) 15) ((gq 2) 16) (nI ((Ls 2) 2)) ((cs 2) 11), sW T q c, tW T (q 11) (q 12) (nI (L 0)) (c 9), tW T (q 13) (q 14) (nI (L 1)) (c 10), tW T (q 15) (q 16) (nI (L 2)) (c 11)]) := flD_sub hD0 [9, 10, 11, 12, 25, 26, 27, 28] (by decide) rfl
    refine cl_v (br := [yW T ya yb F (nI 2), sW T (gq 0) (cs 0), tW T ((gq 0) 11) ((gq 0) 12) (nI ((Ls 0) 0)) ((cs 0) 9), tW T ((gq 0) 13) ((gq 0) 14) (nI ((Ls 0) 1)) ((cs 0) 10), tW T ((gq 0) 15) ((gq 0) 16) (nI ((Ls 0) 2)) ((cs 0) 11), sW T (gq 1) (cs 1), tW T ((gq 1) 11) ((gq 1) 12) (nI ((Ls 1) 0)) ((cs 1) 9), tW T ((gq 1) 13) ((gq 1) 14) (nI ((Ls 1) 1)) ((cs 1) 10), tW T ((gq 1) 15) ((gq 1) 16) (nI ((Ls 1) 2)) ((cs 1) 11), sW T (gq 3) (cs 3), tW T ((gq 3) 11) ((gq 3) 12) (nI ((Ls 3) 0)) ((cs 3) 9), tW T ((gq 3) 13) ((gq 3) 14) (nI ((Ls 3) 1)) ((cs 3) 10), tW T ((gq 3) 15) ((gq 3) 16) (nI ((Ls 3) 2)) ((cs 3) 11), sW T (gq 4) (cs 4), tW T ((gq 4) 11) ((gq 4) 12) (nI ((Ls 4) 0)) ((cs 4) 9), tW T ((gq 4) 13) ((gq 4) 14) (nI ((Ls 4) 1)) ((cs 4) 10), tW T ((gq 4) 15) ((gq 4) 16) (nI ((Ls 4) 2)) ((cs 4) 11), sW T (gq 5) (cs 5), tW T ((gq 5) 11) ((gq 5) 12) (nI ((Ls 5) 0)) ((cs 5) 9), tW T ((gq 5) 13) ((gq 5) 14) (nI ((Ls 5) 1)) ((cs 5) 10), tW T ((gq 5) 15) ((gq 5) 16) (nI ((Ls 5) 2)) ((cs 5) 11)]) (va_runV (As := [.ref (q 0)]) (rest := []) ⟨hx, hb, hml, hown, hts⟩ (c_X3_copyFrom l D T (gq 2) (cs 2) (Ls 2) q c L (by omega) (by omega) _) (mkV hts okX3_copyFrom kw_505 kw_230 kw_231 ⟨rfl, rfl, Nat.le_of_ble_eq_true rfl, Nat.le_of_ble_eq_true rfl⟩) (pv_rw hK hPc13 hDc13 (q0 := 0) rfl rfl rfl) rfl rfl hl0.1 rfl (lv_room (Nat.le_of_ble_eq_true rfl)) dX0_keep_39 ⟨Nat.le_of_ble_eq_true rfl, Nat.le_of_ble_eq_true rfl⟩) hP0 hD0 hS0 hA [0, 1, 2, 3, 4, 5, 6, 7, 8, 13, 14, 15, 16, 17, 18, 19, 20, 21, 22, 23, 24] [9, 10, 11, 12, 25, 26, 27, 28] rfl (by decide) (fun c3_39 H14 locs14 hq_39 hP14 hD14 hS14 => ?_)
    clear hP0 hD0 hS0 hPc13 hDc13
    have hP14 : va_P D vwCl (fl [yW T ya yb F (nI 2), sW T (gq 0) (cs 0), tW T ((gq 0) 11) ((gq 0) 12) (nI ((Ls 0) 0)) ((cs 0) 9), tW T ((gq 0) 13) ((gq 0) 14) (nI ((Ls 0) 1)) ((cs 0) 10), tW T ((gq 0) 15) ((gq 0) 16) (nI ((Ls 0) 2)) ((cs 0) 11), sW T (gq 1) (cs 1), tW T ((gq 1) 11) ((gq 1) 12) (nI ((Ls 1) 0)) ((cs 1) 9), tW T ((gq 1) 13) ((gq 1) 14) (nI ((Ls 1) 1)) ((cs 1) 10), tW T ((gq 1) 15) ((gq 1) 16) (nI ((Ls 1) 2)) ((cs 1) 11), sW T (gq 3) (cs 3), tW T ((gq 3) 11) ((gq 3) 12) (nI ((Ls 3) 0)) ((cs 3) 9), tW T ((gq 3) 13) ((gq 3) 14) (nI ((Ls 3) 1)) ((cs 3) 10), tW T ((gq 3) 15) ((gq 3) 16) (nI ((Ls 3) 2)) ((cs 3) 11), sW T (gq 4) (cs 4), tW T ((gq 4) 11) ((gq 4) 12) (nI ((Ls 4) 0)) ((cs 4) 9), tW T ((gq 4) 13) ((gq 4) 14) (nI ((Ls 4) 1)) ((cs 4) 10), tW T ((gq 4) 15) ((gq 4) 16) (nI ((Ls 4) 2)) ((cs 4) 11), sW T (gq 5) (cs 5), tW T ((gq 5) 11) ((gq 5) 12) (nI ((Ls 5) 0)) ((cs 5) 9), tW T ((gq 5) 13) ((gq 5) 14) (nI ((Ls 5) 1)) ((cs 5) 10), tW T ((gq 5) 15) ((gq 5) 16) (nI ((Ls 5) 2)) ((cs 5) 11), sW T (gq 2) c3_39, tW T ((gq 2) 11) ((gq 2) 12) (nI (L 0)) (c3_39 9), tW T ((gq 2) 13) ((gq 2) 14) (nI (L 1)) (c3_39 10), tW T ((gq 2) 15) ((gq 2) 16) (nI (L 2)) (c3_39 11), sW T q c, tW T (q 11) (q 12) (nI (L 0)) (c 9), tW T (q 13) (q 14) (nI (L 1)) (c 10), tW T (q 15) (q 16) (nI (L 2)) (c 11)]) _ := hP14
    have hD14 : va_D A (fl [yW T ya yb F (nI 2), sW T (gq 0) (cs 0), tW T ((gq 0) 11) ((gq 0) 12) (nI ((Ls 0) 0)) ((cs 0) 9), tW T ((gq 0) 13) ((gq 0) 14) (nI ((Ls 0) 1)) ((cs 0) 10), tW T ((gq 0) 15) ((gq 0) 16) (nI ((Ls 0) 2)) ((cs 0) 11), sW T (gq 1) (cs 1), tW T ((gq 1) 11) ((gq 1) 12) (nI ((Ls 1) 0)) ((cs 1) 9), tW T ((gq 1) 13) ((gq 1) 14) (nI ((Ls 1) 1)) ((cs 1) 10), tW T ((gq 1) 15) ((gq 1) 16) (nI ((Ls 1) 2)) ((cs 1) 11), sW T (gq 3) (cs 3), tW T ((gq 3) 11) ((gq 3) 12) (nI ((Ls 3) 0)) ((cs 3) 9), tW T ((gq 3) 13) ((gq 3) 14) (nI ((Ls 3) 1)) ((cs 3) 10), tW T ((gq 3) 15) ((gq 3) 16) (nI ((Ls 3) 2)) ((cs 3) 11), sW T (gq 4) (cs 4), tW T ((gq 4) 11) ((gq 4) 12) (nI ((Ls 4) 0)) ((cs 4) 9), tW T ((gq 4) 13) ((gq 4) 14) (nI ((Ls 4) 1)) ((cs 4) 10), tW T ((gq 4) 15) ((gq 4) 16) (nI ((Ls 4) 2)) ((cs 4) 11), sW T (gq 5) (cs 5), tW T ((gq 5) 11) ((gq 5) 12) (nI ((Ls 5) 0)) ((cs 5) 9), tW T ((gq 5) 13) ((gq 5) 14) (nI ((Ls 5) 1)) ((cs 5) 10), tW T ((gq 5) 15) ((gq 5) 16) (nI ((Ls 5) 2)) ((cs 5) 11), sW T (gq 2) c3_39, tW T ((gq 2) 11) ((gq 2) 12) (nI (L 0)) (c3_39 9), tW T ((gq 2) 13) ((gq 2) 14) (nI (L 1)) (c3_39 10), tW T ((gq 2) 15) ((gq 2) 16) (nI (L 2)) (c3_39 11), sW T q c, tW T (q 11) (q 12) (nI (L 0)) (c 9), tW T (q 13) (q 14) (nI (L 1)) (c 10), tW T (q 15) (q 16) (nI (L 2)) (c 11)]) := hD14
    have hq_39 : Eqv c3_39 c := hq_39
    refine lv_aload_n hx hb dX0_keep_42 rfl (lv_at hl0 0 rfl) ?_
    refine lv_dup hx hb dX0_keep_43 rfl ?_
    refine r_get (own := RX0) (C := RX0) (F := TX0) (N := 2) (ci := 0) (v := .int (nI 2)) hx hb hK hts in_X0 hown hP14 0 rfl rfl 1 (by decide) kw_151 rfl dX0_keep_44 ?_
    refine lv_iconst (v := nI 1) hx hb dX0_keep_47 (by decide) ?_
    refine lv_iadd hx hb dX0_keep_48 ?_
    refine tp_i (y := nI 3) (by decide) ?_
    refine r_put (own := RX0) (C := RX0) (F := TX0) (N := 2) (ci := 0) (v := nI 3) hx hb hK hts in_X0 tyX0 tyX0_ok nmX0 hown hP14 hD14 hS14 0 rfl rfl 1 (by decide) kw_151 rfl rfl (Nat.le_of_ble_eq_true rfl) dX0_keep_49 (fun (H15 : Heap) (locs15 : List Loc) (hP15 : va_P D vwCl (fl [yW T ya yb F (nI 3), sW T (gq 0) (cs 0), tW T ((gq 0) 11) ((gq 0) 12) (nI ((Ls 0) 0)) ((cs 0) 9), tW T ((gq 0) 13) ((gq 0) 14) (nI ((Ls 0) 1)) ((cs 0) 10), tW T ((gq 0) 15) ((gq 0) 16) (nI ((Ls 0) 2)) ((cs 0) 11), sW T (gq 1) (cs 1), tW T ((gq 1) 11) ((gq 1) 12) (nI ((Ls 1) 0)) ((cs 1) 9), tW T ((gq 1) 13) ((gq 1) 14) (nI ((Ls 1) 1)) ((cs 1) 10), tW T ((gq 1) 15) ((gq 1) 16) (nI ((Ls 1) 2)) ((cs 1) 11), sW T (gq 3) (cs 3), tW T ((gq 3) 11) ((gq 3) 12) (nI ((Ls 3) 0)) ((cs 3) 9), tW T ((gq 3) 13) ((gq 3) 14) (nI ((Ls 3) 1)) ((cs 3) 10), tW T ((gq 3) 15) ((gq 3) 16) (nI ((Ls 3) 2)) ((cs 3) 11), sW T (gq 4) (cs 4), tW T ((gq 4) 11) ((gq 4) 12) (nI ((Ls 4) 0)) ((cs 4) 9), tW T ((gq 4) 13) ((gq 4) 14) (nI ((Ls 4) 1)) ((cs 4) 10), tW T ((gq 4) 15) ((gq 4) 16) (nI ((Ls 4) 2)) ((cs 4) 11), sW T (gq 5) (cs 5), tW T ((gq 5) 11) ((gq 5) 12) (nI ((Ls 5) 0)) ((cs 5) 9), tW T ((gq 5) 13) ((gq 5) 14) (nI ((Ls 5) 1)) ((cs 5) 10), tW T ((gq 5) 15) ((gq 5) 16) (nI ((Ls 5) 2)) ((cs 5) 11), sW T (gq 2) c3_39, tW T ((gq 2) 11) ((gq 2) 12) (nI (L 0)) (c3_39 9), tW T ((gq 2) 13) ((gq 2) 14) (nI (L 1)) (c3_39 10), tW T ((gq 2) 15) ((gq 2) 16) (nI (L 2)) (c3_39 11), sW T q c, tW T (q 11) (q 12) (nI (L 0)) (c 9), tW T (q 13) (q 14) (nI (L 1)) (c 10), tW T (q 15) (q 16) (nI (L 2)) (c 11)]) H15) (hD15 : va_D A (fl [yW T ya yb F (nI 3), sW T (gq 0) (cs 0), tW T ((gq 0) 11) ((gq 0) 12) (nI ((Ls 0) 0)) ((cs 0) 9), tW T ((gq 0) 13) ((gq 0) 14) (nI ((Ls 0) 1)) ((cs 0) 10), tW T ((gq 0) 15) ((gq 0) 16) (nI ((Ls 0) 2)) ((cs 0) 11), sW T (gq 1) (cs 1), tW T ((gq 1) 11) ((gq 1) 12) (nI ((Ls 1) 0)) ((cs 1) 9), tW T ((gq 1) 13) ((gq 1) 14) (nI ((Ls 1) 1)) ((cs 1) 10), tW T ((gq 1) 15) ((gq 1) 16) (nI ((Ls 1) 2)) ((cs 1) 11), sW T (gq 3) (cs 3), tW T ((gq 3) 11) ((gq 3) 12) (nI ((Ls 3) 0)) ((cs 3) 9), tW T ((gq 3) 13) ((gq 3) 14) (nI ((Ls 3) 1)) ((cs 3) 10), tW T ((gq 3) 15) ((gq 3) 16) (nI ((Ls 3) 2)) ((cs 3) 11), sW T (gq 4) (cs 4), tW T ((gq 4) 11) ((gq 4) 12) (nI ((Ls 4) 0)) ((cs 4) 9), tW T ((gq 4) 13) ((gq 4) 14) (nI ((Ls 4) 1)) ((cs 4) 10), tW T ((gq 4) 15) ((gq 4) 16) (nI ((Ls 4) 2)) ((cs 4) 11), sW T (gq 5) (cs 5), tW T ((gq 5) 11) ((gq 5) 12) (nI ((Ls 5) 0)) ((cs 5) 9), tW T ((gq 5) 13) ((gq 5) 14) (nI ((Ls 5) 1)) ((cs 5) 10), tW T ((gq 5) 15) ((gq 5) 16) (nI ((Ls 5) 2)) ((cs 5) 11), sW T (gq 2) c3_39, tW T ((gq 2) 11) ((gq 2) 12) (nI (L 0)) (c3_39 9), tW T ((gq 2) 13) ((gq 2) 14) (nI (L 1)) (c3_39 10), tW T ((gq 2) 15) ((gq 2) 16) (nI (L 2)) (c3_39 11), sW T q c, tW T (q 11) (q 12) (nI (L 0)) (c 9), tW T (q 13) (q 14) (nI (L 1)) (c 10), tW T (q 15) (q 16) (nI (L 2)) (c 11)])) hS15 => ?_)
    clear hP14 hD14 hS14
    refine ret_v hTG (Nat.le_refl _) (Nat.le_refl _) hx hb hr hlocks ((F, gq, pushS 2 cs c3_39, pushS 2 Ls L)) hP15 hD15 hS15 [0, 1, 2, 3, 4, 5, 6, 7, 8, 21, 22, 23, 24, 9, 10, 11, 12, 13, 14, 15, 16, 17, 18, 19, 20, 25, 26, 27, 28] rfl (by decide) dX0_keep_52 ?_
    exact ⟨hF, _, hq_39, rfl, rfl⟩
  · skip
    refine lv_aload_n hx hb dX0_keep_0 rfl (lv_at hl0 0 rfl) ?_
    refine r_get (own := RX0) (C := RX0) (F := TX0) (N := 2) (ci := 0) (v := .int (nI 3)) hx hb hK hts in_X0 hown hP0 0 rfl rfl 1 (by decide) kw_151 rfl dX0_keep_1 ?_
    refine lv_bipush (v := nI 6) hx hb dX0_keep_4 (by decide) ?_
    refine n_icmp_lt (tgt := 13) hx hb (by omega) (by omega) dX0_keep_6 (by decide) (fun c16 => ?_) (fun c16 => absurd (by decide) c16)
    refine lv_aload_n hx hb dX0_keep_13 rfl (lv_at hl0 0 rfl) ?_
    refine r_get (own := RX0) (C := RX0) (F := TX0) (N := 2) (ci := 0) (v := .int (nI 3)) hx hb hK hts in_X0 hown hP0 0 rfl rfl 1 (by decide) kw_151 rfl dX0_keep_14 ?_
    refine n_if_lt hx hb (by omega) dX0_keep_17 52 (by decide) ?_
    refine lv_aload_n hx hb dX0_keep_20 rfl (lv_at hl0 0 rfl) ?_
    refine r_get (own := RX0) (C := RX0) (F := TX0) (N := 2) (ci := 0) (v := .int (nI 3)) hx hb hK hts in_X0 hown hP0 0 rfl rfl 1 (by decide) kw_151 rfl dX0_keep_21 ?_
    refine lv_bipush (v := nI 6) hx hb dX0_keep_24 (by decide) ?_
    refine n_icmp_ge (tgt := 52) hx hb (by omega) (by omega) dX0_keep_26 (by decide) (fun c17 => absurd c17 (by decide)) (fun c17 => ?_)
    refine lv_aload_n hx hb dX0_keep_29 rfl (lv_at hl0 0 rfl) ?_
    refine r_get (own := RX0) (C := RX0) (F := TX0) (N := 2) (ci := 0) (v := .ref yb) hx hb hK hts in_X0 hown hP0 0 rfl rfl 0 (by decide) kw_150 rfl dX0_keep_30 ?_
    refine lv_aload_n hx hb dX0_keep_33 rfl (lv_at hl0 0 rfl) ?_
    refine r_get (own := RX0) (C := RX0) (F := TX0) (N := 2) (ci := 0) (v := .int (nI 3)) hx hb hK hts in_X0 hown hP0 0 rfl rfl 1 (by decide) kw_151 rfl dX0_keep_34 ?_
    refine r_aald (C := RX3) (v := ((gq 3) 0)) hx hb hK hP0 1 3 rfl rfl 3 (by decide) dX0_keep_37 (by decide) (hF 3 (by omega)) ?_
    refine lv_aload_n hx hb dX0_keep_38 rfl (lv_at hl0 1 rfl) ?_
    have hPc18 : va_P D vwCl (fl [sW T (gq 3) (cs 3), tW T ((gq 3) 11) ((gq 3) 12) (nI ((Ls 3) 0)) ((cs 3) 9), tW T ((gq 3) 13) ((gq 3) 14) (nI ((Ls 3) 1)) ((cs 3) 10), tW T ((gq 3) 15) ((gq 3) 16) (nI ((Ls 3) 2)) ((cs 3) 11), sW T q c, tW T (q 11) (q 12) (nI (L 0)) (c 9), tW T (q 13) (q 14) (nI (L 1)) (c 10), tW T (q 15) (q 16) (nI (L 2)) (c 11)]) _ := flP_sub hP0 [13, 14, 15, 16, 25, 26, 27, 28] rfl
    have hDc18 : va_D A (fl [sW T (gq 3) (cs 3), tW T ((gq 3) 11) ((gq 3) 12) (nI ((Ls 3) 0)) ((cs 3) 9), tW T ((gq 3) 13) ((gq 3) 14) (nI ((Ls 3) 1)) ((cs 3) 10), tW T ((gq 3) 15) ((gq 3) 16) (nI ((Ls 3) 2)) ((cs 3) 11), sW T q c, tW T (q 11) (q 12) (nI (L 0)) (c 9), tW T (q 13) (q 14) (nI (L 1)) (c 10), tW T (q 15) (q 16) (nI (L 2)) (c 11)]) := flD_sub hD0 [13, 14, 15, 16, 25, 26, 27, 28] (by decide) rfl
    refine cl_v (br := [yW T ya yb F (nI 3), sW T (gq 0) (cs 0), tW T ((gq 0) 11) ((gq 0) 12) (nI ((Ls 0) 0)) ((cs 0) 9), tW T ((gq 0) 13) ((gq 0) 14) (nI ((Ls 0) 1)) ((cs 0) 10), tW T ((gq 0) 15) ((gq 0) 16) (nI ((Ls 0) 2)) ((cs 0) 11), sW T (gq 1) (cs 1), tW T ((gq 1) 11) ((gq 1) 12) (nI ((Ls 1) 0)) ((cs 1) 9), tW T ((gq 1) 13) ((gq 1) 14) (nI ((Ls 1) 1)) ((cs 1) 10), tW T ((gq 1) 15) ((gq 1) 16) (nI ((Ls 1) 2)) ((cs 1) 11), sW T (gq 2) (cs 2), tW T ((gq 2) 11) ((gq 2) 12) (nI ((Ls 2) 0)) ((cs 2) 9), tW T ((gq 2) 13) ((gq 2) 14) (nI ((Ls 2) 1)) ((cs 2) 10), tW T ((gq 2) 15) ((gq 2) 16) (nI ((Ls 2) 2)) ((cs 2) 11), sW T (gq 4) (cs 4), tW T ((gq 4) 11) ((gq 4) 12) (nI ((Ls 4) 0)) ((cs 4) 9), tW T ((gq 4) 13) ((gq 4) 14) (nI ((Ls 4) 1)) ((cs 4) 10), tW T ((gq 4) 15) ((gq 4) 16) (nI ((Ls 4) 2)) ((cs 4) 11), sW T (gq 5) (cs 5), tW T ((gq 5) 11) ((gq 5) 12) (nI ((Ls 5) 0)) ((cs 5) 9), tW T ((gq 5) 13) ((gq 5) 14) (nI ((Ls 5) 1)) ((cs 5) 10), tW T ((gq 5) 15) ((gq 5) 16) (nI ((Ls 5) 2)) ((cs 5) 11)]) (va_runV (As := [.ref (q 0)]) (rest := []) ⟨hx, hb, hml, hown, hts⟩ (c_X3_copyFrom l D T (gq 3) (cs 3) (Ls 3) q c L (by omega) (by omega) _) (mkV hts okX3_copyFrom kw_505 kw_230 kw_231 ⟨rfl, rfl, Nat.le_of_ble_eq_true rfl, Nat.le_of_ble_eq_true rfl⟩) (pv_rw hK hPc18 hDc18 (q0 := 0) rfl rfl rfl) rfl rfl hl0.1 rfl (lv_room (Nat.le_of_ble_eq_true rfl)) dX0_keep_39 ⟨Nat.le_of_ble_eq_true rfl, Nat.le_of_ble_eq_true rfl⟩) hP0 hD0 hS0 hA [0, 1, 2, 3, 4, 5, 6, 7, 8, 9, 10, 11, 12, 17, 18, 19, 20, 21, 22, 23, 24] [13, 14, 15, 16, 25, 26, 27, 28] rfl (by decide) (fun c3_39 H19 locs19 hq_39 hP19 hD19 hS19 => ?_)
    clear hP0 hD0 hS0 hPc18 hDc18
    have hP19 : va_P D vwCl (fl [yW T ya yb F (nI 3), sW T (gq 0) (cs 0), tW T ((gq 0) 11) ((gq 0) 12) (nI ((Ls 0) 0)) ((cs 0) 9), tW T ((gq 0) 13) ((gq 0) 14) (nI ((Ls 0) 1)) ((cs 0) 10), tW T ((gq 0) 15) ((gq 0) 16) (nI ((Ls 0) 2)) ((cs 0) 11), sW T (gq 1) (cs 1), tW T ((gq 1) 11) ((gq 1) 12) (nI ((Ls 1) 0)) ((cs 1) 9), tW T ((gq 1) 13) ((gq 1) 14) (nI ((Ls 1) 1)) ((cs 1) 10), tW T ((gq 1) 15) ((gq 1) 16) (nI ((Ls 1) 2)) ((cs 1) 11), sW T (gq 2) (cs 2), tW T ((gq 2) 11) ((gq 2) 12) (nI ((Ls 2) 0)) ((cs 2) 9), tW T ((gq 2) 13) ((gq 2) 14) (nI ((Ls 2) 1)) ((cs 2) 10), tW T ((gq 2) 15) ((gq 2) 16) (nI ((Ls 2) 2)) ((cs 2) 11), sW T (gq 4) (cs 4), tW T ((gq 4) 11) ((gq 4) 12) (nI ((Ls 4) 0)) ((cs 4) 9), tW T ((gq 4) 13) ((gq 4) 14) (nI ((Ls 4) 1)) ((cs 4) 10), tW T ((gq 4) 15) ((gq 4) 16) (nI ((Ls 4) 2)) ((cs 4) 11), sW T (gq 5) (cs 5), tW T ((gq 5) 11) ((gq 5) 12) (nI ((Ls 5) 0)) ((cs 5) 9), tW T ((gq 5) 13) ((gq 5) 14) (nI ((Ls 5) 1)) ((cs 5) 10), tW T ((gq 5) 15) ((gq 5) 16) (nI ((Ls 5) 2)) ((cs 5) 11), sW T (gq 3) c3_39, tW T ((gq 3) 11) ((gq 3) 12) (nI (L 0)) (c3_39 9), tW T ((gq 3) 13) ((gq 3) 14) (nI (L 1)) (c3_39 10), tW T ((gq 3) 15) ((gq 3) 16) (nI (L 2)) (c3_39 11), sW T q c, tW T (q 11) (q 12) (nI (L 0)) (c 9), tW T (q 13) (q 14) (nI (L 1)) (c 10), tW T (q 15) (q 16) (nI (L 2)) (c 11)]) _ := hP19
    have hD19 : va_D A (fl [yW T ya yb F (nI 3), sW T (gq 0) (cs 0), tW T ((gq 0) 11) ((gq 0) 12) (nI ((Ls 0) 0)) ((cs 0) 9), tW T ((gq 0) 13) ((gq 0) 14) (nI ((Ls 0) 1)) ((cs 0) 10), tW T ((gq 0) 15) ((gq 0) 16) (nI ((Ls 0) 2)) ((cs 0) 11), sW T (gq 1) (cs 1), tW T ((gq 1) 11) ((gq 1) 12) (nI ((Ls 1) 0)) ((cs 1) 9), tW T ((gq 1) 13) ((gq 1) 14) (nI ((Ls 1) 1)) ((cs 1) 10), tW T ((gq 1) 15) ((gq 1) 16) (nI ((Ls 1) 2)) ((cs 1) 11), sW T (gq 2) (cs 2), tW T ((gq 2) 11) ((gq 2) 12) (nI ((Ls 2) 0)) ((cs 2) 9), tW T ((gq 2) 13) ((gq 2) 14) (nI ((Ls 2) 1)) ((cs 2) 10), tW T ((gq 2) 15) ((gq 2) 16) (nI ((Ls 2) 2)) ((cs 2) 11), sW T (gq 4) (cs 4), tW T ((gq 4) 11) ((gq 4) 12) (nI ((Ls 4) 0)) ((cs 4) 9), tW T ((gq 4) 13) ((gq 4) 14) (nI ((Ls 4) 1)) ((cs 4) 10), tW T ((gq 4) 15) ((gq 4) 16) (nI ((Ls 4) 2)) ((cs 4) 11), sW T (gq 5) (cs 5), tW T ((gq 5) 11) ((gq 5) 12) (nI ((Ls 5) 0)) ((cs 5) 9), tW T ((gq 5) 13) ((gq 5) 14) (nI ((Ls 5) 1)) ((cs 5) 10), tW T ((gq 5) 15) ((gq 5) 16) (nI ((Ls 5) 2)) ((cs 5) 11), sW T (gq 3) c3_39, tW T ((gq 3) 11) ((gq 3) 12) (nI (L 0)) (c3_39 9), tW T ((gq 3) 13) ((gq 3) 14) (nI (L 1)) (c3_39 10), tW T ((gq 3) 15) ((gq 3) 16) (nI (L 2)) (c3_39 11), sW T q c, tW T (q 11) (q 12) (nI (L 0)) (c 9), tW T (q 13) (q 14) (nI (L 1)) (c 10), tW T (q 15) (q 16) (nI (L 2)) (c 11)]) := hD19
    have hq_39 : Eqv c3_39 c := hq_39
    refine lv_aload_n hx hb dX0_keep_42 rfl (lv_at hl0 0 rfl) ?_
    refine lv_dup hx hb dX0_keep_43 rfl ?_
    refine r_get (own := RX0) (C := RX0) (F := TX0) (N := 2) (ci := 0) (v := .int (nI 3)) hx hb hK hts in_X0 hown hP19 0 rfl rfl 1 (by decide) kw_151 rfl dX0_keep_44 ?_
    refine lv_iconst (v := nI 1) hx hb dX0_keep_47 (by decide) ?_
    refine lv_iadd hx hb dX0_keep_48 ?_
    refine tp_i (y := nI 4) (by decide) ?_
    refine r_put (own := RX0) (C := RX0) (F := TX0) (N := 2) (ci := 0) (v := nI 4) hx hb hK hts in_X0 tyX0 tyX0_ok nmX0 hown hP19 hD19 hS19 0 rfl rfl 1 (by decide) kw_151 rfl rfl (Nat.le_of_ble_eq_true rfl) dX0_keep_49 (fun (H20 : Heap) (locs20 : List Loc) (hP20 : va_P D vwCl (fl [yW T ya yb F (nI 4), sW T (gq 0) (cs 0), tW T ((gq 0) 11) ((gq 0) 12) (nI ((Ls 0) 0)) ((cs 0) 9), tW T ((gq 0) 13) ((gq 0) 14) (nI ((Ls 0) 1)) ((cs 0) 10), tW T ((gq 0) 15) ((gq 0) 16) (nI ((Ls 0) 2)) ((cs 0) 11), sW T (gq 1) (cs 1), tW T ((gq 1) 11) ((gq 1) 12) (nI ((Ls 1) 0)) ((cs 1) 9), tW T ((gq 1) 13) ((gq 1) 14) (nI ((Ls 1) 1)) ((cs 1) 10), tW T ((gq 1) 15) ((gq 1) 16) (nI ((Ls 1) 2)) ((cs 1) 11), sW T (gq 2) (cs 2), tW T ((gq 2) 11) ((gq 2) 12) (nI ((Ls 2) 0)) ((cs 2) 9), tW T ((gq 2) 13) ((gq 2) 14) (nI ((Ls 2) 1)) ((cs 2) 10), tW T ((gq 2) 15) ((gq 2) 16) (nI ((Ls 2) 2)) ((cs 2) 11), sW T (gq 4) (cs 4), tW T ((gq 4) 11) ((gq 4) 12) (nI ((Ls 4) 0)) ((cs 4) 9), tW T ((gq 4) 13) ((gq 4) 14) (nI ((Ls 4) 1)) ((cs 4) 10), tW T ((gq 4) 15) ((gq 4) 16) (nI ((Ls 4) 2)) ((cs 4) 11), sW T (gq 5) (cs 5), tW T ((gq 5) 11) ((gq 5) 12) (nI ((Ls 5) 0)) ((cs 5) 9), tW T ((gq 5) 13) ((gq 5) 14) (nI ((Ls 5) 1)) ((cs 5) 10), tW T ((gq 5) 15) ((gq 5) 16) (nI ((Ls 5) 2)) ((cs 5) 11), sW T (gq 3) c3_39, tW T ((gq 3) 11) ((gq 3) 12) (nI (L 0)) (c3_39 9), tW T ((gq 3) 13) ((gq 3) 14) (nI (L 1)) (c3_39 10), tW T ((gq 3) 15) ((gq 3) 16) (nI (L 2)) (c3_39 11), sW T q c, tW T (q 11) (q 12) (nI (L 0)) (c 9), tW T (q 13) (q 14) (nI (L 1)) (c 10), tW T (q 15) (q 16) (nI (L 2)) (c 11)]) H20) (hD20 : va_D A (fl [yW T ya yb F (nI 4), sW T (gq 0) (cs 0), tW T ((gq 0) 11) ((gq 0) 12) (nI ((Ls 0) 0)) ((cs 0) 9), tW T ((gq 0) 13) ((gq 0) 14) (nI ((Ls 0) 1)) ((cs 0) 10), tW T ((gq 0) 15) ((gq 0) 16) (nI ((Ls 0) 2)) ((cs 0) 11), sW T (gq 1) (cs 1), tW T ((gq 1) 11) ((gq 1) 12) (nI ((Ls 1) 0)) ((cs 1) 9), tW T ((gq 1) 13) ((gq 1) 14) (nI ((Ls 1) 1)) ((cs 1) 10), tW T ((gq 1) 15) ((gq 1) 16) (nI ((Ls 1) 2)) ((cs 1) 11), sW T (gq 2) (cs 2), tW T ((gq 2) 11) ((gq 2) 12) (nI ((Ls 2) 0)) ((cs 2) 9), tW T ((gq 2) 13) ((gq 2) 14) (nI ((Ls 2) 1)) ((cs 2) 10), tW T ((gq 2) 15) ((gq 2) 16) (nI ((Ls 2) 2)) ((cs 2) 11), sW T (gq 4) (cs 4), tW T ((gq 4) 11) ((gq 4) 12) (nI ((Ls 4) 0)) ((cs 4) 9), tW T ((gq 4) 13) ((gq 4) 14) (nI ((Ls 4) 1)) ((cs 4) 10), tW T ((gq 4) 15) ((gq 4) 16) (nI ((Ls 4) 2)) ((cs 4) 11), sW T (gq 5) (cs 5), tW T ((gq 5) 11) ((gq 5) 12) (nI ((Ls 5) 0)) ((cs 5) 9), tW T ((gq 5) 13) ((gq 5) 14) (nI ((Ls 5) 1)) ((cs 5) 10), tW T ((gq 5) 15) ((gq 5) 16) (nI ((Ls 5) 2)) ((cs 5) 11), sW T (gq 3) c3_39, tW T ((gq 3) 11) ((gq 3) 12) (nI (L 0)) (c3_39 9), tW T ((gq 3) 13) ((gq 3) 14) (nI (L 1)) (c3_39 10), tW T ((gq 3) 15) ((gq 3) 16) (nI (L 2)) (c3_39 11), sW T q c, tW T (q 11) (q 12) (nI (L 0)) (c 9), tW T (q 13) (q 14) (nI (L 1)) (c 10), tW T (q 15) (q 16) (nI (L 2)) (c 11)])) hS20 => ?_)
    clear hP19 hD19 hS19
    refine ret_v hTG (Nat.le_refl _) (Nat.le_refl _) hx hb hr hlocks ((F, gq, pushS 3 cs c3_39, pushS 3 Ls L)) hP20 hD20 hS20 [0, 1, 2, 3, 4, 5, 6, 7, 8, 9, 10, 11, 12, 21, 22, 23, 24, 13, 14, 15, 16, 17, 18, 19, 20, 25, 26, 27, 28] rfl (by decide) dX0_keep_52 ?_
    exact ⟨hF, _, hq_39, rfl, rfl⟩
  · skip
    refine lv_aload_n hx hb dX0_keep_0 rfl (lv_at hl0 0 rfl) ?_
    refine r_get (own := RX0) (C := RX0) (F := TX0) (N := 2) (ci := 0) (v := .int (nI 4)) hx hb hK hts in_X0 hown hP0 0 rfl rfl 1 (by decide) kw_151 rfl dX0_keep_1 ?_
    refine lv_bipush (v := nI 6) hx hb dX0_keep_4 (by decide) ?_
    refine n_icmp_lt (tgt := 13) hx hb (by omega) (by omega) dX0_keep_6 (by decide) (fun c21 => ?_) (fun c21 => absurd (by decide) c21)
    refine lv_aload_n hx hb dX0_keep_13 rfl (lv_at hl0 0 rfl) ?_
    refine r_get (own := RX0) (C := RX0) (F := TX0) (N := 2) (ci := 0) (v := .int (nI 4)) hx hb hK hts in_X0 hown hP0 0 rfl rfl 1 (by decide) kw_151 rfl dX0_keep_14 ?_
    refine n_if_lt hx hb (by omega) dX0_keep_17 52 (by decide) ?_
    refine lv_aload_n hx hb dX0_keep_20 rfl (lv_at hl0 0 rfl) ?_
    refine r_get (own := RX0) (C := RX0) (F := TX0) (N := 2) (ci := 0) (v := .int (nI 4)) hx hb hK hts in_X0 hown hP0 0 rfl rfl 1 (by decide) kw_151 rfl dX0_keep_21 ?_
    refine lv_bipush (v := nI 6) hx hb dX0_keep_24 (by decide) ?_
    refine n_icmp_ge (tgt := 52) hx hb (by omega) (by omega) dX0_keep_26 (by decide) (fun c22 => absurd c22 (by decide)) (fun c22 => ?_)
    refine lv_aload_n hx hb dX0_keep_29 rfl (lv_at hl0 0 rfl) ?_
    refine r_get (own := RX0) (C := RX0) (F := TX0) (N := 2) (ci := 0) (v := .ref yb) hx hb hK hts in_X0 hown hP0 0 rfl rfl 0 (by decide) kw_150 rfl dX0_keep_30 ?_
    refine lv_aload_n hx hb dX0_keep_33 rfl (lv_at hl0 0 rfl) ?_
    refine r_get (own := RX0) (C := RX0) (F := TX0) (N := 2) (ci := 0) (v := .int (nI 4)) hx hb hK hts in_X0 hown hP0 0 rfl rfl 1 (by decide) kw_151 rfl dX0_keep_34 ?_
    refine r_aald (C := RX3) (v := ((gq 4) 0)) hx hb hK hP0 1 3 rfl rfl 4 (by decide) dX0_keep_37 (by decide) (hF 4 (by omega)) ?_
    refine lv_aload_n hx hb dX0_keep_38 rfl (lv_at hl0 1 rfl) ?_
    have hPc23 : va_P D vwCl (fl [sW T (gq 4) (cs 4), tW T ((gq 4) 11) ((gq 4) 12) (nI ((Ls 4) 0)) ((cs 4) 9), tW T ((gq 4) 13) ((gq 4) 14) (nI ((Ls 4) 1)) ((cs 4) 10), tW T ((gq 4) 15) ((gq 4) 16) (nI ((Ls 4) 2)) ((cs 4) 11), sW T q c, tW T (q 11) (q 12) (nI (L 0)) (c 9), tW T (q 13) (q 14) (nI (L 1)) (c 10), tW T (q 15) (q 16) (nI (L 2)) (c 11)]) _ := flP_sub hP0 [17, 18, 19, 20, 25, 26, 27, 28] rfl
    have hDc23 : va_D A (fl [sW T (gq 4) (cs 4), tW T ((gq 4) 11) ((gq 4) 12) (nI ((Ls 4) 0)) ((cs 4) 9), tW T ((gq 4) 13) ((gq 4) 14) (nI ((Ls 4) 1)) ((cs 4) 10), tW T ((gq 4) 15) ((gq 4) 16) (nI ((Ls 4) 2)) ((cs 4) 11), sW T q c, tW T (q 11) (q 12) (nI (L 0)) (c 9), tW T (q 13) (q 14) (nI (L 1)) (c 10), tW T (q 15) (q 16) (nI (L 2)) (c 11)]) := flD_sub hD0 [17, 18, 19, 20, 25, 26, 27, 28] (by decide) rfl
    refine cl_v (br := [yW T ya yb F (nI 4), sW T (gq 0) (cs 0), tW T ((gq 0) 11) ((gq 0) 12) (nI ((Ls 0) 0)) ((cs 0) 9), tW T ((gq 0) 13) ((gq 0) 14) (nI ((Ls 0) 1)) ((cs 0) 10), tW T ((gq 0) 15) ((gq 0) 16) (nI ((Ls 0) 2)) ((cs 0) 11), sW T (gq 1) (cs 1), tW T ((gq 1) 11) ((gq 1) 12) (nI ((Ls 1) 0)) ((cs 1) 9), tW T ((gq 1) 13) ((gq 1) 14) (nI ((Ls 1) 1)) ((cs 1) 10), tW T ((gq 1) 15) ((gq 1) 16) (nI ((Ls 1) 2)) ((cs 1) 11), sW T (gq 2) (cs 2), tW T ((gq 2) 11) ((gq 2) 12) (nI ((Ls 2) 0)) ((cs 2) 9), tW T ((gq 2) 13) ((gq 2) 14) (nI ((Ls 2) 1)) ((cs 2) 10), tW T ((gq 2) 15) ((gq 2) 16) (nI ((Ls 2) 2)) ((cs 2) 11), sW T (gq 3) (cs 3), tW T ((gq 3) 11) ((gq 3) 12) (nI ((Ls 3) 0)) ((cs 3) 9), tW T ((gq 3) 13) ((gq 3) 14) (nI ((Ls 3) 1)) ((cs 3) 10), tW T ((gq 3) 15) ((gq 3) 16) (nI ((Ls 3) 2)) ((cs 3) 11), sW T (gq 5) (cs 5), tW T ((gq 5) 11) ((gq 5) 12) (nI ((Ls 5) 0)) ((cs 5) 9), tW T ((gq 5) 13) ((gq 5) 14) (nI ((Ls 5) 1)) ((cs 5) 10), tW T ((gq 5) 15) ((gq 5) 16) (nI ((Ls 5) 2)) ((cs 5) 11)]) (va_runV (As := [.ref (q 0)]) (rest := []) ⟨hx, hb, hml, hown, hts⟩ (c_X3_copyFrom l D T (gq 4) (cs 4) (Ls 4) q c L (by omega) (by omega) _) (mkV hts okX3_copyFrom kw_505 kw_230 kw_231 ⟨rfl, rfl, Nat.le_of_ble_eq_true rfl, Nat.le_of_ble_eq_true rfl⟩) (pv_rw hK hPc23 hDc23 (q0 := 0) rfl rfl rfl) rfl rfl hl0.1 rfl (lv_room (Nat.le_of_ble_eq_true rfl)) dX0_keep_39 ⟨Nat.le_of_ble_eq_true rfl, Nat.le_of_ble_eq_true rfl⟩) hP0 hD0 hS0 hA [0, 1, 2, 3, 4, 5, 6, 7, 8, 9, 10, 11, 12, 13, 14, 15, 16, 21, 22, 23, 24] [17, 18, 19, 20, 25, 26, 27, 28] rfl (by decide) (fun c3_39 H24 locs24 hq_39 hP24 hD24 hS24 => ?_)
    clear hP0 hD0 hS0 hPc23 hDc23
    have hP24 : va_P D vwCl (fl [yW T ya yb F (nI 4), sW T (gq 0) (cs 0), tW T ((gq 0) 11) ((gq 0) 12) (nI ((Ls 0) 0)) ((cs 0) 9), tW T ((gq 0) 13) ((gq 0) 14) (nI ((Ls 0) 1)) ((cs 0) 10), tW T ((gq 0) 15) ((gq 0) 16) (nI ((Ls 0) 2)) ((cs 0) 11), sW T (gq 1) (cs 1), tW T ((gq 1) 11) ((gq 1) 12) (nI ((Ls 1) 0)) ((cs 1) 9), tW T ((gq 1) 13) ((gq 1) 14) (nI ((Ls 1) 1)) ((cs 1) 10), tW T ((gq 1) 15) ((gq 1) 16) (nI ((Ls 1) 2)) ((cs 1) 11), sW T (gq 2) (cs 2), tW T ((gq 2) 11) ((gq 2) 12) (nI ((Ls 2) 0)) ((cs 2) 9), tW T ((gq 2) 13) ((gq 2) 14) (nI ((Ls 2) 1)) ((cs 2) 10), tW T ((gq 2) 15) ((gq 2) 16) (nI ((Ls 2) 2)) ((cs 2) 11), sW T (gq 3) (cs 3), tW T ((gq 3) 11) ((gq 3) 12) (nI ((Ls 3) 0)) ((cs 3) 9), tW T ((gq 3) 13) ((gq 3) 14) (nI ((Ls 3) 1)) ((cs 3) 10), tW T ((gq 3) 15) ((gq 3) 16) (nI ((Ls 3) 2)) ((cs 3) 11), sW T (gq 5) (cs 5), tW T ((gq 5) 11) ((gq 5) 12) (nI ((Ls 5) 0)) ((cs 5) 9), tW T ((gq 5) 13) ((gq 5) 14) (nI ((Ls 5) 1)) ((cs 5) 10), tW T ((gq 5) 15) ((gq 5) 16) (nI ((Ls 5) 2)) ((cs 5) 11), sW T (gq 4) c3_39, tW T ((gq 4) 11) ((gq 4) 12) (nI (L 0)) (c3_39 9), tW T ((gq 4) 13) ((gq 4) 14) (nI (L 1)) (c3_39 10), tW T ((gq 4) 15) ((gq 4) 16) (nI (L 2)) (c3_39 11), sW T q c, tW T (q 11) (q 12) (nI (L 0)) (c 9), tW T (q 13) (q 14) (nI (L 1)) (c 10), tW T (q 15) (q 16) (nI (L 2)) (c 11)]) _ := hP24
    have hD24 : va_D A (fl [yW T ya yb F (nI 4), sW T (gq 0) (cs 0), tW T ((gq 0) 11) ((gq 0) 12) (nI ((Ls 0) 0)) ((cs 0) 9), tW T ((gq 0) 13) ((gq 0) 14) (nI ((Ls 0) 1)) ((cs 0) 10), tW T ((gq 0) 15) ((gq 0) 16) (nI ((Ls 0) 2)) ((cs 0) 11), sW T (gq 1) (cs 1), tW T ((gq 1) 11) ((gq 1) 12) (nI ((Ls 1) 0)) ((cs 1) 9), tW T ((gq 1) 13) ((gq 1) 14) (nI ((Ls 1) 1)) ((cs 1) 10), tW T ((gq 1) 15) ((gq 1) 16) (nI ((Ls 1) 2)) ((cs 1) 11), sW T (gq 2) (cs 2), tW T ((gq 2) 11) ((gq 2) 12) (nI ((Ls 2) 0)) ((cs 2) 9), tW T ((gq 2) 13) ((gq 2) 14) (nI ((Ls 2) 1)) ((cs 2) 10), tW T ((gq 2) 15) ((gq 2) 16) (nI ((Ls 2) 2)) ((cs 2) 11), sW T (gq 3) (cs 3), tW T ((gq 3) 11) ((gq 3) 12) (nI ((Ls 3) 0)) ((cs 3) 9), tW T ((gq 3) 13) ((gq 3) 14) (nI ((Ls 3) 1)) ((cs 3) 10), tW T ((gq 3) 15) ((gq 3) 16) (nI ((Ls 3) 2)) ((cs 3) 11), sW T (gq 5) (cs 5), tW T ((gq 5) 11) ((gq 5) 12) (nI ((Ls 5) 0)) ((cs 5) 9), tW T ((gq 5) 13) ((gq 5) 14) (nI ((Ls 5) 1)) ((cs 5) 10), tW T ((gq 5) 15) ((gq 5) 16) (nI ((Ls 5) 2)) ((cs 5) 11), sW T (gq 4) c3_39, tW T ((gq 4) 11) ((gq 4) 12) (nI (L 0)) (c3_39 9), tW T ((gq 4) 13) ((gq 4) 14) (nI (L 1)) (c3_39 10), tW T ((gq 4) 15) ((gq 4) 16) (nI (L 2)) (c3_39 11), sW T q c, tW T (q 11) (q 12) (nI (L 0)) (c 9), tW T (q 13) (q 14) (nI (L 1)) (c 10), tW T (q 15) (q 16) (nI (L 2)) (c 11)]) := hD24
    have hq_39 : Eqv c3_39 c := hq_39
    refine lv_aload_n hx hb dX0_keep_42 rfl (lv_at hl0 0 rfl) ?_
    refine lv_dup hx hb dX0_keep_43 rfl ?_
    refine r_get (own := RX0) (C := RX0) (F := TX0) (N := 2) (ci := 0) (v := .int (nI 4)) hx hb hK hts in_X0 hown hP24 0 rfl rfl 1 (by decide) kw_151 rfl dX0_keep_44 ?_
    refine lv_iconst (v := nI 1) hx hb dX0_keep_47 (by decide) ?_
    refine lv_iadd hx hb dX0_keep_48 ?_
    refine tp_i (y := nI 5) (by decide) ?_
    refine r_put (own := RX0) (C := RX0) (F := TX0) (N := 2) (ci := 0) (v := nI 5) hx hb hK hts in_X0 tyX0 tyX0_ok nmX0 hown hP24 hD24 hS24 0 rfl rfl 1 (by decide) kw_151 rfl rfl (Nat.le_of_ble_eq_true rfl) dX0_keep_49 (fun (H25 : Heap) (locs25 : List Loc) (hP25 : va_P D vwCl (fl [yW T ya yb F (nI 5), sW T (gq 0) (cs 0), tW T ((gq 0) 11) ((gq 0) 12) (nI ((Ls 0) 0)) ((cs 0) 9), tW T ((gq 0) 13) ((gq 0) 14) (nI ((Ls 0) 1)) ((cs 0) 10), tW T ((gq 0) 15) ((gq 0) 16) (nI ((Ls 0) 2)) ((cs 0) 11), sW T (gq 1) (cs 1), tW T ((gq 1) 11) ((gq 1) 12) (nI ((Ls 1) 0)) ((cs 1) 9), tW T ((gq 1) 13) ((gq 1) 14) (nI ((Ls 1) 1)) ((cs 1) 10), tW T ((gq 1) 15) ((gq 1) 16) (nI ((Ls 1) 2)) ((cs 1) 11), sW T (gq 2) (cs 2), tW T ((gq 2) 11) ((gq 2) 12) (nI ((Ls 2) 0)) ((cs 2) 9), tW T ((gq 2) 13) ((gq 2) 14) (nI ((Ls 2) 1)) ((cs 2) 10), tW T ((gq 2) 15) ((gq 2) 16) (nI ((Ls 2) 2)) ((cs 2) 11), sW T (gq 3) (cs 3), tW T ((gq 3) 11) ((gq 3) 12) (nI ((Ls 3) 0)) ((cs 3) 9), tW T ((gq 3) 13) ((gq 3) 14) (nI ((Ls 3) 1)) ((cs 3) 10), tW T ((gq 3) 15) ((gq 3) 16) (nI ((Ls 3) 2)) ((cs 3) 11), sW T (gq 5) (cs 5), tW T ((gq 5) 11) ((gq 5) 12) (nI ((Ls 5) 0)) ((cs 5) 9), tW T ((gq 5) 13) ((gq 5) 14) (nI ((Ls 5) 1)) ((cs 5) 10), tW T ((gq 5) 15) ((gq 5) 16) (nI ((Ls 5) 2)) ((cs 5) 11), sW T (gq 4) c3_39, tW T ((gq 4) 11) ((gq 4) 12) (nI (L 0)) (c3_39 9), tW T ((gq 4) 13) ((gq 4) 14) (nI (L 1)) (c3_39 10), tW T ((gq 4) 15) ((gq 4) 16) (nI (L 2)) (c3_39 11), sW T q c, tW T (q 11) (q 12) (nI (L 0)) (c 9), tW T (q 13) (q 14) (nI (L 1)) (c 10), tW T (q 15) (q 16) (nI (L 2)) (c 11)]) H25) (hD25 : va_D A (fl [yW T ya yb F (nI 5), sW T (gq 0) (cs 0), tW T ((gq 0) 11) ((gq 0) 12) (nI ((Ls 0) 0)) ((cs 0) 9), tW T ((gq 0) 13) ((gq 0) 14) (nI ((Ls 0) 1)) ((cs 0) 10), tW T ((gq 0) 15) ((gq 0) 16) (nI ((Ls 0) 2)) ((cs 0) 11), sW T (gq 1) (cs 1), tW T ((gq 1) 11) ((gq 1) 12) (nI ((Ls 1) 0)) ((cs 1) 9), tW T ((gq 1) 13) ((gq 1) 14) (nI ((Ls 1) 1)) ((cs 1) 10), tW T ((gq 1) 15) ((gq 1) 16) (nI ((Ls 1) 2)) ((cs 1) 11), sW T (gq 2) (cs 2), tW T ((gq 2) 11) ((gq 2) 12) (nI ((Ls 2) 0)) ((cs 2) 9), tW T ((gq 2) 13) ((gq 2) 14) (nI ((Ls 2) 1)) ((cs 2) 10), tW T ((gq 2) 15) ((gq 2) 16) (nI ((Ls 2) 2)) ((cs 2) 11), sW T (gq 3) (cs 3), tW T ((gq 3) 11) ((gq 3) 12) (nI ((Ls 3) 0)) ((cs 3) 9), tW T ((gq 3) 13) ((gq 3) 14) (nI ((Ls 3) 1)) ((cs 3) 10), tW T ((gq 3) 15) ((gq 3) 16) (nI ((Ls 3) 2)) ((cs 3) 11), sW T (gq 5) (cs 5), tW T ((gq 5) 11) ((gq 5) 12) (nI ((Ls 5) 0)) ((cs 5) 9), tW T ((gq 5) 13) ((gq 5) 14) (nI ((Ls 5) 1)) ((cs 5) 10), tW T ((gq 5) 15) ((gq 5) 16) (nI ((Ls 5) 2)) ((cs 5) 11), sW T (gq 4) c3_39, tW T ((gq 4) 11) ((gq 4) 12) (nI (L 0)) (c3_39 9), tW T ((gq 4) 13) ((gq 4) 14) (nI (L 1)) (c3_39 10), tW T ((gq 4) 15) ((gq 4) 16) (nI (L 2)) (c3_39 11), sW T q c, tW T (q 11) (q 12) (nI (L 0)) (c 9), tW T (q 13) (q 14) (nI (L 1)) (c 10), tW T (q 15) (q 16) (nI (L 2)) (c 11)])) hS25 => ?_)
    clear hP24 hD24 hS24
    refine ret_v hTG (Nat.le_refl _) (Nat.le_refl _) hx hb hr hlocks ((F, gq, pushS 4 cs c3_39, pushS 4 Ls L)) hP25 hD25 hS25 [0, 1, 2, 3, 4, 5, 6, 7, 8, 9, 10, 11, 12, 13, 14, 15, 16, 21, 22, 23, 24, 17, 18, 19, 20, 25, 26, 27, 28] rfl (by decide) dX0_keep_52 ?_
    exact ⟨hF, _, hq_39, rfl, rfl⟩
  · skip
    refine lv_aload_n hx hb dX0_keep_0 rfl (lv_at hl0 0 rfl) ?_
    refine r_get (own := RX0) (C := RX0) (F := TX0) (N := 2) (ci := 0) (v := .int (nI 5)) hx hb hK hts in_X0 hown hP0 0 rfl rfl 1 (by decide) kw_151 rfl dX0_keep_1 ?_
    refine lv_bipush (v := nI 6) hx hb dX0_keep_4 (by decide) ?_
    refine n_icmp_lt (tgt := 13) hx hb (by omega) (by omega) dX0_keep_6 (by decide) (fun c26 => ?_) (fun c26 => absurd (by decide) c26)
    refine lv_aload_n hx hb dX0_keep_13 rfl (lv_at hl0 0 rfl) ?_
    refine r_get (own := RX0) (C := RX0) (F := TX0) (N := 2) (ci := 0) (v := .int (nI 5)) hx hb hK hts in_X0 hown hP0 0 rfl rfl 1 (by decide) kw_151 rfl dX0_keep_14 ?_
    refine n_if_lt hx hb (by omega) dX0_keep_17 52 (by decide) ?_
    refine lv_aload_n hx hb dX0_keep_20 rfl (lv_at hl0 0 rfl) ?_
    refine r_get (own := RX0) (C := RX0) (F := TX0) (N := 2) (ci := 0) (v := .int (nI 5)) hx hb hK hts in_X0 hown hP0 0 rfl rfl 1 (by decide) kw_151 rfl dX0_keep_21 ?_
    refine lv_bipush (v := nI 6) hx hb dX0_keep_24 (by decide) ?_
    refine n_icmp_ge (tgt := 52) hx hb (by omega) (by omega) dX0_keep_26 (by decide) (fun c27 => absurd c27 (by decide)) (fun c27 => ?_)
    refine lv_aload_n hx hb dX0_keep_29 rfl (lv_at hl0 0 rfl) ?_
    refine r_get (own := RX0) (C := RX0) (F := TX0) (N := 2) (ci := 0) (v := .ref yb) hx hb hK hts in_X0 hown hP0 0 rfl rfl 0 (by decide) kw_150 rfl dX0_keep_30 ?_
    refine lv_aload_n hx hb dX0_keep_33 rfl (lv_at hl0 0 rfl) ?_
    refine r_get (own := RX0) (C := RX0) (F := TX0) (N := 2) (ci := 0) (v := .int (nI 5)) hx hb hK hts in_X0 hown hP0 0 rfl rfl 1 (by decide) kw_151 rfl dX0_keep_34 ?_
    refine r_aald (C := RX3) (v := ((gq 5) 0)) hx hb hK hP0 1 3 rfl rfl 5 (by decide) dX0_keep_37 (by decide) (hF 5 (by omega)) ?_
    refine lv_aload_n hx hb dX0_keep_38 rfl (lv_at hl0 1 rfl) ?_
    have hPc28 : va_P D vwCl (fl [sW T (gq 5) (cs 5), tW T ((gq 5) 11) ((gq 5) 12) (nI ((Ls 5) 0)) ((cs 5) 9), tW T ((gq 5) 13) ((gq 5) 14) (nI ((Ls 5) 1)) ((cs 5) 10), tW T ((gq 5) 15) ((gq 5) 16) (nI ((Ls 5) 2)) ((cs 5) 11), sW T q c, tW T (q 11) (q 12) (nI (L 0)) (c 9), tW T (q 13) (q 14) (nI (L 1)) (c 10), tW T (q 15) (q 16) (nI (L 2)) (c 11)]) _ := flP_sub hP0 [21, 22, 23, 24, 25, 26, 27, 28] rfl
    have hDc28 : va_D A (fl [sW T (gq 5) (cs 5), tW T ((gq 5) 11) ((gq 5) 12) (nI ((Ls 5) 0)) ((cs 5) 9), tW T ((gq 5) 13) ((gq 5) 14) (nI ((Ls 5) 1)) ((cs 5) 10), tW T ((gq 5) 15) ((gq 5) 16) (nI ((Ls 5) 2)) ((cs 5) 11), sW T q c, tW T (q 11) (q 12) (nI (L 0)) (c 9), tW T (q 13) (q 14) (nI (L 1)) (c 10), tW T (q 15) (q 16) (nI (L 2)) (c 11)]) := flD_sub hD0 [21, 22, 23, 24, 25, 26, 27, 28] (by decide) rfl
    refine cl_v (br := [yW T ya yb F (nI 5), sW T (gq 0) (cs 0), tW T ((gq 0) 11) ((gq 0) 12) (nI ((Ls 0) 0)) ((cs 0) 9), tW T ((gq 0) 13) ((gq 0) 14) (nI ((Ls 0) 1)) ((cs 0) 10), tW T ((gq 0) 15) ((gq 0) 16) (nI ((Ls 0) 2)) ((cs 0) 11), sW T (gq 1) (cs 1), tW T ((gq 1) 11) ((gq 1) 12) (nI ((Ls 1) 0)) ((cs 1) 9), tW T ((gq 1) 13) ((gq 1) 14) (nI ((Ls 1) 1)) ((cs 1) 10), tW T ((gq 1) 15) ((gq 1) 16) (nI ((Ls 1) 2)) ((cs 1) 11), sW T (gq 2) (cs 2), tW T ((gq 2) 11) ((gq 2) 12) (nI ((Ls 2) 0)) ((cs 2) 9), tW T ((gq 2) 13) ((gq 2) 14) (nI ((Ls 2) 1)) ((cs 2) 10), tW T ((gq 2) 15) ((gq 2) 16) (nI ((Ls 2) 2)) ((cs 2) 11), sW T (gq 3) (cs 3), tW T ((gq 3) 11) ((gq 3) 12) (nI ((Ls 3) 0)) ((cs 3) 9), tW T ((gq 3) 13) ((gq 3) 14) (nI ((Ls 3) 1)) ((cs 3) 10), tW T ((gq 3) 15) ((gq 3) 16) (nI ((Ls 3) 2)) ((cs 3) 11), sW T (gq 4) (cs 4), tW T ((gq 4) 11) ((gq 4) 12) (nI ((Ls 4) 0)) ((cs 4) 9), tW T ((gq 4) 13) ((gq 4) 14) (nI ((Ls 4) 1)) ((cs 4) 10), tW T ((gq 4) 15) ((gq 4) 16) (nI ((Ls 4) 2)) ((cs 4) 11)]) (va_runV (As := [.ref (q 0)]) (rest := []) ⟨hx, hb, hml, hown, hts⟩ (c_X3_copyFrom l D T (gq 5) (cs 5) (Ls 5) q c L (by omega) (by omega) _) (mkV hts okX3_copyFrom kw_505 kw_230 kw_231 ⟨rfl, rfl, Nat.le_of_ble_eq_true rfl, Nat.le_of_ble_eq_true rfl⟩) (pv_rw hK hPc28 hDc28 (q0 := 0) rfl rfl rfl) rfl rfl hl0.1 rfl (lv_room (Nat.le_of_ble_eq_true rfl)) dX0_keep_39 ⟨Nat.le_of_ble_eq_true rfl, Nat.le_of_ble_eq_true rfl⟩) hP0 hD0 hS0 hA [0, 1, 2, 3, 4, 5, 6, 7, 8, 9, 10, 11, 12, 13, 14, 15, 16, 17, 18, 19, 20] [21, 22, 23, 24, 25, 26, 27, 28] rfl (by decide) (fun c3_39 H29 locs29 hq_39 hP29 hD29 hS29 => ?_)
    clear hP0 hD0 hS0 hPc28 hDc28
    have hP29 : va_P D vwCl (fl [yW T ya yb F (nI 5), sW T (gq 0) (cs 0), tW T ((gq 0) 11) ((gq 0) 12) (nI ((Ls 0) 0)) ((cs 0) 9), tW T ((gq 0) 13) ((gq 0) 14) (nI ((Ls 0) 1)) ((cs 0) 10), tW T ((gq 0) 15) ((gq 0) 16) (nI ((Ls 0) 2)) ((cs 0) 11), sW T (gq 1) (cs 1), tW T ((gq 1) 11) ((gq 1) 12) (nI ((Ls 1) 0)) ((cs 1) 9), tW T ((gq 1) 13) ((gq 1) 14) (nI ((Ls 1) 1)) ((cs 1) 10), tW T ((gq 1) 15) ((gq 1) 16) (nI ((Ls 1) 2)) ((cs 1) 11), sW T (gq 2) (cs 2), tW T ((gq 2) 11) ((gq 2) 12) (nI ((Ls 2) 0)) ((cs 2) 9), tW T ((gq 2) 13) ((gq 2) 14) (nI ((Ls 2) 1)) ((cs 2) 10), tW T ((gq 2) 15) ((gq 2) 16) (nI ((Ls 2) 2)) ((cs 2) 11), sW T (gq 3) (cs 3), tW T ((gq 3) 11) ((gq 3) 12) (nI ((Ls 3) 0)) ((cs 3) 9), tW T ((gq 3) 13) ((gq 3) 14) (nI ((Ls 3) 1)) ((cs 3) 10), tW T ((gq 3) 15) ((gq 3) 16) (nI ((Ls 3) 2)) ((cs 3) 11), sW T (gq 4) (cs 4), tW T ((gq 4) 11) ((gq 4) 12) (nI ((Ls 4) 0)) ((cs 4) 9), tW T ((gq 4) 13) ((gq 4) 14) (nI ((Ls 4) 1)) ((cs 4) 10), tW T ((gq 4) 15) ((gq 4) 16) (nI ((Ls 4) 2)) ((cs 4) 11), sW T (gq 5) c3_39, tW T ((gq 5) 11) ((gq 5) 12) (nI (L 0)) (c3_39 9), tW T ((gq 5) 13) ((gq 5) 14) (nI (L 1)) (c3_39 10), tW T ((gq 5) 15) ((gq 5) 16) (nI (L 2)) (c3_39 11), sW T q c, tW T (q 11) (q 12) (nI (L 0)) (c 9), tW T (q 13) (q 14) (nI (L 1)) (c 10), tW T (q 15) (q 16) (nI (L 2)) (c 11)]) _ := hP29
    have hD29 : va_D A (fl [yW T ya yb F (nI 5), sW T (gq 0) (cs 0), tW T ((gq 0) 11) ((gq 0) 12) (nI ((Ls 0) 0)) ((cs 0) 9), tW T ((gq 0) 13) ((gq 0) 14) (nI ((Ls 0) 1)) ((cs 0) 10), tW T ((gq 0) 15) ((gq 0) 16) (nI ((Ls 0) 2)) ((cs 0) 11), sW T (gq 1) (cs 1), tW T ((gq 1) 11) ((gq 1) 12) (nI ((Ls 1) 0)) ((cs 1) 9), tW T ((gq 1) 13) ((gq 1) 14) (nI ((Ls 1) 1)) ((cs 1) 10), tW T ((gq 1) 15) ((gq 1) 16) (nI ((Ls 1) 2)) ((cs 1) 11), sW T (gq 2) (cs 2), tW T ((gq 2) 11) ((gq 2) 12) (nI ((Ls 2) 0)) ((cs 2) 9), tW T ((gq 2) 13) ((gq 2) 14) (nI ((Ls 2) 1)) ((cs 2) 10), tW T ((gq 2) 15) ((gq 2) 16) (nI ((Ls 2) 2)) ((cs 2) 11), sW T (gq 3) (cs 3), tW T ((gq 3) 11) ((gq 3) 12) (nI ((Ls 3) 0)) ((cs 3) 9), tW T ((gq 3) 13) ((gq 3) 14) (nI ((Ls 3) 1)) ((cs 3) 10), tW T ((gq 3) 15) ((gq 3) 16) (nI ((Ls 3) 2)) ((cs 3) 11), sW T (gq 4) (cs 4), tW T ((gq 4) 11) ((gq 4) 12) (nI ((Ls 4) 0)) ((cs 4) 9), tW T ((gq 4) 13) ((gq 4) 14) (nI ((Ls 4) 1)) ((cs 4) 10), tW T ((gq 4) 15) ((gq 4) 16) (nI ((Ls 4) 2)) ((cs 4) 11), sW T (gq 5) c3_39, tW T ((gq 5) 11) ((gq 5) 12) (nI (L 0)) (c3_39 9), tW T ((gq 5) 13) ((gq 5) 14) (nI (L 1)) (c3_39 10), tW T ((gq 5) 15) ((gq 5) 16) (nI (L 2)) (c3_39 11), sW T q c, tW T (q 11) (q 12) (nI (L 0)) (c 9), tW T (q 13) (q 14) (nI (L 1)) (c 10), tW T (q 15) (q 16) (nI (L 2)) (c 11)]) := hD29
    have hq_39 : Eqv c3_39 c := hq_39
    refine lv_aload_n hx hb dX0_keep_42 rfl (lv_at hl0 0 rfl) ?_
    refine lv_dup hx hb dX0_keep_43 rfl ?_
    refine r_get (own := RX0) (C := RX0) (F := TX0) (N := 2) (ci := 0) (v := .int (nI 5)) hx hb hK hts in_X0 hown hP29 0 rfl rfl 1 (by decide) kw_151 rfl dX0_keep_44 ?_
    refine lv_iconst (v := nI 1) hx hb dX0_keep_47 (by decide) ?_
    refine lv_iadd hx hb dX0_keep_48 ?_
    refine tp_i (y := nI 6) (by decide) ?_
    refine r_put (own := RX0) (C := RX0) (F := TX0) (N := 2) (ci := 0) (v := nI 6) hx hb hK hts in_X0 tyX0 tyX0_ok nmX0 hown hP29 hD29 hS29 0 rfl rfl 1 (by decide) kw_151 rfl rfl (Nat.le_of_ble_eq_true rfl) dX0_keep_49 (fun (H30 : Heap) (locs30 : List Loc) (hP30 : va_P D vwCl (fl [yW T ya yb F (nI 6), sW T (gq 0) (cs 0), tW T ((gq 0) 11) ((gq 0) 12) (nI ((Ls 0) 0)) ((cs 0) 9), tW T ((gq 0) 13) ((gq 0) 14) (nI ((Ls 0) 1)) ((cs 0) 10), tW T ((gq 0) 15) ((gq 0) 16) (nI ((Ls 0) 2)) ((cs 0) 11), sW T (gq 1) (cs 1), tW T ((gq 1) 11) ((gq 1) 12) (nI ((Ls 1) 0)) ((cs 1) 9), tW T ((gq 1) 13) ((gq 1) 14) (nI ((Ls 1) 1)) ((cs 1) 10), tW T ((gq 1) 15) ((gq 1) 16) (nI ((Ls 1) 2)) ((cs 1) 11), sW T (gq 2) (cs 2), tW T ((gq 2) 11) ((gq 2) 12) (nI ((Ls 2) 0)) ((cs 2) 9), tW T ((gq 2) 13) ((gq 2) 14) (nI ((Ls 2) 1)) ((cs 2) 10), tW T ((gq 2) 15) ((gq 2) 16) (nI ((Ls 2) 2)) ((cs 2) 11), sW T (gq 3) (cs 3), tW T ((gq 3) 11) ((gq 3) 12) (nI ((Ls 3) 0)) ((cs 3) 9), tW T ((gq 3) 13) ((gq 3) 14) (nI ((Ls 3) 1)) ((cs 3) 10), tW T ((gq 3) 15) ((gq 3) 16) (nI ((Ls 3) 2)) ((cs 3) 11), sW T (gq 4) (cs 4), tW T ((gq 4) 11) ((gq 4) 12) (nI ((Ls 4) 0)) ((cs 4) 9), tW T ((gq 4) 13) ((gq 4) 14) (nI ((Ls 4) 1)) ((cs 4) 10), tW T ((gq 4) 15) ((gq 4) 16) (nI ((Ls 4) 2)) ((cs 4) 11), sW T (gq 5) c3_39, tW T ((gq 5) 11) ((gq 5) 12) (nI (L 0)) (c3_39 9), tW T ((gq 5) 13) ((gq 5) 14) (nI (L 1)) (c3_39 10), tW T ((gq 5) 15) ((gq 5) 16) (nI (L 2)) (c3_39 11), sW T q c, tW T (q 11) (q 12) (nI (L 0)) (c 9), tW T (q 13) (q 14) (nI (L 1)) (c 10), tW T (q 15) (q 16) (nI (L 2)) (c 11)]) H30) (hD30 : va_D A (fl [yW T ya yb F (nI 6), sW T (gq 0) (cs 0), tW T ((gq 0) 11) ((gq 0) 12) (nI ((Ls 0) 0)) ((cs 0) 9), tW T ((gq 0) 13) ((gq 0) 14) (nI ((Ls 0) 1)) ((cs 0) 10), tW T ((gq 0) 15) ((gq 0) 16) (nI ((Ls 0) 2)) ((cs 0) 11), sW T (gq 1) (cs 1), tW T ((gq 1) 11) ((gq 1) 12) (nI ((Ls 1) 0)) ((cs 1) 9), tW T ((gq 1) 13) ((gq 1) 14) (nI ((Ls 1) 1)) ((cs 1) 10), tW T ((gq 1) 15) ((gq 1) 16) (nI ((Ls 1) 2)) ((cs 1) 11), sW T (gq 2) (cs 2), tW T ((gq 2) 11) ((gq 2) 12) (nI ((Ls 2) 0)) ((cs 2) 9), tW T ((gq 2) 13) ((gq 2) 14) (nI ((Ls 2) 1)) ((cs 2) 10), tW T ((gq 2) 15) ((gq 2) 16) (nI ((Ls 2) 2)) ((cs 2) 11), sW T (gq 3) (cs 3), tW T ((gq 3) 11) ((gq 3) 12) (nI ((Ls 3) 0)) ((cs 3) 9), tW T ((gq 3) 13) ((gq 3) 14) (nI ((Ls 3) 1)) ((cs 3) 10), tW T ((gq 3) 15) ((gq 3) 16) (nI ((Ls 3) 2)) ((cs 3) 11), sW T (gq 4) (cs 4), tW T ((gq 4) 11) ((gq 4) 12) (nI ((Ls 4) 0)) ((cs 4) 9), tW T ((gq 4) 13) ((gq 4) 14) (nI ((Ls 4) 1)) ((cs 4) 10), tW T ((gq 4) 15) ((gq 4) 16) (nI ((Ls 4) 2)) ((cs 4) 11), sW T (gq 5) c3_39, tW T ((gq 5) 11) ((gq 5) 12) (nI (L 0)) (c3_39 9), tW T ((gq 5) 13) ((gq 5) 14) (nI (L 1)) (c3_39 10), tW T ((gq 5) 15) ((gq 5) 16) (nI (L 2)) (c3_39 11), sW T q c, tW T (q 11) (q 12) (nI (L 0)) (c 9), tW T (q 13) (q 14) (nI (L 1)) (c 10), tW T (q 15) (q 16) (nI (L 2)) (c 11)])) hS30 => ?_)
    clear hP29 hD29 hS29
    refine ret_v hTG (Nat.le_refl _) (Nat.le_refl _) hx hb hr hlocks ((F, gq, pushS 5 cs c3_39, pushS 5 Ls L)) hP30 hD30 hS30 [0, 1, 2, 3, 4, 5, 6, 7, 8, 9, 10, 11, 12, 13, 14, 15, 16, 17, 18, 19, 20, 21, 22, 23, 24, 25, 26, 27, 28] rfl (by decide) dX0_keep_52 ?_
    exact ⟨hF, _, hq_39, rfl, rfl⟩
  · skip
    refine lv_aload_n hx hb dX0_keep_0 rfl (lv_at hl0 0 rfl) ?_
    refine r_get (own := RX0) (C := RX0) (F := TX0) (N := 2) (ci := 0) (v := .int (nI 6)) hx hb hK hts in_X0 hown hP0 0 rfl rfl 1 (by decide) kw_151 rfl dX0_keep_1 ?_
    refine lv_bipush (v := nI 6) hx hb dX0_keep_4 (by decide) ?_
    refine n_icmp_lt (tgt := 13) hx hb (by omega) (by omega) dX0_keep_6 (by decide) (fun c31 => absurd c31 (by decide)) (fun c31 => ?_)
    refine lv_aload_n hx hb dX0_keep_9 rfl (lv_at hl0 0 rfl) ?_
    have hPc32 : va_P D vwCl (fl [yW T ya yb F (nI 6), sW T (gq 0) (cs 0), sW T (gq 1) (cs 1), sW T (gq 2) (cs 2), sW T (gq 3) (cs 3), sW T (gq 4) (cs 4), sW T (gq 5) (cs 5)]) _ := flP_sub hP0 [0, 1, 5, 9, 13, 17, 21] rfl
    have hDc32 : va_D A (fl [yW T ya yb F (nI 6), sW T (gq 0) (cs 0), sW T (gq 1) (cs 1), sW T (gq 2) (cs 2), sW T (gq 3) (cs 3), sW T (gq 4) (cs 4), sW T (gq 5) (cs 5)]) := flD_sub hD0 [0, 1, 5, 9, 13, 17, 21] (by decide) rfl
    refine cl_v (br := [tW T ((gq 0) 11) ((gq 0) 12) (nI ((Ls 0) 0)) ((cs 0) 9), tW T ((gq 0) 13) ((gq 0) 14) (nI ((Ls 0) 1)) ((cs 0) 10), tW T ((gq 0) 15) ((gq 0) 16) (nI ((Ls 0) 2)) ((cs 0) 11), tW T ((gq 1) 11) ((gq 1) 12) (nI ((Ls 1) 0)) ((cs 1) 9), tW T ((gq 1) 13) ((gq 1) 14) (nI ((Ls 1) 1)) ((cs 1) 10), tW T ((gq 1) 15) ((gq 1) 16) (nI ((Ls 1) 2)) ((cs 1) 11), tW T ((gq 2) 11) ((gq 2) 12) (nI ((Ls 2) 0)) ((cs 2) 9), tW T ((gq 2) 13) ((gq 2) 14) (nI ((Ls 2) 1)) ((cs 2) 10), tW T ((gq 2) 15) ((gq 2) 16) (nI ((Ls 2) 2)) ((cs 2) 11), tW T ((gq 3) 11) ((gq 3) 12) (nI ((Ls 3) 0)) ((cs 3) 9), tW T ((gq 3) 13) ((gq 3) 14) (nI ((Ls 3) 1)) ((cs 3) 10), tW T ((gq 3) 15) ((gq 3) 16) (nI ((Ls 3) 2)) ((cs 3) 11), tW T ((gq 4) 11) ((gq 4) 12) (nI ((Ls 4) 0)) ((cs 4) 9), tW T ((gq 4) 13) ((gq 4) 14) (nI ((Ls 4) 1)) ((cs 4) 10), tW T ((gq 4) 15) ((gq 4) 16) (nI ((Ls 4) 2)) ((cs 4) 11), tW T ((gq 5) 11) ((gq 5) 12) (nI ((Ls 5) 0)) ((cs 5) 9), tW T ((gq 5) 13) ((gq 5) 14) (nI ((Ls 5) 1)) ((cs 5) 10), tW T ((gq 5) 15) ((gq 5) 16) (nI ((Ls 5) 2)) ((cs 5) 11), sW T q c, tW T (q 11) (q 12) (nI (L 0)) (c 9), tW T (q 13) (q 14) (nI (L 1)) (c 10), tW T (q 15) (q 16) (nI (L 2)) (c 11)]) (va_runV (As := []) (rest := []) ⟨hx, hb, hml, hown, hts⟩ (c_X0_dropOldest l D T ya yb F _ _ (by omega) _) (mkV hts okX0_dropOldest kw_501 kw_503 ks_11 ⟨rfl, rfl, Nat.le_of_ble_eq_true rfl, Nat.le_of_ble_eq_true rfl⟩) (pv_rw hK hPc32 hDc32 (q0 := 0) rfl rfl rfl) rfl rfl hl0.1 rfl (lv_room (Nat.le_of_ble_eq_true rfl)) dX0_keep_10 ⟨Nat.le_of_ble_eq_true rfl, Nat.le_of_ble_eq_true rfl⟩) hP0 hD0 hS0 hA [2, 3, 4, 6, 7, 8, 10, 11, 12, 14, 15, 16, 18, 19, 20, 22, 23, 24, 25, 26, 27, 28] [0, 1, 5, 9, 13, 17, 21] rfl (by decide) (fun F2_10 H33 locs33 hq_10 hP33 hD33 hS33 => ?_)
    clear hP0 hD0 hS0 hPc32 hDc32
    have hP33 : va_P D vwCl (fl [tW T ((gq 0) 11) ((gq 0) 12) (nI ((Ls 0) 0)) ((cs 0) 9), tW T ((gq 0) 13) ((gq 0) 14) (nI ((Ls 0) 1)) ((cs 0) 10), tW T ((gq 0) 15) ((gq 0) 16) (nI ((Ls 0) 2)) ((cs 0) 11), tW T ((gq 1) 11) ((gq 1) 12) (nI ((Ls 1) 0)) ((cs 1) 9), tW T ((gq 1) 13) ((gq 1) 14) (nI ((Ls 1) 1)) ((cs 1) 10), tW T ((gq 1) 15) ((gq 1) 16) (nI ((Ls 1) 2)) ((cs 1) 11), tW T ((gq 2) 11) ((gq 2) 12) (nI ((Ls 2) 0)) ((cs 2) 9), tW T ((gq 2) 13) ((gq 2) 14) (nI ((Ls 2) 1)) ((cs 2) 10), tW T ((gq 2) 15) ((gq 2) 16) (nI ((Ls 2) 2)) ((cs 2) 11), tW T ((gq 3) 11) ((gq 3) 12) (nI ((Ls 3) 0)) ((cs 3) 9), tW T ((gq 3) 13) ((gq 3) 14) (nI ((Ls 3) 1)) ((cs 3) 10), tW T ((gq 3) 15) ((gq 3) 16) (nI ((Ls 3) 2)) ((cs 3) 11), tW T ((gq 4) 11) ((gq 4) 12) (nI ((Ls 4) 0)) ((cs 4) 9), tW T ((gq 4) 13) ((gq 4) 14) (nI ((Ls 4) 1)) ((cs 4) 10), tW T ((gq 4) 15) ((gq 4) 16) (nI ((Ls 4) 2)) ((cs 4) 11), tW T ((gq 5) 11) ((gq 5) 12) (nI ((Ls 5) 0)) ((cs 5) 9), tW T ((gq 5) 13) ((gq 5) 14) (nI ((Ls 5) 1)) ((cs 5) 10), tW T ((gq 5) 15) ((gq 5) 16) (nI ((Ls 5) 2)) ((cs 5) 11), sW T q c, tW T (q 11) (q 12) (nI (L 0)) (c 9), tW T (q 13) (q 14) (nI (L 1)) (c 10), tW T (q 15) (q 16) (nI (L 2)) (c 11), yW T ya yb F2_10 (nI 5), sW T (gq 0) (cs 0), sW T (gq 1) (cs 1), sW T (gq 2) (cs 2), sW T (gq 3) (cs 3), sW T (gq 4) (cs 4), sW T (gq 5) (cs 5)]) _ := hP33
    have hD33 : va_D A (fl [tW T ((gq 0) 11) ((gq 0) 12) (nI ((Ls 0) 0)) ((cs 0) 9), tW T ((gq 0) 13) ((gq 0) 14) (nI ((Ls 0) 1)) ((cs 0) 10), tW T ((gq 0) 15) ((gq 0) 16) (nI ((Ls 0) 2)) ((cs 0) 11), tW T ((gq 1) 11) ((gq 1) 12) (nI ((Ls 1) 0)) ((cs 1) 9), tW T ((gq 1) 13) ((gq 1) 14) (nI ((Ls 1) 1)) ((cs 1) 10), tW T ((gq 1) 15) ((gq 1) 16) (nI ((Ls 1) 2)) ((cs 1) 11), tW T ((gq 2) 11) ((gq 2) 12) (nI ((Ls 2) 0)) ((cs 2) 9), tW T ((gq 2) 13) ((gq 2) 14) (nI ((Ls 2) 1)) ((cs 2) 10), tW T ((gq 2) 15) ((gq 2) 16) (nI ((Ls 2) 2)) ((cs 2) 11), tW T ((gq 3) 11) ((gq 3) 12) (nI ((Ls 3) 0)) ((cs 3) 9), tW T ((gq 3) 13) ((gq 3) 14) (nI ((Ls 3) 1)) ((cs 3) 10), tW T ((gq 3) 15) ((gq 3) 16) (nI ((Ls 3) 2)) ((cs 3) 11), tW T ((gq 4) 11) ((gq 4) 12) (nI ((Ls 4) 0)) ((cs 4) 9), tW T ((gq 4) 13) ((gq 4) 14) (nI ((Ls 4) 1)) ((cs 4) 10), tW T ((gq 4) 15) ((gq 4) 16) (nI ((Ls 4) 2)) ((cs 4) 11), tW T ((gq 5) 11) ((gq 5) 12) (nI ((Ls 5) 0)) ((cs 5) 9), tW T ((gq 5) 13) ((gq 5) 14) (nI ((Ls 5) 1)) ((cs 5) 10), tW T ((gq 5) 15) ((gq 5) 16) (nI ((Ls 5) 2)) ((cs 5) 11), sW T q c, tW T (q 11) (q 12) (nI (L 0)) (c 9), tW T (q 13) (q 14) (nI (L 1)) (c 10), tW T (q 15) (q 16) (nI (L 2)) (c 11), yW T ya yb F2_10 (nI 5), sW T (gq 0) (cs 0), sW T (gq 1) (cs 1), sW T (gq 2) (cs 2), sW T (gq 3) (cs 3), sW T (gq 4) (cs 4), sW T (gq 5) (cs 5)]) := hD33
    have hq_10 : ∀ k, k < 6 → F2_10 k = some (rotG gq k 0) := hq_10
    refine lv_aload_n hx hb dX0_keep_13 rfl (lv_at hl0 0 rfl) ?_
    refine r_get (own := RX0) (C := RX0) (F := TX0) (N := 2) (ci := 0) (v := .int (nI 5)) hx hb hK hts in_X0 hown hP33 53 rfl rfl 1 (by decide) kw_151 rfl dX0_keep_14 ?_
    refine n_if_lt hx hb (by omega) dX0_keep_17 52 (by decide) ?_
    refine lv_aload_n hx hb dX0_keep_20 rfl (lv_at hl0 0 rfl) ?_
    refine r_get (own := RX0) (C := RX0) (F := TX0) (N := 2) (ci := 0) (v := .int (nI 5)) hx hb hK hts in_X0 hown hP33 53 rfl rfl 1 (by decide) kw_151 rfl dX0_keep_21 ?_
    refine lv_bipush (v := nI 6) hx hb dX0_keep_24 (by decide) ?_
    refine n_icmp_ge (tgt := 52) hx hb (by omega) (by omega) dX0_keep_26 (by decide) (fun c34 => absurd c34 (by decide)) (fun c34 => ?_)
    refine lv_aload_n hx hb dX0_keep_29 rfl (lv_at hl0 0 rfl) ?_
    refine r_get (own := RX0) (C := RX0) (F := TX0) (N := 2) (ci := 0) (v := .ref yb) hx hb hK hts in_X0 hown hP33 53 rfl rfl 0 (by decide) kw_150 rfl dX0_keep_30 ?_
    refine lv_aload_n hx hb dX0_keep_33 rfl (lv_at hl0 0 rfl) ?_
    refine r_get (own := RX0) (C := RX0) (F := TX0) (N := 2) (ci := 0) (v := .int (nI 5)) hx hb hK hts in_X0 hown hP33 53 rfl rfl 1 (by decide) kw_151 rfl dX0_keep_34 ?_
    refine r_aald (C := RX3) (v := ((gq 0) 0)) hx hb hK hP33 54 3 rfl rfl 5 (by decide) dX0_keep_37 (by decide) (hq_10 5 (by omega)) ?_
    refine lv_aload_n hx hb dX0_keep_38 rfl (lv_at hl0 1 rfl) ?_
    have hPc35 : va_P D vwCl (fl [sW T (gq 0) (cs 0), tW T ((gq 0) 11) ((gq 0) 12) (nI ((Ls 0) 0)) ((cs 0) 9), tW T ((gq 0) 13) ((gq 0) 14) (nI ((Ls 0) 1)) ((cs 0) 10), tW T ((gq 0) 15) ((gq 0) 16) (nI ((Ls 0) 2)) ((cs 0) 11), sW T q c, tW T (q 11) (q 12) (nI (L 0)) (c 9), tW T (q 13) (q 14) (nI (L 1)) (c 10), tW T (q 15) (q 16) (nI (L 2)) (c 11)]) _ := flP_sub hP33 [23, 0, 1, 2, 18, 19, 20, 21] rfl
    have hDc35 : va_D A (fl [sW T (gq 0) (cs 0), tW T ((gq 0) 11) ((gq 0) 12) (nI ((Ls 0) 0)) ((cs 0) 9), tW T ((gq 0) 13) ((gq 0) 14) (nI ((Ls 0) 1)) ((cs 0) 10), tW T ((gq 0) 15) ((gq 0) 16) (nI ((Ls 0) 2)) ((cs 0) 11), sW T q c, tW T (q 11) (q 12) (nI (L 0)) (c 9), tW T (q 13) (q 14) (nI (L 1)) (c 10), tW T (q 15) (q 16) (nI (L 2)) (c 11)]) := flD_sub hD33 [23, 0, 1, 2, 18, 19, 20, 21] (by decide) rfl
    refine cl_v (br := [tW T ((gq 1) 11) ((gq 1) 12) (nI ((Ls 1) 0)) ((cs 1) 9), tW T ((gq 1) 13) ((gq 1) 14) (nI ((Ls 1) 1)) ((cs 1) 10), tW T ((gq 1) 15) ((gq 1) 16) (nI ((Ls 1) 2)) ((cs 1) 11), tW T ((gq 2) 11) ((gq 2) 12) (nI ((Ls 2) 0)) ((cs 2) 9), tW T ((gq 2) 13) ((gq 2) 14) (nI ((Ls 2) 1)) ((cs 2) 10), tW T ((gq 2) 15) ((gq 2) 16) (nI ((Ls 2) 2)) ((cs 2) 11), tW T ((gq 3) 11) ((gq 3) 12) (nI ((Ls 3) 0)) ((cs 3) 9), tW T ((gq 3) 13) ((gq 3) 14) (nI ((Ls 3) 1)) ((cs 3) 10), tW T ((gq 3) 15) ((gq 3) 16) (nI ((Ls 3) 2)) ((cs 3) 11), tW T ((gq 4) 11) ((gq 4) 12) (nI ((Ls 4) 0)) ((cs 4) 9), tW T ((gq 4) 13) ((gq 4) 14) (nI ((Ls 4) 1)) ((cs 4) 10), tW T ((gq 4) 15) ((gq 4) 16) (nI ((Ls 4) 2)) ((cs 4) 11), tW T ((gq 5) 11) ((gq 5) 12) (nI ((Ls 5) 0)) ((cs 5) 9), tW T ((gq 5) 13) ((gq 5) 14) (nI ((Ls 5) 1)) ((cs 5) 10), tW T ((gq 5) 15) ((gq 5) 16) (nI ((Ls 5) 2)) ((cs 5) 11), yW T ya yb F2_10 (nI 5), sW T (gq 1) (cs 1), sW T (gq 2) (cs 2), sW T (gq 3) (cs 3), sW T (gq 4) (cs 4), sW T (gq 5) (cs 5)]) (va_runV (As := [.ref (q 0)]) (rest := []) ⟨hx, hb, hml, hown, hts⟩ (c_X3_copyFrom l D T (gq 0) (cs 0) (Ls 0) q c L (by omega) (by omega) _) (mkV hts okX3_copyFrom kw_505 kw_230 kw_231 ⟨rfl, rfl, Nat.le_of_ble_eq_true rfl, Nat.le_of_ble_eq_true rfl⟩) (pv_rw hK hPc35 hDc35 (q0 := 0) rfl rfl rfl) rfl rfl hl0.1 rfl (lv_room (Nat.le_of_ble_eq_true rfl)) dX0_keep_39 ⟨Nat.le_of_ble_eq_true rfl, Nat.le_of_ble_eq_true rfl⟩) hP33 hD33 hS33 hA [3, 4, 5, 6, 7, 8, 9, 10, 11, 12, 13, 14, 15, 16, 17, 22, 24, 25, 26, 27, 28] [23, 0, 1, 2, 18, 19, 20, 21] rfl (by decide) (fun c3_39 H36 locs36 hq_39 hP36 hD36 hS36 => ?_)
    clear hP33 hD33 hS33 hPc35 hDc35
    have hP36 : va_P D vwCl (fl [tW T ((gq 1) 11) ((gq 1) 12) (nI ((Ls 1) 0)) ((cs 1) 9), tW T ((gq 1) 13) ((gq 1) 14) (nI ((Ls 1) 1)) ((cs 1) 10), tW T ((gq 1) 15) ((gq 1) 16) (nI ((Ls 1) 2)) ((cs 1) 11), tW T ((gq 2) 11) ((gq 2) 12) (nI ((Ls 2) 0)) ((cs 2) 9), tW T ((gq 2) 13) ((gq 2) 14) (nI ((Ls 2) 1)) ((cs 2) 10), tW T ((gq 2) 15) ((gq 2) 16) (nI ((Ls 2) 2)) ((cs 2) 11), tW T ((gq 3) 11) ((gq 3) 12) (nI ((Ls 3) 0)) ((cs 3) 9), tW T ((gq 3) 13) ((gq 3) 14) (nI ((Ls 3) 1)) ((cs 3) 10), tW T ((gq 3) 15) ((gq 3) 16) (nI ((Ls 3) 2)) ((cs 3) 11), tW T ((gq 4) 11) ((gq 4) 12) (nI ((Ls 4) 0)) ((cs 4) 9), tW T ((gq 4) 13) ((gq 4) 14) (nI ((Ls 4) 1)) ((cs 4) 10), tW T ((gq 4) 15) ((gq 4) 16) (nI ((Ls 4) 2)) ((cs 4) 11), tW T ((gq 5) 11) ((gq 5) 12) (nI ((Ls 5) 0)) ((cs 5) 9), tW T ((gq 5) 13) ((gq 5) 14) (nI ((Ls 5) 1)) ((cs 5) 10), tW T ((gq 5) 15) ((gq 5) 16) (nI ((Ls 5) 2)) ((cs 5) 11), yW T ya yb F2_10 (nI 5), sW T (gq 1) (cs 1), sW T (gq 2) (cs 2), sW T (gq 3) (cs 3), sW T (gq 4) (cs 4), sW T (gq 5) (cs 5), sW T (gq 0) c3_39, tW T ((gq 0) 11) ((gq 0) 12) (nI (L 0)) (c3_39 9), tW T ((gq 0) 13) ((gq 0) 14) (nI (L 1)) (c3_39 10), tW T ((gq 0) 15) ((gq 0) 16) (nI (L 2)) (c3_39 11), sW T q c, tW T (q 11) (q 12) (nI (L 0)) (c 9), tW T (q 13) (q 14) (nI (L 1)) (c 10), tW T (q 15) (q 16) (nI (L 2)) (c 11)]) _ := hP36
    have hD36 : va_D A (fl [tW T ((gq 1) 11) ((gq 1) 12) (nI ((Ls 1) 0)) ((cs 1) 9), tW T ((gq 1) 13) ((gq 1) 14) (nI ((Ls 1) 1)) ((cs 1) 10), tW T ((gq 1) 15) ((gq 1) 16) (nI ((Ls 1) 2)) ((cs 1) 11), tW T ((gq 2) 11) ((gq 2) 12) (nI ((Ls 2) 0)) ((cs 2) 9), tW T ((gq 2) 13) ((gq 2) 14) (nI ((Ls 2) 1)) ((cs 2) 10), tW T ((gq 2) 15) ((gq 2) 16) (nI ((Ls 2) 2)) ((cs 2) 11), tW T ((gq 3) 11) ((gq 3) 12) (nI ((Ls 3) 0)) ((cs 3) 9), tW T ((gq 3) 13) ((gq 3) 14) (nI ((Ls 3) 1)) ((cs 3) 10), tW T ((gq 3) 15) ((gq 3) 16) (nI ((Ls 3) 2)) ((cs 3) 11), tW T ((gq 4) 11) ((gq 4) 12) (nI ((Ls 4) 0)) ((cs 4) 9), tW T ((gq 4) 13) ((gq 4) 14) (nI ((Ls 4) 1)) ((cs 4) 10), tW T ((gq 4) 15) ((gq 4) 16) (nI ((Ls 4) 2)) ((cs 4) 11), tW T ((gq 5) 11) ((gq 5) 12) (nI ((Ls 5) 0)) ((cs 5) 9), tW T ((gq 5) 13) ((gq 5) 14) (nI ((Ls 5) 1)) ((cs 5) 10), tW T ((gq 5) 15) ((gq 5) 16) (nI ((Ls 5) 2)) ((cs 5) 11), yW T ya yb F2_10 (nI 5), sW T (gq 1) (cs 1), sW T (gq 2) (cs 2), sW T (gq 3) (cs 3), sW T (gq 4) (cs 4), sW T (gq 5) (cs 5), sW T (gq 0) c3_39, tW T ((gq 0) 11) ((gq 0) 12) (nI (L 0)) (c3_39 9), tW T ((gq 0) 13) ((gq 0) 14) (nI (L 1)) (c3_39 10), tW T ((gq 0) 15) ((gq 0) 16) (nI (L 2)) (c3_39 11), sW T q c, tW T (q 11) (q 12) (nI (L 0)) (c 9), tW T (q 13) (q 14) (nI (L 1)) (c 10), tW T (q 15) (q 16) (nI (L 2)) (c 11)]) := hD36
    have hq_39 : Eqv c3_39 c := hq_39
    refine lv_aload_n hx hb dX0_keep_42 rfl (lv_at hl0 0 rfl) ?_
    refine lv_dup hx hb dX0_keep_43 rfl ?_
    refine r_get (own := RX0) (C := RX0) (F := TX0) (N := 2) (ci := 0) (v := .int (nI 5)) hx hb hK hts in_X0 hown hP36 30 rfl rfl 1 (by decide) kw_151 rfl dX0_keep_44 ?_
    refine lv_iconst (v := nI 1) hx hb dX0_keep_47 (by decide) ?_
    refine lv_iadd hx hb dX0_keep_48 ?_
    refine tp_i (y := nI 6) (by decide) ?_
    refine r_put (own := RX0) (C := RX0) (F := TX0) (N := 2) (ci := 0) (v := nI 6) hx hb hK hts in_X0 tyX0 tyX0_ok nmX0 hown hP36 hD36 hS36 30 rfl rfl 1 (by decide) kw_151 rfl rfl (Nat.le_of_ble_eq_true rfl) dX0_keep_49 (fun (H37 : Heap) (locs37 : List Loc) (hP37 : va_P D vwCl (fl [tW T ((gq 1) 11) ((gq 1) 12) (nI ((Ls 1) 0)) ((cs 1) 9), tW T ((gq 1) 13) ((gq 1) 14) (nI ((Ls 1) 1)) ((cs 1) 10), tW T ((gq 1) 15) ((gq 1) 16) (nI ((Ls 1) 2)) ((cs 1) 11), tW T ((gq 2) 11) ((gq 2) 12) (nI ((Ls 2) 0)) ((cs 2) 9), tW T ((gq 2) 13) ((gq 2) 14) (nI ((Ls 2) 1)) ((cs 2) 10), tW T ((gq 2) 15) ((gq 2) 16) (nI ((Ls 2) 2)) ((cs 2) 11), tW T ((gq 3) 11) ((gq 3) 12) (nI ((Ls 3) 0)) ((cs 3) 9), tW T ((gq 3) 13) ((gq 3) 14) (nI ((Ls 3) 1)) ((cs 3) 10), tW T ((gq 3) 15) ((gq 3) 16) (nI ((Ls 3) 2)) ((cs 3) 11), tW T ((gq 4) 11) ((gq 4) 12) (nI ((Ls 4) 0)) ((cs 4) 9), tW T ((gq 4) 13) ((gq 4) 14) (nI ((Ls 4) 1)) ((cs 4) 10), tW T ((gq 4) 15) ((gq 4) 16) (nI ((Ls 4) 2)) ((cs 4) 11), tW T ((gq 5) 11) ((gq 5) 12) (nI ((Ls 5) 0)) ((cs 5) 9), tW T ((gq 5) 13) ((gq 5) 14) (nI ((Ls 5) 1)) ((cs 5) 10), tW T ((gq 5) 15) ((gq 5) 16) (nI ((Ls 5) 2)) ((cs 5) 11), yW T ya yb F2_10 (nI 6), sW T (gq 1) (cs 1), sW T (gq 2) (cs 2), sW T (gq 3) (cs 3), sW T (gq 4) (cs 4), sW T (gq 5) (cs 5), sW T (gq 0) c3_39, tW T ((gq 0) 11) ((gq 0) 12) (nI (L 0)) (c3_39 9), tW T ((gq 0) 13) ((gq 0) 14) (nI (L 1)) (c3_39 10), tW T ((gq 0) 15) ((gq 0) 16) (nI (L 2)) (c3_39 11), sW T q c, tW T (q 11) (q 12) (nI (L 0)) (c 9), tW T (q 13) (q 14) (nI (L 1)) (c 10), tW T (q 15) (q 16) (nI (L 2)) (c 11)]) H37) (hD37 : va_D A (fl [tW T ((gq 1) 11) ((gq 1) 12) (nI ((Ls 1) 0)) ((cs 1) 9), tW T ((gq 1) 13) ((gq 1) 14) (nI ((Ls 1) 1)) ((cs 1) 10), tW T ((gq 1) 15) ((gq 1) 16) (nI ((Ls 1) 2)) ((cs 1) 11), tW T ((gq 2) 11) ((gq 2) 12) (nI ((Ls 2) 0)) ((cs 2) 9), tW T ((gq 2) 13) ((gq 2) 14) (nI ((Ls 2) 1)) ((cs 2) 10), tW T ((gq 2) 15) ((gq 2) 16) (nI ((Ls 2) 2)) ((cs 2) 11), tW T ((gq 3) 11) ((gq 3) 12) (nI ((Ls 3) 0)) ((cs 3) 9), tW T ((gq 3) 13) ((gq 3) 14) (nI ((Ls 3) 1)) ((cs 3) 10), tW T ((gq 3) 15) ((gq 3) 16) (nI ((Ls 3) 2)) ((cs 3) 11), tW T ((gq 4) 11) ((gq 4) 12) (nI ((Ls 4) 0)) ((cs 4) 9), tW T ((gq 4) 13) ((gq 4) 14) (nI ((Ls 4) 1)) ((cs 4) 10), tW T ((gq 4) 15) ((gq 4) 16) (nI ((Ls 4) 2)) ((cs 4) 11), tW T ((gq 5) 11) ((gq 5) 12) (nI ((Ls 5) 0)) ((cs 5) 9), tW T ((gq 5) 13) ((gq 5) 14) (nI ((Ls 5) 1)) ((cs 5) 10), tW T ((gq 5) 15) ((gq 5) 16) (nI ((Ls 5) 2)) ((cs 5) 11), yW T ya yb F2_10 (nI 6), sW T (gq 1) (cs 1), sW T (gq 2) (cs 2), sW T (gq 3) (cs 3), sW T (gq 4) (cs 4), sW T (gq 5) (cs 5), sW T (gq 0) c3_39, tW T ((gq 0) 11) ((gq 0) 12) (nI (L 0)) (c3_39 9), tW T ((gq 0) 13) ((gq 0) 14) (nI (L 1)) (c3_39 10), tW T ((gq 0) 15) ((gq 0) 16) (nI (L 2)) (c3_39 11), sW T q c, tW T (q 11) (q 12) (nI (L 0)) (c 9), tW T (q 13) (q 14) (nI (L 1)) (c 10), tW T (q 15) (q 16) (nI (L 2)) (c 11)])) hS37 => ?_)
    clear hP36 hD36 hS36
    refine ret_v hTG (Nat.le_refl _) (Nat.le_refl _) hx hb hr hlocks ((F2_10, rotG gq, pushS 6 cs c3_39, pushS 6 Ls L)) hP37 hD37 hS37 [15, 16, 0, 1, 2, 17, 3, 4, 5, 18, 6, 7, 8, 19, 9, 10, 11, 20, 12, 13, 14, 21, 22, 23, 24, 25, 26, 27, 28] rfl (by decide) dX0_keep_52 ?_
    exact ⟨hq_10, _, hq_39, rfl, rfl⟩
set_option maxHeartbeats 4000000 in
set_option maxRecDepth 100000 in
theorem c_X0_restore (l : Launch) (D : va_G) (T : TI) (ya : Nat) (yb : Nat) (F : Nat → Option Nat) (gq : Nat → Nat → Nat) (cs : Nat → Nat → Nat → Int32) (Ls : Nat → Nat → Nat) (kp : Nat) (q : Nat → Nat) (c : Nat → Nat → Int32) (L : Nat → Nat) (hkp : kp ≤ 6) (hk0 : 0 < kp) (hF : ∀ k, k < 6 → F k = some (gq k 0)) (hz1 : ∀ i, i < kp → ∀ k, k < 2 → cs i 1 k = 0 ∨ cs i 1 k = 1) (hz5 : ∀ i, i < kp → ∀ k, k < 12 → cs i 5 k = 0 ∨ cs i 5 k = 1) : CV l yX0_restore cX0_restore 2 (rmD 3 0 0) D T [.ref ya, .ref (q 0)] [yW T ya yb F (nI kp), sW T (gq 0) (cs 0), tW T ((gq 0) 11) ((gq 0) 12) (nI ((Ls 0) 0)) ((cs 0) 9), tW T ((gq 0) 13) ((gq 0) 14) (nI ((Ls 0) 1)) ((cs 0) 10), tW T ((gq 0) 15) ((gq 0) 16) (nI ((Ls 0) 2)) ((cs 0) 11), sW T (gq 1) (cs 1), tW T ((gq 1) 11) ((gq 1) 12) (nI ((Ls 1) 0)) ((cs 1) 9), tW T ((gq 1) 13) ((gq 1) 14) (nI ((Ls 1) 1)) ((cs 1) 10), tW T ((gq 1) 15) ((gq 1) 16) (nI ((Ls 1) 2)) ((cs 1) 11), sW T (gq 2) (cs 2), tW T ((gq 2) 11) ((gq 2) 12) (nI ((Ls 2) 0)) ((cs 2) 9), tW T ((gq 2) 13) ((gq 2) 14) (nI ((Ls 2) 1)) ((cs 2) 10), tW T ((gq 2) 15) ((gq 2) 16) (nI ((Ls 2) 2)) ((cs 2) 11), sW T (gq 3) (cs 3), tW T ((gq 3) 11) ((gq 3) 12) (nI ((Ls 3) 0)) ((cs 3) 9), tW T ((gq 3) 13) ((gq 3) 14) (nI ((Ls 3) 1)) ((cs 3) 10), tW T ((gq 3) 15) ((gq 3) 16) (nI ((Ls 3) 2)) ((cs 3) 11), sW T (gq 4) (cs 4), tW T ((gq 4) 11) ((gq 4) 12) (nI ((Ls 4) 0)) ((cs 4) 9), tW T ((gq 4) 13) ((gq 4) 14) (nI ((Ls 4) 1)) ((cs 4) 10), tW T ((gq 4) 15) ((gq 4) 16) (nI ((Ls 4) 2)) ((cs 4) 11), sW T (gq 5) (cs 5), tW T ((gq 5) 11) ((gq 5) 12) (nI ((Ls 5) 0)) ((cs 5) 9), tW T ((gq 5) 13) ((gq 5) 14) (nI ((Ls 5) 1)) ((cs 5) 10), tW T ((gq 5) 15) ((gq 5) 16) (nI ((Ls 5) 2)) ((cs 5) 11), sW T q c, tW T (q 11) (q 12) (nI (L 0)) (c 9), tW T (q 13) (q 14) (nI (L 1)) (c 10), tW T (q 15) (q 16) (nI (L 2)) (c 11)] 0 0 (β := Nat → Nat → Int32) (fun (c3 : Nat → Nat → Int32) => [yW T ya yb F (nI (kp - 1)), sW T (gq 0) (cs 0), tW T ((gq 0) 11) ((gq 0) 12) (nI ((Ls 0) 0)) ((cs 0) 9), tW T ((gq 0) 13) ((gq 0) 14) (nI ((Ls 0) 1)) ((cs 0) 10), tW T ((gq 0) 15) ((gq 0) 16) (nI ((Ls 0) 2)) ((cs 0) 11), sW T (gq 1) (cs 1), tW T ((gq 1) 11) ((gq 1) 12) (nI ((Ls 1) 0)) ((cs 1) 9), tW T ((gq 1) 13) ((gq 1) 14) (nI ((Ls 1) 1)) ((cs 1) 10), tW T ((gq 1) 15) ((gq 1) 16) (nI ((Ls 1) 2)) ((cs 1) 11), sW T (gq 2) (cs 2), tW T ((gq 2) 11) ((gq 2) 12) (nI ((Ls 2) 0)) ((cs 2) 9), tW T ((gq 2) 13) ((gq 2) 14) (nI ((Ls 2) 1)) ((cs 2) 10), tW T ((gq 2) 15) ((gq 2) 16) (nI ((Ls 2) 2)) ((cs 2) 11), sW T (gq 3) (cs 3), tW T ((gq 3) 11) ((gq 3) 12) (nI ((Ls 3) 0)) ((cs 3) 9), tW T ((gq 3) 13) ((gq 3) 14) (nI ((Ls 3) 1)) ((cs 3) 10), tW T ((gq 3) 15) ((gq 3) 16) (nI ((Ls 3) 2)) ((cs 3) 11), sW T (gq 4) (cs 4), tW T ((gq 4) 11) ((gq 4) 12) (nI ((Ls 4) 0)) ((cs 4) 9), tW T ((gq 4) 13) ((gq 4) 14) (nI ((Ls 4) 1)) ((cs 4) 10), tW T ((gq 4) 15) ((gq 4) 16) (nI ((Ls 4) 2)) ((cs 4) 11), sW T (gq 5) (cs 5), tW T ((gq 5) 11) ((gq 5) 12) (nI ((Ls 5) 0)) ((cs 5) 9), tW T ((gq 5) 13) ((gq 5) 14) (nI ((Ls 5) 1)) ((cs 5) 10), tW T ((gq 5) 15) ((gq 5) 16) (nI ((Ls 5) 2)) ((cs 5) 11), sW T q c3, tW T (q 11) (q 12) (nI ((Ls (kp - 1)) 0)) (c3 9), tW T (q 13) (q 14) (nI ((Ls (kp - 1)) 1)) (c3 10), tW T (q 15) (q 16) (nI ((Ls (kp - 1)) 2)) (c3 11)]) (fun (c3 : Nat → Nat → Int32) => Eqv c3 (cs (kp - 1))) := by
  intro sz
  refine met_rw (Qc := fun A => va_Qv _ (PST D _ A) A) rfl (Nat.le_of_ble_eq_true rfl) ?_
  intro pX eX sX mX bX mtX cX A hAe hC hA hP0 hD0 hS0 ls0 hl0 TG hTG
  clear hAe
  obtain ⟨hx, hb, hr, hml, hown, hts, hlocks, hin, hK⟩ := hC
  have hown : sX.vm.findClass RX0 = some mX.cls := hown
  have hl0 : lv_has ls0 2 [(0, .ref ya), (1, .ref (q 0))] := hl0
  rcases (show kp = 1 ∨ kp = 2 ∨ kp = 3 ∨ kp = 4 ∨ kp = 5 ∨ kp = 6 by omega) with rfl | rfl | rfl | rfl | rfl | rfl
  · skip
    refine lv_aload_n hx hb dX0_restore_0 rfl (lv_at hl0 0 rfl) ?_
    refine r_get (own := RX0) (C := RX0) (F := TX0) (N := 2) (ci := 0) (v := .int (nI 1)) hx hb hK hts in_X0 hown hP0 0 rfl rfl 1 (by decide) kw_151 rfl dX0_restore_1 ?_
    refine n_if_le (tgt := 39) hx hb (by omega) dX0_restore_4 (by decide) (fun c1 => absurd c1 (by decide)) (fun c1 => ?_)
    refine lv_aload_n hx hb dX0_restore_7 rfl (lv_at hl0 0 rfl) ?_
    refine r_get (own := RX0) (C := RX0) (F := TX0) (N := 2) (ci := 0) (v := .int (nI 1)) hx hb hK hts in_X0 hown hP0 0 rfl rfl 1 (by decide) kw_151 rfl dX0_restore_8 ?_
    refine lv_bipush (v := nI 6) hx hb dX0_restore_11 (by decide) ?_
    refine n_icmp_gt (tgt := 39) hx hb (by omega) (by omega) dX0_restore_13 (by decide) (fun c2 => absurd c2 (by decide)) (fun c2 => ?_)
    refine lv_aload_n hx hb dX0_restore_16 rfl (lv_at hl0 0 rfl) ?_
    refine lv_dup hx hb dX0_restore_17 rfl ?_
    refine r_get (own := RX0) (C := RX0) (F := TX0) (N := 2) (ci := 0) (v := .int (nI 1)) hx hb hK hts in_X0 hown hP0 0 rfl rfl 1 (by decide) kw_151 rfl dX0_restore_18 ?_
    refine lv_iconst (v := nI 1) hx hb dX0_restore_21 (by decide) ?_
    refine lv_isub hx hb dX0_restore_22 ?_
    refine tp_i (y := nI 0) (by decide) ?_
    refine r_put (own := RX0) (C := RX0) (F := TX0) (N := 2) (ci := 0) (v := nI 0) hx hb hK hts in_X0 tyX0 tyX0_ok nmX0 hown hP0 hD0 hS0 0 rfl rfl 1 (by decide) kw_151 rfl rfl (Nat.le_of_ble_eq_true rfl) dX0_restore_23 (fun (H3 : Heap) (locs3 : List Loc) (hP3 : va_P D vwCl (fl [yW T ya yb F (nI 0), sW T (gq 0) (cs 0), tW T ((gq 0) 11) ((gq 0) 12) (nI ((Ls 0) 0)) ((cs 0) 9), tW T ((gq 0) 13) ((gq 0) 14) (nI ((Ls 0) 1)) ((cs 0) 10), tW T ((gq 0) 15) ((gq 0) 16) (nI ((Ls 0) 2)) ((cs 0) 11), sW T (gq 1) (cs 1), tW T ((gq 1) 11) ((gq 1) 12) (nI ((Ls 1) 0)) ((cs 1) 9), tW T ((gq 1) 13) ((gq 1) 14) (nI ((Ls 1) 1)) ((cs 1) 10), tW T ((gq 1) 15) ((gq 1) 16) (nI ((Ls 1) 2)) ((cs 1) 11), sW T (gq 2) (cs 2), tW T ((gq 2) 11) ((gq 2) 12) (nI ((Ls 2) 0)) ((cs 2) 9), tW T ((gq 2) 13) ((gq 2) 14) (nI ((Ls 2) 1)) ((cs 2) 10), tW T ((gq 2) 15) ((gq 2) 16) (nI ((Ls 2) 2)) ((cs 2) 11), sW T (gq 3) (cs 3), tW T ((gq 3) 11) ((gq 3) 12) (nI ((Ls 3) 0)) ((cs 3) 9), tW T ((gq 3) 13) ((gq 3) 14) (nI ((Ls 3) 1)) ((cs 3) 10), tW T ((gq 3) 15) ((gq 3) 16) (nI ((Ls 3) 2)) ((cs 3) 11), sW T (gq 4) (cs 4), tW T ((gq 4) 11) ((gq 4) 12) (nI ((Ls 4) 0)) ((cs 4) 9), tW T ((gq 4) 13) ((gq 4) 14) (nI ((Ls 4) 1)) ((cs 4) 10), tW T ((gq 4) 15) ((gq 4) 16) (nI ((Ls 4) 2)) ((cs 4) 11), sW T (gq 5) (cs 5), tW T ((gq 5) 11) ((gq 5) 12) (nI ((Ls 5) 0)) ((cs 5) 9), tW T ((gq 5) 13) ((gq 5) 14) (nI ((Ls 5) 1)) ((cs 5) 10), tW T ((gq 5) 15) ((gq 5) 16) (nI ((Ls 5) 2)) ((cs 5) 11), sW T q c, tW T (q 11) (q 12) (nI (L 0)) (c 9), tW T (q 13) (q 14) (nI (L 1)) (c 10), tW T (q 15) (q 16) (nI (L 2)) (c 11)]) H3) (hD3 : va_D A (fl [yW T ya yb F (nI 0), sW T (gq 0) (cs 0), tW T ((gq 0) 11) ((gq 0) 12) (nI ((Ls 0) 0)) ((cs 0) 9), tW T ((gq 0) 13) ((gq 0) 14) (nI ((Ls 0) 1)) ((cs 0) 10), tW T ((gq 0) 15) ((gq 0) 16) (nI ((Ls 0) 2)) ((cs 0) 11), sW T (gq 1) (cs 1), tW T ((gq 1) 11) ((gq 1) 12) (nI ((Ls 1) 0)) ((cs 1) 9), tW T ((gq 1) 13) ((gq 1) 14) (nI ((Ls 1) 1)) ((cs 1) 10), tW T ((gq 1) 15) ((gq 1) 16) (nI ((Ls 1) 2)) ((cs 1) 11), sW T (gq 2) (cs 2), tW T ((gq 2) 11) ((gq 2) 12) (nI ((Ls 2) 0)) ((cs 2) 9), tW T ((gq 2) 13) ((gq 2) 14) (nI ((Ls 2) 1)) ((cs 2) 10), tW T ((gq 2) 15) ((gq 2) 16) (nI ((Ls 2) 2)) ((cs 2) 11), sW T (gq 3) (cs 3), tW T ((gq 3) 11) ((gq 3) 12) (nI ((Ls 3) 0)) ((cs 3) 9), tW T ((gq 3) 13) ((gq 3) 14) (nI ((Ls 3) 1)) ((cs 3) 10), tW T ((gq 3) 15) ((gq 3) 16) (nI ((Ls 3) 2)) ((cs 3) 11), sW T (gq 4) (cs 4), tW T ((gq 4) 11) ((gq 4) 12) (nI ((Ls 4) 0)) ((cs 4) 9), tW T ((gq 4) 13) ((gq 4) 14) (nI ((Ls 4) 1)) ((cs 4) 10), tW T ((gq 4) 15) ((gq 4) 16) (nI ((Ls 4) 2)) ((cs 4) 11), sW T (gq 5) (cs 5), tW T ((gq 5) 11) ((gq 5) 12) (nI ((Ls 5) 0)) ((cs 5) 9), tW T ((gq 5) 13) ((gq 5) 14) (nI ((Ls 5) 1)) ((cs 5) 10), tW T ((gq 5) 15) ((gq 5) 16) (nI ((Ls 5) 2)) ((cs 5) 11), sW T q c, tW T (q 11) (q 12) (nI (L 0)) (c 9), tW T (q 13) (q 14) (nI (L 1)) (c 10), tW T (q 15) (q 16) (nI (L 2)) (c 11)])) hS3 => ?_)
    clear hP0 hD0 hS0
    refine lv_aload_n hx hb dX0_restore_26 rfl (lv_at hl0 1 rfl) ?_
    refine lv_aload_n hx hb dX0_restore_27 rfl (lv_at hl0 0 rfl) ?_
    refine r_get (own := RX0) (C := RX0) (F := TX0) (N := 2) (ci := 0) (v := .ref yb) hx hb hK hts in_X0 hown hP3 0 rfl rfl 0 (by decide) kw_150 rfl dX0_restore_28 ?_
    refine lv_aload_n hx hb dX0_restore_31 rfl (lv_at hl0 0 rfl) ?_
    refine r_get (own := RX0) (C := RX0) (F := TX0) (N := 2) (ci := 0) (v := .int (nI 0)) hx hb hK hts in_X0 hown hP3 0 rfl rfl 1 (by decide) kw_151 rfl dX0_restore_32 ?_
    refine r_aald (C := RX3) (v := ((gq 0) 0)) hx hb hK hP3 1 3 rfl rfl 0 (by decide) dX0_restore_35 (by decide) (hF 0 (by omega)) ?_
    have hPc4 : va_P D vwCl (fl [sW T q c, tW T (q 11) (q 12) (nI (L 0)) (c 9), tW T (q 13) (q 14) (nI (L 1)) (c 10), tW T (q 15) (q 16) (nI (L 2)) (c 11), sW T (gq 0) (cs 0), tW T ((gq 0) 11) ((gq 0) 12) (nI ((Ls 0) 0)) ((cs 0) 9), tW T ((gq 0) 13) ((gq 0) 14) (nI ((Ls 0) 1)) ((cs 0) 10), tW T ((gq 0) 15) ((gq 0) 16) (nI ((Ls 0) 2)) ((cs 0) 11)]) _ := flP_sub hP3 [25, 26, 27, 28, 1, 2, 3, 4] rfl
    have hDc4 : va_D A (fl [sW T q c, tW T (q 11) (q 12) (nI (L 0)) (c 9), tW T (q 13) (q 14) (nI (L 1)) (c 10), tW T (q 15) (q 16) (nI (L 2)) (c 11), sW T (gq 0) (cs 0), tW T ((gq 0) 11) ((gq 0) 12) (nI ((Ls 0) 0)) ((cs 0) 9), tW T ((gq 0) 13) ((gq 0) 14) (nI ((Ls 0) 1)) ((cs 0) 10), tW T ((gq 0) 15) ((gq 0) 16) (nI ((Ls 0) 2)) ((cs 0) 11)]) := flD_sub hD3 [25, 26, 27, 28, 1, 2, 3, 4] (by decide) rfl
    refine cl_v (br := [yW T ya yb F (nI 0), sW T (gq 1) (cs 1), tW T ((gq 1) 11) ((gq 1) 12) (nI ((Ls 1) 0)) ((cs 1) 9), tW T ((gq 1) 13) ((gq 1) 14) (nI ((Ls 1) 1)) ((cs 1) 10), tW T ((gq 1) 15) ((gq 1) 16) (nI ((Ls 1) 2)) ((cs 1) 11), sW T (gq 2) (cs 2), tW T ((gq 2) 11) ((gq 2) 12) (nI ((Ls 2) 0)) ((cs 2) 9), tW T ((gq 2) 13) ((gq 2) 14) (nI ((Ls 2) 1)) ((cs 2) 10), tW T ((gq 2) 15) ((gq 2) 16) (nI ((Ls 2) 2)) ((cs 2) 11), sW T (gq 3) (cs 3), tW T ((gq 3) 11) ((gq 3) 12) (nI ((Ls 3) 0)) ((cs 3) 9), tW T ((gq 3) 13) ((gq 3) 14) (nI ((Ls 3) 1)) ((cs 3) 10), tW T ((gq 3) 15) ((gq 3) 16) (nI ((Ls 3) 2)) ((cs 3) 11), sW T (gq 4) (cs 4), tW T ((gq 4) 11) ((gq 4) 12) (nI ((Ls 4) 0)) ((cs 4) 9), tW T ((gq 4) 13) ((gq 4) 14) (nI ((Ls 4) 1)) ((cs 4) 10), tW T ((gq 4) 15) ((gq 4) 16) (nI ((Ls 4) 2)) ((cs 4) 11), sW T (gq 5) (cs 5), tW T ((gq 5) 11) ((gq 5) 12) (nI ((Ls 5) 0)) ((cs 5) 9), tW T ((gq 5) 13) ((gq 5) 14) (nI ((Ls 5) 1)) ((cs 5) 10), tW T ((gq 5) 15) ((gq 5) 16) (nI ((Ls 5) 2)) ((cs 5) 11)]) (va_runV (As := [.ref ((gq 0) 0)]) (rest := []) ⟨hx, hb, hml, hown, hts⟩ (c_X3_copyFrom l D T q c L (gq 0) (cs 0) (Ls 0) (hz1 0 (by omega)) (hz5 0 (by omega)) _) (mkV hts okX3_copyFrom kw_505 kw_230 kw_231 ⟨rfl, rfl, Nat.le_of_ble_eq_true rfl, Nat.le_of_ble_eq_true rfl⟩) (pv_rw hK hPc4 hDc4 (q0 := 0) rfl rfl rfl) rfl rfl hl0.1 rfl (lv_room (Nat.le_of_ble_eq_true rfl)) dX0_restore_36 ⟨Nat.le_of_ble_eq_true rfl, Nat.le_of_ble_eq_true rfl⟩) hP3 hD3 hS3 hA [0, 5, 6, 7, 8, 9, 10, 11, 12, 13, 14, 15, 16, 17, 18, 19, 20, 21, 22, 23, 24] [25, 26, 27, 28, 1, 2, 3, 4] rfl (by decide) (fun c3_36 H5 locs5 hq_36 hP5 hD5 hS5 => ?_)
    clear hP3 hD3 hS3 hPc4 hDc4
    have hP5 : va_P D vwCl (fl [yW T ya yb F (nI 0), sW T (gq 1) (cs 1), tW T ((gq 1) 11) ((gq 1) 12) (nI ((Ls 1) 0)) ((cs 1) 9), tW T ((gq 1) 13) ((gq 1) 14) (nI ((Ls 1) 1)) ((cs 1) 10), tW T ((gq 1) 15) ((gq 1) 16) (nI ((Ls 1) 2)) ((cs 1) 11), sW T (gq 2) (cs 2), tW T ((gq 2) 11) ((gq 2) 12) (nI ((Ls 2) 0)) ((cs 2) 9), tW T ((gq 2) 13) ((gq 2) 14) (nI ((Ls 2) 1)) ((cs 2) 10), tW T ((gq 2) 15) ((gq 2) 16) (nI ((Ls 2) 2)) ((cs 2) 11), sW T (gq 3) (cs 3), tW T ((gq 3) 11) ((gq 3) 12) (nI ((Ls 3) 0)) ((cs 3) 9), tW T ((gq 3) 13) ((gq 3) 14) (nI ((Ls 3) 1)) ((cs 3) 10), tW T ((gq 3) 15) ((gq 3) 16) (nI ((Ls 3) 2)) ((cs 3) 11), sW T (gq 4) (cs 4), tW T ((gq 4) 11) ((gq 4) 12) (nI ((Ls 4) 0)) ((cs 4) 9), tW T ((gq 4) 13) ((gq 4) 14) (nI ((Ls 4) 1)) ((cs 4) 10), tW T ((gq 4) 15) ((gq 4) 16) (nI ((Ls 4) 2)) ((cs 4) 11), sW T (gq 5) (cs 5), tW T ((gq 5) 11) ((gq 5) 12) (nI ((Ls 5) 0)) ((cs 5) 9), tW T ((gq 5) 13) ((gq 5) 14) (nI ((Ls 5) 1)) ((cs 5) 10), tW T ((gq 5) 15) ((gq 5) 16) (nI ((Ls 5) 2)) ((cs 5) 11), sW T q c3_36, tW T (q 11) (q 12) (nI ((Ls 0) 0)) (c3_36 9), tW T (q 13) (q 14) (nI ((Ls 0) 1)) (c3_36 10), tW T (q 15) (q 16) (nI ((Ls 0) 2)) (c3_36 11), sW T (gq 0) (cs 0), tW T ((gq 0) 11) ((gq 0) 12) (nI ((Ls 0) 0)) ((cs 0) 9), tW T ((gq 0) 13) ((gq 0) 14) (nI ((Ls 0) 1)) ((cs 0) 10), tW T ((gq 0) 15) ((gq 0) 16) (nI ((Ls 0) 2)) ((cs 0) 11)]) _ := hP5
    have hD5 : va_D A (fl [yW T ya yb F (nI 0), sW T (gq 1) (cs 1), tW T ((gq 1) 11) ((gq 1) 12) (nI ((Ls 1) 0)) ((cs 1) 9), tW T ((gq 1) 13) ((gq 1) 14) (nI ((Ls 1) 1)) ((cs 1) 10), tW T ((gq 1) 15) ((gq 1) 16) (nI ((Ls 1) 2)) ((cs 1) 11), sW T (gq 2) (cs 2), tW T ((gq 2) 11) ((gq 2) 12) (nI ((Ls 2) 0)) ((cs 2) 9), tW T ((gq 2) 13) ((gq 2) 14) (nI ((Ls 2) 1)) ((cs 2) 10), tW T ((gq 2) 15) ((gq 2) 16) (nI ((Ls 2) 2)) ((cs 2) 11), sW T (gq 3) (cs 3), tW T ((gq 3) 11) ((gq 3) 12) (nI ((Ls 3) 0)) ((cs 3) 9), tW T ((gq 3) 13) ((gq 3) 14) (nI ((Ls 3) 1)) ((cs 3) 10), tW T ((gq 3) 15) ((gq 3) 16) (nI ((Ls 3) 2)) ((cs 3) 11), sW T (gq 4) (cs 4), tW T ((gq 4) 11) ((gq 4) 12) (nI ((Ls 4) 0)) ((cs 4) 9), tW T ((gq 4) 13) ((gq 4) 14) (nI ((Ls 4) 1)) ((cs 4) 10), tW T ((gq 4) 15) ((gq 4) 16) (nI ((Ls 4) 2)) ((cs 4) 11), sW T (gq 5) (cs 5), tW T ((gq 5) 11) ((gq 5) 12) (nI ((Ls 5) 0)) ((cs 5) 9), tW T ((gq 5) 13) ((gq 5) 14) (nI ((Ls 5) 1)) ((cs 5) 10), tW T ((gq 5) 15) ((gq 5) 16) (nI ((Ls 5) 2)) ((cs 5) 11), sW T q c3_36, tW T (q 11) (q 12) (nI ((Ls 0) 0)) (c3_36 9), tW T (q 13) (q 14) (nI ((Ls 0) 1)) (c3_36 10), tW T (q 15) (q 16) (nI ((Ls 0) 2)) (c3_36 11), sW T (gq 0) (cs 0), tW T ((gq 0) 11) ((gq 0) 12) (nI ((Ls 0) 0)) ((cs 0) 9), tW T ((gq 0) 13) ((gq 0) 14) (nI ((Ls 0) 1)) ((cs 0) 10), tW T ((gq 0) 15) ((gq 0) 16) (nI ((Ls 0) 2)) ((cs 0) 11)]) := hD5
    have hq_36 : Eqv c3_36 (cs 0) := hq_36
    refine ret_v hTG (Nat.le_refl _) (Nat.le_refl _) hx hb hr hlocks (c3_36) hP5 hD5 hS5 [0, 25, 26, 27, 28, 1, 2, 3, 4, 5, 6, 7, 8, 9, 10, 11, 12, 13, 14, 15, 16, 17, 18, 19, 20, 21, 22, 23, 24] rfl (by decide) dX0_restore_39 ?_
    exact hq_36
  · skip
    refine lv_aload_n hx hb dX0_restore_0 rfl (lv_at hl0 0 rfl) ?_
    refine r_get (own := RX0) (C := RX0) (F := TX0) (N := 2) (ci := 0) (v := .int (nI 2)) hx hb hK hts in_X0 hown hP0 0 rfl rfl 1 (by decide) kw_151 rfl dX0_restore_1 ?_
    refine n_if_le (tgt := 39) hx hb (by omega) dX0_restore_4 (by decide) (fun c6 => absurd c6 (by decide)) (fun c6 => ?_)
    refine lv_aload_n hx hb dX0_restore_7 rfl (lv_at hl0 0 rfl) ?_
    refine r_get (own := RX0) (C := RX0) (F := TX0) (N := 2) (ci := 0) (v := .int (nI 2)) hx hb hK hts in_X0 hown hP0 0 rfl rfl 1 (by decide) kw_151 rfl dX0_restore_8 ?_
    refine lv_bipush (v := nI 6) hx hb dX0_restore_11 (by decide) ?_
    refine n_icmp_gt (tgt := 39) hx hb (by omega) (by omega) dX0_restore_13 (by decide) (fun c7 => absurd c7 (by decide)) (fun c7 => ?_)
    refine lv_aload_n hx hb dX0_restore_16 rfl (lv_at hl0 0 rfl) ?_
    refine lv_dup hx hb dX0_restore_17 rfl ?_
    refine r_get (own := RX0) (C := RX0) (F := TX0) (N := 2) (ci := 0) (v := .int (nI 2)) hx hb hK hts in_X0 hown hP0 0 rfl rfl 1 (by decide) kw_151 rfl dX0_restore_18 ?_
    refine lv_iconst (v := nI 1) hx hb dX0_restore_21 (by decide) ?_
    refine lv_isub hx hb dX0_restore_22 ?_
    refine tp_i (y := nI 1) (by decide) ?_
    refine r_put (own := RX0) (C := RX0) (F := TX0) (N := 2) (ci := 0) (v := nI 1) hx hb hK hts in_X0 tyX0 tyX0_ok nmX0 hown hP0 hD0 hS0 0 rfl rfl 1 (by decide) kw_151 rfl rfl (Nat.le_of_ble_eq_true rfl) dX0_restore_23 (fun (H8 : Heap) (locs8 : List Loc) (hP8 : va_P D vwCl (fl [yW T ya yb F (nI 1), sW T (gq 0) (cs 0), tW T ((gq 0) 11) ((gq 0) 12) (nI ((Ls 0) 0)) ((cs 0) 9), tW T ((gq 0) 13) ((gq 0) 14) (nI ((Ls 0) 1)) ((cs 0) 10), tW T ((gq 0) 15) ((gq 0) 16) (nI ((Ls 0) 2)) ((cs 0) 11), sW T (gq 1) (cs 1), tW T ((gq 1) 11) ((gq 1) 12) (nI ((Ls 1) 0)) ((cs 1) 9), tW T ((gq 1) 13) ((gq 1) 14) (nI ((Ls 1) 1)) ((cs 1) 10), tW T ((gq 1) 15) ((gq 1) 16) (nI ((Ls 1) 2)) ((cs 1) 11), sW T (gq 2) (cs 2), tW T ((gq 2) 11) ((gq 2) 12) (nI ((Ls 2) 0)) ((cs 2) 9), tW T ((gq 2) 13) ((gq 2) 14) (nI ((Ls 2) 1)) ((cs 2) 10), tW T ((gq 2) 15) ((gq 2) 16) (nI ((Ls 2) 2)) ((cs 2) 11), sW T (gq 3) (cs 3), tW T ((gq 3) 11) ((gq 3) 12) (nI ((Ls 3) 0)) ((cs 3) 9), tW T ((gq 3) 13) ((gq 3) 14) (nI ((Ls 3) 1)) ((cs 3) 10), tW T ((gq 3) 15) ((gq 3) 16) (nI ((Ls 3) 2)) ((cs 3) 11), sW T (gq 4) (cs 4), tW T ((gq 4) 11) ((gq 4) 12) (nI ((Ls 4) 0)) ((cs 4) 9), tW T ((gq 4) 13) ((gq 4) 14) (nI ((Ls 4) 1)) ((cs 4) 10), tW T ((gq 4) 15) ((gq 4) 16) (nI ((Ls 4) 2)) ((cs 4) 11), sW T (gq 5) (cs 5), tW T ((gq 5) 11) ((gq 5) 12) (nI ((Ls 5) 0)) ((cs 5) 9), tW T ((gq 5) 13) ((gq 5) 14) (nI ((Ls 5) 1)) ((cs 5) 10), tW T ((gq 5) 15) ((gq 5) 16) (nI ((Ls 5) 2)) ((cs 5) 11), sW T q c, tW T (q 11) (q 12) (nI (L 0)) (c 9), tW T (q 13) (q 14) (nI (L 1)) (c 10), tW T (q 15) (q 16) (nI (L 2)) (c 11)]) H8) (hD8 : va_D A (fl [yW T ya yb F (nI 1), sW T (gq 0) (cs 0), tW T ((gq 0) 11) ((gq 0) 12) (nI ((Ls 0) 0)) ((cs 0) 9), tW T ((gq 0) 13) ((gq 0) 14) (nI ((Ls 0) 1)) ((cs 0) 10), tW T ((gq 0) 15) ((gq 0) 16) (nI ((Ls 0) 2)) ((cs 0) 11), sW T (gq 1) (cs 1), tW T ((gq 1) 11) ((gq 1) 12) (nI ((Ls 1) 0)) ((cs 1) 9), tW T ((gq 1) 13) ((gq 1) 14) (nI ((Ls 1) 1)) ((cs 1) 10), tW T ((gq 1) 15) ((gq 1) 16) (nI ((Ls 1) 2)) ((cs 1) 11), sW T (gq 2) (cs 2), tW T ((gq 2) 11) ((gq 2) 12) (nI ((Ls 2) 0)) ((cs 2) 9), tW T ((gq 2) 13) ((gq 2) 14) (nI ((Ls 2) 1)) ((cs 2) 10), tW T ((gq 2) 15) ((gq 2) 16) (nI ((Ls 2) 2)) ((cs 2) 11), sW T (gq 3) (cs 3), tW T ((gq 3) 11) ((gq 3) 12) (nI ((Ls 3) 0)) ((cs 3) 9), tW T ((gq 3) 13) ((gq 3) 14) (nI ((Ls 3) 1)) ((cs 3) 10), tW T ((gq 3) 15) ((gq 3) 16) (nI ((Ls 3) 2)) ((cs 3) 11), sW T (gq 4) (cs 4), tW T ((gq 4) 11) ((gq 4) 12) (nI ((Ls 4) 0)) ((cs 4) 9), tW T ((gq 4) 13) ((gq 4) 14) (nI ((Ls 4) 1)) ((cs 4) 10), tW T ((gq 4) 15) ((gq 4) 16) (nI ((Ls 4) 2)) ((cs 4) 11), sW T (gq 5) (cs 5), tW T ((gq 5) 11) ((gq 5) 12) (nI ((Ls 5) 0)) ((cs 5) 9), tW T ((gq 5) 13) ((gq 5) 14) (nI ((Ls 5) 1)) ((cs 5) 10), tW T ((gq 5) 15) ((gq 5) 16) (nI ((Ls 5) 2)) ((cs 5) 11), sW T q c, tW T (q 11) (q 12) (nI (L 0)) (c 9), tW T (q 13) (q 14) (nI (L 1)) (c 10), tW T (q 15) (q 16) (nI (L 2)) (c 11)])) hS8 => ?_)
    clear hP0 hD0 hS0
    refine lv_aload_n hx hb dX0_restore_26 rfl (lv_at hl0 1 rfl) ?_
    refine lv_aload_n hx hb dX0_restore_27 rfl (lv_at hl0 0 rfl) ?_
    refine r_get (own := RX0) (C := RX0) (F := TX0) (N := 2) (ci := 0) (v := .ref yb) hx hb hK hts in_X0 hown hP8 0 rfl rfl 0 (by decide) kw_150 rfl dX0_restore_28 ?_
    refine lv_aload_n hx hb dX0_restore_31 rfl (lv_at hl0 0 rfl) ?_
    refine r_get (own := RX0) (C := RX0) (F := TX0) (N := 2) (ci := 0) (v := .int (nI 1)) hx hb hK hts in_X0 hown hP8 0 rfl rfl 1 (by decide) kw_151 rfl dX0_restore_32 ?_
    refine r_aald (C := RX3) (v := ((gq 1) 0)) hx hb hK hP8 1 3 rfl rfl 1 (by decide) dX0_restore_35 (by decide) (hF 1 (by omega)) ?_
    have hPc9 : va_P D vwCl (fl [sW T q c, tW T (q 11) (q 12) (nI (L 0)) (c 9), tW T (q 13) (q 14) (nI (L 1)) (c 10), tW T (q 15) (q 16) (nI (L 2)) (c 11), sW T (gq 1) (cs 1), tW T ((gq 1) 11) ((gq 1) 12) (nI ((Ls 1) 0)) ((cs 1) 9), tW T ((gq 1) 13) ((gq 1) 14) (nI ((Ls 1) 1)) ((cs 1) 10), tW T ((gq 1) 15) ((gq 1) 16) (nI ((Ls 1) 2)) ((cs 1) 11)]) _ := flP_sub hP8 [25, 26, 27, 28, 5, 6, 7, 8] rfl
    have hDc9 : va_D A (fl [sW T q c, tW T (q 11) (q 12) (nI (L 0)) (c 9), tW T (q 13) (q 14) (nI (L 1)) (c 10), tW T (q 15) (q 16) (nI (L 2)) (c 11), sW T (gq 1) (cs 1), tW T ((gq 1) 11) ((gq 1) 12) (nI ((Ls 1) 0)) ((cs 1) 9), tW T ((gq 1) 13) ((gq 1) 14) (nI ((Ls 1) 1)) ((cs 1) 10), tW T ((gq 1) 15) ((gq 1) 16) (nI ((Ls 1) 2)) ((cs 1) 11)]) := flD_sub hD8 [25, 26, 27, 28, 5, 6, 7, 8] (by decide) rfl
    refine cl_v (br := [yW T ya yb F (nI 1), sW T (gq 0) (cs 0), tW T ((gq 0) 11) ((gq 0) 12) (nI ((Ls 0) 0)) ((cs 0) 9), tW T ((gq 0) 13) ((gq 0) 14) (nI ((Ls 0) 1)) ((cs 0) 10), tW T ((gq 0) 15) ((gq 0) 16) (nI ((Ls 0) 2)) ((cs 0) 11), sW T (gq 2) (cs 2), tW T ((gq 2) 11) ((gq 2) 12) (nI ((Ls 2) 0)) ((cs 2) 9), tW T ((gq 2) 13) ((gq 2) 14) (nI ((Ls 2) 1)) ((cs 2) 10), tW T ((gq 2) 15) ((gq 2) 16) (nI ((Ls 2) 2)) ((cs 2) 11), sW T (gq 3) (cs 3), tW T ((gq 3) 11) ((gq 3) 12) (nI ((Ls 3) 0)) ((cs 3) 9), tW T ((gq 3) 13) ((gq 3) 14) (nI ((Ls 3) 1)) ((cs 3) 10), tW T ((gq 3) 15) ((gq 3) 16) (nI ((Ls 3) 2)) ((cs 3) 11), sW T (gq 4) (cs 4), tW T ((gq 4) 11) ((gq 4) 12) (nI ((Ls 4) 0)) ((cs 4) 9), tW T ((gq 4) 13) ((gq 4) 14) (nI ((Ls 4) 1)) ((cs 4) 10), tW T ((gq 4) 15) ((gq 4) 16) (nI ((Ls 4) 2)) ((cs 4) 11), sW T (gq 5) (cs 5), tW T ((gq 5) 11) ((gq 5) 12) (nI ((Ls 5) 0)) ((cs 5) 9), tW T ((gq 5) 13) ((gq 5) 14) (nI ((Ls 5) 1)) ((cs 5) 10), tW T ((gq 5) 15) ((gq 5) 16) (nI ((Ls 5) 2)) ((cs 5) 11)]) (va_runV (As := [.ref ((gq 1) 0)]) (rest := []) ⟨hx, hb, hml, hown, hts⟩ (c_X3_copyFrom l D T q c L (gq 1) (cs 1) (Ls 1) (hz1 1 (by omega)) (hz5 1 (by omega)) _) (mkV hts okX3_copyFrom kw_505 kw_230 kw_231 ⟨rfl, rfl, Nat.le_of_ble_eq_true rfl, Nat.le_of_ble_eq_true rfl⟩) (pv_rw hK hPc9 hDc9 (q0 := 0) rfl rfl rfl) rfl rfl hl0.1 rfl (lv_room (Nat.le_of_ble_eq_true rfl)) dX0_restore_36 ⟨Nat.le_of_ble_eq_true rfl, Nat.le_of_ble_eq_true rfl⟩) hP8 hD8 hS8 hA [0, 1, 2, 3, 4, 9, 10, 11, 12, 13, 14, 15, 16, 17, 18, 19, 20, 21, 22, 23, 24] [25, 26, 27, 28, 5, 6, 7, 8] rfl (by decide) (fun c3_36 H10 locs10 hq_36 hP10 hD10 hS10 => ?_)
    clear hP8 hD8 hS8 hPc9 hDc9
    have hP10 : va_P D vwCl (fl [yW T ya yb F (nI 1), sW T (gq 0) (cs 0), tW T ((gq 0) 11) ((gq 0) 12) (nI ((Ls 0) 0)) ((cs 0) 9), tW T ((gq 0) 13) ((gq 0) 14) (nI ((Ls 0) 1)) ((cs 0) 10), tW T ((gq 0) 15) ((gq 0) 16) (nI ((Ls 0) 2)) ((cs 0) 11), sW T (gq 2) (cs 2), tW T ((gq 2) 11) ((gq 2) 12) (nI ((Ls 2) 0)) ((cs 2) 9), tW T ((gq 2) 13) ((gq 2) 14) (nI ((Ls 2) 1)) ((cs 2) 10), tW T ((gq 2) 15) ((gq 2) 16) (nI ((Ls 2) 2)) ((cs 2) 11), sW T (gq 3) (cs 3), tW T ((gq 3) 11) ((gq 3) 12) (nI ((Ls 3) 0)) ((cs 3) 9), tW T ((gq 3) 13) ((gq 3) 14) (nI ((Ls 3) 1)) ((cs 3) 10), tW T ((gq 3) 15) ((gq 3) 16) (nI ((Ls 3) 2)) ((cs 3) 11), sW T (gq 4) (cs 4), tW T ((gq 4) 11) ((gq 4) 12) (nI ((Ls 4) 0)) ((cs 4) 9), tW T ((gq 4) 13) ((gq 4) 14) (nI ((Ls 4) 1)) ((cs 4) 10), tW T ((gq 4) 15) ((gq 4) 16) (nI ((Ls 4) 2)) ((cs 4) 11), sW T (gq 5) (cs 5), tW T ((gq 5) 11) ((gq 5) 12) (nI ((Ls 5) 0)) ((cs 5) 9), tW T ((gq 5) 13) ((gq 5) 14) (nI ((Ls 5) 1)) ((cs 5) 10), tW T ((gq 5) 15) ((gq 5) 16) (nI ((Ls 5) 2)) ((cs 5) 11), sW T q c3_36, tW T (q 11) (q 12) (nI ((Ls 1) 0)) (c3_36 9), tW T (q 13) (q 14) (nI ((Ls 1) 1)) (c3_36 10), tW T (q 15) (q 16) (nI ((Ls 1) 2)) (c3_36 11), sW T (gq 1) (cs 1), tW T ((gq 1) 11) ((gq 1) 12) (nI ((Ls 1) 0)) ((cs 1) 9), tW T ((gq 1) 13) ((gq 1) 14) (nI ((Ls 1) 1)) ((cs 1) 10), tW T ((gq 1) 15) ((gq 1) 16) (nI ((Ls 1) 2)) ((cs 1) 11)]) _ := hP10
    have hD10 : va_D A (fl [yW T ya yb F (nI 1), sW T (gq 0) (cs 0), tW T ((gq 0) 11) ((gq 0) 12) (nI ((Ls 0) 0)) ((cs 0) 9), tW T ((gq 0) 13) ((gq 0) 14) (nI ((Ls 0) 1)) ((cs 0) 10), tW T ((gq 0) 15) ((gq 0) 16) (nI ((Ls 0) 2)) ((cs 0) 11), sW T (gq 2) (cs 2), tW T ((gq 2) 11) ((gq 2) 12) (nI ((Ls 2) 0)) ((cs 2) 9), tW T ((gq 2) 13) ((gq 2) 14) (nI ((Ls 2) 1)) ((cs 2) 10), tW T ((gq 2) 15) ((gq 2) 16) (nI ((Ls 2) 2)) ((cs 2) 11), sW T (gq 3) (cs 3), tW T ((gq 3) 11) ((gq 3) 12) (nI ((Ls 3) 0)) ((cs 3) 9), tW T ((gq 3) 13) ((gq 3) 14) (nI ((Ls 3) 1)) ((cs 3) 10), tW T ((gq 3) 15) ((gq 3) 16) (nI ((Ls 3) 2)) ((cs 3) 11), sW T (gq 4) (cs 4), tW T ((gq 4) 11) ((gq 4) 12) (nI ((Ls 4) 0)) ((cs 4) 9), tW T ((gq 4) 13) ((gq 4) 14) (nI ((Ls 4) 1)) ((cs 4) 10), tW T ((gq 4) 15) ((gq 4) 16) (nI ((Ls 4) 2)) ((cs 4) 11), sW T (gq 5) (cs 5), tW T ((gq 5) 11) ((gq 5) 12) (nI ((Ls 5) 0)) ((cs 5) 9), tW T ((gq 5) 13) ((gq 5) 14) (nI ((Ls 5) 1)) ((cs 5) 10), tW T ((gq 5) 15) ((gq 5) 16) (nI ((Ls 5) 2)) ((cs 5) 11), sW T q c3_36, tW T (q 11) (q 12) (nI ((Ls 1) 0)) (c3_36 9), tW T (q 13) (q 14) (nI ((Ls 1) 1)) (c3_36 10), tW T (q 15) (q 16) (nI ((Ls 1) 2)) (c3_36 11), sW T (gq 1) (cs 1), tW T ((gq 1) 11) ((gq 1) 12) (nI ((Ls 1) 0)) ((cs 1) 9), tW T ((gq 1) 13) ((gq 1) 14) (nI ((Ls 1) 1)) ((cs 1) 10), tW T ((gq 1) 15) ((gq 1) 16) (nI ((Ls 1) 2)) ((cs 1) 11)]) := hD10
    have hq_36 : Eqv c3_36 (cs 1) := hq_36
    refine ret_v hTG (Nat.le_refl _) (Nat.le_refl _) hx hb hr hlocks (c3_36) hP10 hD10 hS10 [0, 1, 2, 3, 4, 25, 26, 27, 28, 5, 6, 7, 8, 9, 10, 11, 12, 13, 14, 15, 16, 17, 18, 19, 20, 21, 22, 23, 24] rfl (by decide) dX0_restore_39 ?_
    exact hq_36
  · skip
    refine lv_aload_n hx hb dX0_restore_0 rfl (lv_at hl0 0 rfl) ?_
    refine r_get (own := RX0) (C := RX0) (F := TX0) (N := 2) (ci := 0) (v := .int (nI 3)) hx hb hK hts in_X0 hown hP0 0 rfl rfl 1 (by decide) kw_151 rfl dX0_restore_1 ?_
    refine n_if_le (tgt := 39) hx hb (by omega) dX0_restore_4 (by decide) (fun c11 => absurd c11 (by decide)) (fun c11 => ?_)
    refine lv_aload_n hx hb dX0_restore_7 rfl (lv_at hl0 0 rfl) ?_
    refine r_get (own := RX0) (C := RX0) (F := TX0) (N := 2) (ci := 0) (v := .int (nI 3)) hx hb hK hts in_X0 hown hP0 0 rfl rfl 1 (by decide) kw_151 rfl dX0_restore_8 ?_
    refine lv_bipush (v := nI 6) hx hb dX0_restore_11 (by decide) ?_
    refine n_icmp_gt (tgt := 39) hx hb (by omega) (by omega) dX0_restore_13 (by decide) (fun c12 => absurd c12 (by decide)) (fun c12 => ?_)
    refine lv_aload_n hx hb dX0_restore_16 rfl (lv_at hl0 0 rfl) ?_
    refine lv_dup hx hb dX0_restore_17 rfl ?_
    refine r_get (own := RX0) (C := RX0) (F := TX0) (N := 2) (ci := 0) (v := .int (nI 3)) hx hb hK hts in_X0 hown hP0 0 rfl rfl 1 (by decide) kw_151 rfl dX0_restore_18 ?_
    refine lv_iconst (v := nI 1) hx hb dX0_restore_21 (by decide) ?_
    refine lv_isub hx hb dX0_restore_22 ?_
    refine tp_i (y := nI 2) (by decide) ?_
    refine r_put (own := RX0) (C := RX0) (F := TX0) (N := 2) (ci := 0) (v := nI 2) hx hb hK hts in_X0 tyX0 tyX0_ok nmX0 hown hP0 hD0 hS0 0 rfl rfl 1 (by decide) kw_151 rfl rfl (Nat.le_of_ble_eq_true rfl) dX0_restore_23 (fun (H13 : Heap) (locs13 : List Loc) (hP13 : va_P D vwCl (fl [yW T ya yb F (nI 2), sW T (gq 0) (cs 0), tW T ((gq 0) 11) ((gq 0) 12) (nI ((Ls 0) 0)) ((cs 0) 9), tW T ((gq 0) 13) ((gq 0) 14) (nI ((Ls 0) 1)) ((cs 0) 10), tW T ((gq 0) 15) ((gq 0) 16) (nI ((Ls 0) 2)) ((cs 0) 11), sW T (gq 1) (cs 1), tW T ((gq 1) 11) ((gq 1) 12) (nI ((Ls 1) 0)) ((cs 1) 9), tW T ((gq 1) 13) ((gq 1) 14) (nI ((Ls 1) 1)) ((cs 1) 10), tW T ((gq 1) 15) ((gq 1) 16) (nI ((Ls 1) 2)) ((cs 1) 11), sW T (gq 2) (cs 2), tW T ((gq 2) 11) ((gq 2) 12) (nI ((Ls 2) 0)) ((cs 2) 9), tW T ((gq 2) 13) ((gq 2) 14) (nI ((Ls 2) 1)) ((cs 2) 10), tW T ((gq 2) 15) ((gq 2) 16) (nI ((Ls 2) 2)) ((cs 2) 11), sW T (gq 3) (cs 3), tW T ((gq 3) 11) ((gq 3) 12) (nI ((Ls 3) 0)) ((cs 3) 9), tW T ((gq 3) 13) ((gq 3) 14) (nI ((Ls 3) 1)) ((cs 3) 10), tW T ((gq 3) 15) ((gq 3) 16) (nI ((Ls 3) 2)) ((cs 3) 11), sW T (gq 4) (cs 4), tW T ((gq 4) 11) ((gq 4) 12) (nI ((Ls 4) 0)) ((cs 4) 9), tW T ((gq 4) 13) ((gq 4) 14) (nI ((Ls 4) 1)) ((cs 4) 10), tW T ((gq 4) 15) ((gq 4) 16) (nI ((Ls 4) 2)) ((cs 4) 11), sW T (gq 5) (cs 5), tW T ((gq 5) 11) ((gq 5) 12) (nI ((Ls 5) 0)) ((cs 5) 9), tW T ((gq 5) 13) ((gq 5) 14) (nI ((Ls 5) 1)) ((cs 5) 10), tW T ((gq 5) 15) ((gq 5) 16) (nI ((Ls 5) 2)) ((cs 5) 11), sW T q c, tW T (q 11) (q 12) (nI (L 0)) (c 9), tW T (q 13) (q 14) (nI (L 1)) (c 10), tW T (q 15) (q 16) (nI (L 2)) (c 11)]) H13) (hD13 : va_D A (fl [yW T ya yb F (nI 2), sW T (gq 0) (cs 0), tW T ((gq 0) 11) ((gq 0) 12) (nI ((Ls 0) 0)) ((cs 0) 9), tW T ((gq 0) 13) ((gq 0) 14) (nI ((Ls 0) 1)) ((cs 0) 10), tW T ((gq 0) 15) ((gq 0) 16) (nI ((Ls 0) 2)) ((cs 0) 11), sW T (gq 1) (cs 1), tW T ((gq 1) 11) ((gq 1) 12) (nI ((Ls 1) 0)) ((cs 1) 9), tW T ((gq 1) 13) ((gq 1) 14) (nI ((Ls 1) 1)) ((cs 1) 10), tW T ((gq 1) 15) ((gq 1) 16) (nI ((Ls 1) 2)) ((cs 1) 11), sW T (gq 2) (cs 2), tW T ((gq 2) 11) ((gq 2) 12) (nI ((Ls 2) 0)) ((cs 2) 9), tW T ((gq 2) 13) ((gq 2) 14) (nI ((Ls 2) 1)) ((cs 2) 10), tW T ((gq 2) 15) ((gq 2) 16) (nI ((Ls 2) 2)) ((cs 2) 11), sW T (gq 3) (cs 3), tW T ((gq 3) 11) ((gq 3) 12) (nI ((Ls 3) 0)) ((cs 3) 9), tW T ((gq 3) 13) ((gq 3) 14) (nI ((Ls 3) 1)) ((cs 3) 10), tW T ((gq 3) 15) ((gq 3) 16) (nI ((Ls 3) 2)) ((cs 3) 11), sW T (gq 4) (cs 4), tW T ((gq 4) 11) ((gq 4) 12) (nI ((Ls 4) 0)) ((cs 4) 9), tW T ((gq 4) 13) ((gq 4) 14) (nI ((Ls 4) 1)) ((cs 4) 10), tW T ((gq 4) 15) ((gq 4) 16) (nI ((Ls 4) 2)) ((cs 4) 11), sW T (gq 5) (cs 5), tW T ((gq 5) 11) ((gq 5) 12) (nI ((Ls 5) 0)) ((cs 5) 9), tW T ((gq 5) 13) ((gq 5) 14) (nI ((Ls 5) 1)) ((cs 5) 10), tW T ((gq 5) 15) ((gq 5) 16) (nI ((Ls 5) 2)) ((cs 5) 11), sW T q c, tW T (q 11) (q 12) (nI (L 0)) (c 9), tW T (q 13) (q 14) (nI (L 1)) (c 10), tW T (q 15) (q 16) (nI (L 2)) (c 11)])) hS13 => ?_)
    clear hP0 hD0 hS0
    refine lv_aload_n hx hb dX0_restore_26 rfl (lv_at hl0 1 rfl) ?_
    refine lv_aload_n hx hb dX0_restore_27 rfl (lv_at hl0 0 rfl) ?_
    refine r_get (own := RX0) (C := RX0) (F := TX0) (N := 2) (ci := 0) (v := .ref yb) hx hb hK hts in_X0 hown hP13 0 rfl rfl 0 (by decide) kw_150 rfl dX0_restore_28 ?_
    refine lv_aload_n hx hb dX0_restore_31 rfl (lv_at hl0 0 rfl) ?_
    refine r_get (own := RX0) (C := RX0) (F := TX0) (N := 2) (ci := 0) (v := .int (nI 2)) hx hb hK hts in_X0 hown hP13 0 rfl rfl 1 (by decide) kw_151 rfl dX0_restore_32 ?_
    refine r_aald (C := RX3) (v := ((gq 2) 0)) hx hb hK hP13 1 3 rfl rfl 2 (by decide) dX0_restore_35 (by decide) (hF 2 (by omega)) ?_
    have hPc14 : va_P D vwCl (fl [sW T q c, tW T (q 11) (q 12) (nI (L 0)) (c 9), tW T (q 13) (q 14) (nI (L 1)) (c 10), tW T (q 15) (q 16) (nI (L 2)) (c 11), sW T (gq 2) (cs 2), tW T ((gq 2) 11) ((gq 2) 12) (nI ((Ls 2) 0)) ((cs 2) 9), tW T ((gq 2) 13) ((gq 2) 14) (nI ((Ls 2) 1)) ((cs 2) 10), tW T ((gq 2) 15) ((gq 2) 16) (nI ((Ls 2) 2)) ((cs 2) 11)]) _ := flP_sub hP13 [25, 26, 27, 28, 9, 10, 11, 12] rfl
    have hDc14 : va_D A (fl [sW T q c, tW T (q 11) (q 12) (nI (L 0)) (c 9), tW T (q 13) (q 14) (nI (L 1)) (c 10), tW T (q 15) (q 16) (nI (L 2)) (c 11), sW T (gq 2) (cs 2), tW T ((gq 2) 11) ((gq 2) 12) (nI ((Ls 2) 0)) ((cs 2) 9), tW T ((gq 2) 13) ((gq 2) 14) (nI ((Ls 2) 1)) ((cs 2) 10), tW T ((gq 2) 15) ((gq 2) 16) (nI ((Ls 2) 2)) ((cs 2) 11)]) := flD_sub hD13 [25, 26, 27, 28, 9, 10, 11, 12] (by decide) rfl
    refine cl_v (br := [yW T ya yb F (nI 2), sW T (gq 0) (cs 0), tW T ((gq 0) 11) ((gq 0) 12) (nI ((Ls 0) 0)) ((cs 0) 9), tW T ((gq 0) 13) ((gq 0) 14) (nI ((Ls 0) 1)) ((cs 0) 10), tW T ((gq 0) 15) ((gq 0) 16) (nI ((Ls 0) 2)) ((cs 0) 11), sW T (gq 1) (cs 1), tW T ((gq 1) 11) ((gq 1) 12) (nI ((Ls 1) 0)) ((cs 1) 9), tW T ((gq 1) 13) ((gq 1) 14) (nI ((Ls 1) 1)) ((cs 1) 10), tW T ((gq 1) 15) ((gq 1) 16) (nI ((Ls 1) 2)) ((cs 1) 11), sW T (gq 3) (cs 3), tW T ((gq 3) 11) ((gq 3) 12) (nI ((Ls 3) 0)) ((cs 3) 9), tW T ((gq 3) 13) ((gq 3) 14) (nI ((Ls 3) 1)) ((cs 3) 10), tW T ((gq 3) 15) ((gq 3) 16) (nI ((Ls 3) 2)) ((cs 3) 11), sW T (gq 4) (cs 4), tW T ((gq 4) 11) ((gq 4) 12) (nI ((Ls 4) 0)) ((cs 4) 9), tW T ((gq 4) 13) ((gq 4) 14) (nI ((Ls 4) 1)) ((cs 4) 10), tW T ((gq 4) 15) ((gq 4) 16) (nI ((Ls 4) 2)) ((cs 4) 11), sW T (gq 5) (cs 5), tW T ((gq 5) 11) ((gq 5) 12) (nI ((Ls 5) 0)) ((cs 5) 9), tW T ((gq 5) 13) ((gq 5) 14) (nI ((Ls 5) 1)) ((cs 5) 10), tW T ((gq 5) 15) ((gq 5) 16) (nI ((Ls 5) 2)) ((cs 5) 11)]) (va_runV (As := [.ref ((gq 2) 0)]) (rest := []) ⟨hx, hb, hml, hown, hts⟩ (c_X3_copyFrom l D T q c L (gq 2) (cs 2) (Ls 2) (hz1 2 (by omega)) (hz5 2 (by omega)) _) (mkV hts okX3_copyFrom kw_505 kw_230 kw_231 ⟨rfl, rfl, Nat.le_of_ble_eq_true rfl, Nat.le_of_ble_eq_true rfl⟩) (pv_rw hK hPc14 hDc14 (q0 := 0) rfl rfl rfl) rfl rfl hl0.1 rfl (lv_room (Nat.le_of_ble_eq_true rfl)) dX0_restore_36 ⟨Nat.le_of_ble_eq_true rfl, Nat.le_of_ble_eq_true rfl⟩) hP13 hD13 hS13 hA [0, 1, 2, 3, 4, 5, 6, 7, 8, 13, 14, 15, 16, 17, 18, 19, 20, 21, 22, 23, 24] [25, 26, 27, 28, 9, 10, 11, 12] rfl (by decide) (fun c3_36 H15 locs15 hq_36 hP15 hD15 hS15 => ?_)
    clear hP13 hD13 hS13 hPc14 hDc14
    have hP15 : va_P D vwCl (fl [yW T ya yb F (nI 2), sW T (gq 0) (cs 0), tW T ((gq 0) 11) ((gq 0) 12) (nI ((Ls 0) 0)) ((cs 0) 9), tW T ((gq 0) 13) ((gq 0) 14) (nI ((Ls 0) 1)) ((cs 0) 10), tW T ((gq 0) 15) ((gq 0) 16) (nI ((Ls 0) 2)) ((cs 0) 11), sW T (gq 1) (cs 1), tW T ((gq 1) 11) ((gq 1) 12) (nI ((Ls 1) 0)) ((cs 1) 9), tW T ((gq 1) 13) ((gq 1) 14) (nI ((Ls 1) 1)) ((cs 1) 10), tW T ((gq 1) 15) ((gq 1) 16) (nI ((Ls 1) 2)) ((cs 1) 11), sW T (gq 3) (cs 3), tW T ((gq 3) 11) ((gq 3) 12) (nI ((Ls 3) 0)) ((cs 3) 9), tW T ((gq 3) 13) ((gq 3) 14) (nI ((Ls 3) 1)) ((cs 3) 10), tW T ((gq 3) 15) ((gq 3) 16) (nI ((Ls 3) 2)) ((cs 3) 11), sW T (gq 4) (cs 4), tW T ((gq 4) 11) ((gq 4) 12) (nI ((Ls 4) 0)) ((cs 4) 9), tW T ((gq 4) 13) ((gq 4) 14) (nI ((Ls 4) 1)) ((cs 4) 10), tW T ((gq 4) 15) ((gq 4) 16) (nI ((Ls 4) 2)) ((cs 4) 11), sW T (gq 5) (cs 5), tW T ((gq 5) 11) ((gq 5) 12) (nI ((Ls 5) 0)) ((cs 5) 9), tW T ((gq 5) 13) ((gq 5) 14) (nI ((Ls 5) 1)) ((cs 5) 10), tW T ((gq 5) 15) ((gq 5) 16) (nI ((Ls 5) 2)) ((cs 5) 11), sW T q c3_36, tW T (q 11) (q 12) (nI ((Ls 2) 0)) (c3_36 9), tW T (q 13) (q 14) (nI ((Ls 2) 1)) (c3_36 10), tW T (q 15) (q 16) (nI ((Ls 2) 2)) (c3_36 11), sW T (gq 2) (cs 2), tW T ((gq 2) 11) ((gq 2) 12) (nI ((Ls 2) 0)) ((cs 2) 9), tW T ((gq 2) 13) ((gq 2) 14) (nI ((Ls 2) 1)) ((cs 2) 10), tW T ((gq 2) 15) ((gq 2) 16) (nI ((Ls 2) 2)) ((cs 2) 11)]) _ := hP15
    have hD15 : va_D A (fl [yW T ya yb F (nI 2), sW T (gq 0) (cs 0), tW T ((gq 0) 11) ((gq 0) 12) (nI ((Ls 0) 0)) ((cs 0) 9), tW T ((gq 0) 13) ((gq 0) 14) (nI ((Ls 0) 1)) ((cs 0) 10), tW T ((gq 0) 15) ((gq 0) 16) (nI ((Ls 0) 2)) ((cs 0) 11), sW T (gq 1) (cs 1), tW T ((gq 1) 11) ((gq 1) 12) (nI ((Ls 1) 0)) ((cs 1) 9), tW T ((gq 1) 13) ((gq 1) 14) (nI ((Ls 1) 1)) ((cs 1) 10), tW T ((gq 1) 15) ((gq 1) 16) (nI ((Ls 1) 2)) ((cs 1) 11), sW T (gq 3) (cs 3), tW T ((gq 3) 11) ((gq 3) 12) (nI ((Ls 3) 0)) ((cs 3) 9), tW T ((gq 3) 13) ((gq 3) 14) (nI ((Ls 3) 1)) ((cs 3) 10), tW T ((gq 3) 15) ((gq 3) 16) (nI ((Ls 3) 2)) ((cs 3) 11), sW T (gq 4) (cs 4), tW T ((gq 4) 11) ((gq 4) 12) (nI ((Ls 4) 0)) ((cs 4) 9), tW T ((gq 4) 13) ((gq 4) 14) (nI ((Ls 4) 1)) ((cs 4) 10), tW T ((gq 4) 15) ((gq 4) 16) (nI ((Ls 4) 2)) ((cs 4) 11), sW T (gq 5) (cs 5), tW T ((gq 5) 11) ((gq 5) 12) (nI ((Ls 5) 0)) ((cs 5) 9), tW T ((gq 5) 13) ((gq 5) 14) (nI ((Ls 5) 1)) ((cs 5) 10), tW T ((gq 5) 15) ((gq 5) 16) (nI ((Ls 5) 2)) ((cs 5) 11), sW T q c3_36, tW T (q 11) (q 12) (nI ((Ls 2) 0)) (c3_36 9), tW T (q 13) (q 14) (nI ((Ls 2) 1)) (c3_36 10), tW T (q 15) (q 16) (nI ((Ls 2) 2)) (c3_36 11), sW T (gq 2) (cs 2), tW T ((gq 2) 11) ((gq 2) 12) (nI ((Ls 2) 0)) ((cs 2) 9), tW T ((gq 2) 13) ((gq 2) 14) (nI ((Ls 2) 1)) ((cs 2) 10), tW T ((gq 2) 15) ((gq 2) 16) (nI ((Ls 2) 2)) ((cs 2) 11)]) := hD15
    have hq_36 : Eqv c3_36 (cs 2) := hq_36
    refine ret_v hTG (Nat.le_refl _) (Nat.le_refl _) hx hb hr hlocks (c3_36) hP15 hD15 hS15 [0, 1, 2, 3, 4, 5, 6, 7, 8, 25, 26, 27, 28, 9, 10, 11, 12, 13, 14, 15, 16, 17, 18, 19, 20, 21, 22, 23, 24] rfl (by decide) dX0_restore_39 ?_
    exact hq_36
  · skip
    refine lv_aload_n hx hb dX0_restore_0 rfl (lv_at hl0 0 rfl) ?_
    refine r_get (own := RX0) (C := RX0) (F := TX0) (N := 2) (ci := 0) (v := .int (nI 4)) hx hb hK hts in_X0 hown hP0 0 rfl rfl 1 (by decide) kw_151 rfl dX0_restore_1 ?_
    refine n_if_le (tgt := 39) hx hb (by omega) dX0_restore_4 (by decide) (fun c16 => absurd c16 (by decide)) (fun c16 => ?_)
    refine lv_aload_n hx hb dX0_restore_7 rfl (lv_at hl0 0 rfl) ?_
    refine r_get (own := RX0) (C := RX0) (F := TX0) (N := 2) (ci := 0) (v := .int (nI 4)) hx hb hK hts in_X0 hown hP0 0 rfl rfl 1 (by decide) kw_151 rfl dX0_restore_8 ?_
    refine lv_bipush (v := nI 6) hx hb dX0_restore_11 (by decide) ?_
    refine n_icmp_gt (tgt := 39) hx hb (by omega) (by omega) dX0_restore_13 (by decide) (fun c17 => absurd c17 (by decide)) (fun c17 => ?_)
    refine lv_aload_n hx hb dX0_restore_16 rfl (lv_at hl0 0 rfl) ?_
    refine lv_dup hx hb dX0_restore_17 rfl ?_
    refine r_get (own := RX0) (C := RX0) (F := TX0) (N := 2) (ci := 0) (v := .int (nI 4)) hx hb hK hts in_X0 hown hP0 0 rfl rfl 1 (by decide) kw_151 rfl dX0_restore_18 ?_
    refine lv_iconst (v := nI 1) hx hb dX0_restore_21 (by decide) ?_
    refine lv_isub hx hb dX0_restore_22 ?_
    refine tp_i (y := nI 3) (by decide) ?_
    refine r_put (own := RX0) (C := RX0) (F := TX0) (N := 2) (ci := 0) (v := nI 3) hx hb hK hts in_X0 tyX0 tyX0_ok nmX0 hown hP0 hD0 hS0 0 rfl rfl 1 (by decide) kw_151 rfl rfl (Nat.le_of_ble_eq_true rfl) dX0_restore_23 (fun (H18 : Heap) (locs18 : List Loc) (hP18 : va_P D vwCl (fl [yW T ya yb F (nI 3), sW T (gq 0) (cs 0), tW T ((gq 0) 11) ((gq 0) 12) (nI ((Ls 0) 0)) ((cs 0) 9), tW T ((gq 0) 13) ((gq 0) 14) (nI ((Ls 0) 1)) ((cs 0) 10), tW T ((gq 0) 15) ((gq 0) 16) (nI ((Ls 0) 2)) ((cs 0) 11), sW T (gq 1) (cs 1), tW T ((gq 1) 11) ((gq 1) 12) (nI ((Ls 1) 0)) ((cs 1) 9), tW T ((gq 1) 13) ((gq 1) 14) (nI ((Ls 1) 1)) ((cs 1) 10), tW T ((gq 1) 15) ((gq 1) 16) (nI ((Ls 1) 2)) ((cs 1) 11), sW T (gq 2) (cs 2), tW T ((gq 2) 11) ((gq 2) 12) (nI ((Ls 2) 0)) ((cs 2) 9), tW T ((gq 2) 13) ((gq 2) 14) (nI ((Ls 2) 1)) ((cs 2) 10), tW T ((gq 2) 15) ((gq 2) 16) (nI ((Ls 2) 2)) ((cs 2) 11), sW T (gq 3) (cs 3), tW T ((gq 3) 11) ((gq 3) 12) (nI ((Ls 3) 0)) ((cs 3) 9), tW T ((gq 3) 13) ((gq 3) 14) (nI ((Ls 3) 1)) ((cs 3) 10), tW T ((gq 3) 15) ((gq 3) 16) (nI ((Ls 3) 2)) ((cs 3) 11), sW T (gq 4) (cs 4), tW T ((gq 4) 11) ((gq 4) 12) (nI ((Ls 4) 0)) ((cs 4) 9), tW T ((gq 4) 13) ((gq 4) 14) (nI ((Ls 4) 1)) ((cs 4) 10), tW T ((gq 4) 15) ((gq 4) 16) (nI ((Ls 4) 2)) ((cs 4) 11), sW T (gq 5) (cs 5), tW T ((gq 5) 11) ((gq 5) 12) (nI ((Ls 5) 0)) ((cs 5) 9), tW T ((gq 5) 13) ((gq 5) 14) (nI ((Ls 5) 1)) ((cs 5) 10), tW T ((gq 5) 15) ((gq 5) 16) (nI ((Ls 5) 2)) ((cs 5) 11), sW T q c, tW T (q 11) (q 12) (nI (L 0)) (c 9), tW T (q 13) (q 14) (nI (L 1)) (c 10), tW T (q 15) (q 16) (nI (L 2)) (c 11)]) H18) (hD18 : va_D A (fl [yW T ya yb F (nI 3), sW T (gq 0) (cs 0), tW T ((gq 0) 11) ((gq 0) 12) (nI ((Ls 0) 0)) ((cs 0) 9), tW T ((gq 0) 13) ((gq 0) 14) (nI ((Ls 0) 1)) ((cs 0) 10), tW T ((gq 0) 15) ((gq 0) 16) (nI ((Ls 0) 2)) ((cs 0) 11), sW T (gq 1) (cs 1), tW T ((gq 1) 11) ((gq 1) 12) (nI ((Ls 1) 0)) ((cs 1) 9), tW T ((gq 1) 13) ((gq 1) 14) (nI ((Ls 1) 1)) ((cs 1) 10), tW T ((gq 1) 15) ((gq 1) 16) (nI ((Ls 1) 2)) ((cs 1) 11), sW T (gq 2) (cs 2), tW T ((gq 2) 11) ((gq 2) 12) (nI ((Ls 2) 0)) ((cs 2) 9), tW T ((gq 2) 13) ((gq 2) 14) (nI ((Ls 2) 1)) ((cs 2) 10), tW T ((gq 2) 15) ((gq 2) 16) (nI ((Ls 2) 2)) ((cs 2) 11), sW T (gq 3) (cs 3), tW T ((gq 3) 11) ((gq 3) 12) (nI ((Ls 3) 0)) ((cs 3) 9), tW T ((gq 3) 13) ((gq 3) 14) (nI ((Ls 3) 1)) ((cs 3) 10), tW T ((gq 3) 15) ((gq 3) 16) (nI ((Ls 3) 2)) ((cs 3) 11), sW T (gq 4) (cs 4), tW T ((gq 4) 11) ((gq 4) 12) (nI ((Ls 4) 0)) ((cs 4) 9), tW T ((gq 4) 13) ((gq 4) 14) (nI ((Ls 4) 1)) ((cs 4) 10), tW T ((gq 4) 15) ((gq 4) 16) (nI ((Ls 4) 2)) ((cs 4) 11), sW T (gq 5) (cs 5), tW T ((gq 5) 11) ((gq 5) 12) (nI ((Ls 5) 0)) ((cs 5) 9), tW T ((gq 5) 13) ((gq 5) 14) (nI ((Ls 5) 1)) ((cs 5) 10), tW T ((gq 5) 15) ((gq 5) 16) (nI ((Ls 5) 2)) ((cs 5) 11), sW T q c, tW T (q 11) (q 12) (nI (L 0)) (c 9), tW T (q 13) (q 14) (nI (L 1)) (c 10), tW T (q 15) (q 16) (nI (L 2)) (c 11)])) hS18 => ?_)
    clear hP0 hD0 hS0
    refine lv_aload_n hx hb dX0_restore_26 rfl (lv_at hl0 1 rfl) ?_
    refine lv_aload_n hx hb dX0_restore_27 rfl (lv_at hl0 0 rfl) ?_
    refine r_get (own := RX0) (C := RX0) (F := TX0) (N := 2) (ci := 0) (v := .ref yb) hx hb hK hts in_X0 hown hP18 0 rfl rfl 0 (by decide) kw_150 rfl dX0_restore_28 ?_
    refine lv_aload_n hx hb dX0_restore_31 rfl (lv_at hl0 0 rfl) ?_
    refine r_get (own := RX0) (C := RX0) (F := TX0) (N := 2) (ci := 0) (v := .int (nI 3)) hx hb hK hts in_X0 hown hP18 0 rfl rfl 1 (by decide) kw_151 rfl dX0_restore_32 ?_
    refine r_aald (C := RX3) (v := ((gq 3) 0)) hx hb hK hP18 1 3 rfl rfl 3 (by decide) dX0_restore_35 (by decide) (hF 3 (by omega)) ?_
    have hPc19 : va_P D vwCl (fl [sW T q c, tW T (q 11) (q 12) (nI (L 0)) (c 9), tW T (q 13) (q 14) (nI (L 1)) (c 10), tW T (q 15) (q 16) (nI (L 2)) (c 11), sW T (gq 3) (cs 3), tW T ((gq 3) 11) ((gq 3) 12) (nI ((Ls 3) 0)) ((cs 3) 9), tW T ((gq 3) 13) ((gq 3) 14) (nI ((Ls 3) 1)) ((cs 3) 10), tW T ((gq 3) 15) ((gq 3) 16) (nI ((Ls 3) 2)) ((cs 3) 11)]) _ := flP_sub hP18 [25, 26, 27, 28, 13, 14, 15, 16] rfl
    have hDc19 : va_D A (fl [sW T q c, tW T (q 11) (q 12) (nI (L 0)) (c 9), tW T (q 13) (q 14) (nI (L 1)) (c 10), tW T (q 15) (q 16) (nI (L 2)) (c 11), sW T (gq 3) (cs 3), tW T ((gq 3) 11) ((gq 3) 12) (nI ((Ls 3) 0)) ((cs 3) 9), tW T ((gq 3) 13) ((gq 3) 14) (nI ((Ls 3) 1)) ((cs 3) 10), tW T ((gq 3) 15) ((gq 3) 16) (nI ((Ls 3) 2)) ((cs 3) 11)]) := flD_sub hD18 [25, 26, 27, 28, 13, 14, 15, 16] (by decide) rfl
    refine cl_v (br := [yW T ya yb F (nI 3), sW T (gq 0) (cs 0), tW T ((gq 0) 11) ((gq 0) 12) (nI ((Ls 0) 0)) ((cs 0) 9), tW T ((gq 0) 13) ((gq 0) 14) (nI ((Ls 0) 1)) ((cs 0) 10), tW T ((gq 0) 15) ((gq 0) 16) (nI ((Ls 0) 2)) ((cs 0) 11), sW T (gq 1) (cs 1), tW T ((gq 1) 11) ((gq 1) 12) (nI ((Ls 1) 0)) ((cs 1) 9), tW T ((gq 1) 13) ((gq 1) 14) (nI ((Ls 1) 1)) ((cs 1) 10), tW T ((gq 1) 15) ((gq 1) 16) (nI ((Ls 1) 2)) ((cs 1) 11), sW T (gq 2) (cs 2), tW T ((gq 2) 11) ((gq 2) 12) (nI ((Ls 2) 0)) ((cs 2) 9), tW T ((gq 2) 13) ((gq 2) 14) (nI ((Ls 2) 1)) ((cs 2) 10), tW T ((gq 2) 15) ((gq 2) 16) (nI ((Ls 2) 2)) ((cs 2) 11), sW T (gq 4) (cs 4), tW T ((gq 4) 11) ((gq 4) 12) (nI ((Ls 4) 0)) ((cs 4) 9), tW T ((gq 4) 13) ((gq 4) 14) (nI ((Ls 4) 1)) ((cs 4) 10), tW T ((gq 4) 15) ((gq 4) 16) (nI ((Ls 4) 2)) ((cs 4) 11), sW T (gq 5) (cs 5), tW T ((gq 5) 11) ((gq 5) 12) (nI ((Ls 5) 0)) ((cs 5) 9), tW T ((gq 5) 13) ((gq 5) 14) (nI ((Ls 5) 1)) ((cs 5) 10), tW T ((gq 5) 15) ((gq 5) 16) (nI ((Ls 5) 2)) ((cs 5) 11)]) (va_runV (As := [.ref ((gq 3) 0)]) (rest := []) ⟨hx, hb, hml, hown, hts⟩ (c_X3_copyFrom l D T q c L (gq 3) (cs 3) (Ls 3) (hz1 3 (by omega)) (hz5 3 (by omega)) _) (mkV hts okX3_copyFrom kw_505 kw_230 kw_231 ⟨rfl, rfl, Nat.le_of_ble_eq_true rfl, Nat.le_of_ble_eq_true rfl⟩) (pv_rw hK hPc19 hDc19 (q0 := 0) rfl rfl rfl) rfl rfl hl0.1 rfl (lv_room (Nat.le_of_ble_eq_true rfl)) dX0_restore_36 ⟨Nat.le_of_ble_eq_true rfl, Nat.le_of_ble_eq_true rfl⟩) hP18 hD18 hS18 hA [0, 1, 2, 3, 4, 5, 6, 7, 8, 9, 10, 11, 12, 17, 18, 19, 20, 21, 22, 23, 24] [25, 26, 27, 28, 13, 14, 15, 16] rfl (by decide) (fun c3_36 H20 locs20 hq_36 hP20 hD20 hS20 => ?_)
    clear hP18 hD18 hS18 hPc19 hDc19
    have hP20 : va_P D vwCl (fl [yW T ya yb F (nI 3), sW T (gq 0) (cs 0), tW T ((gq 0) 11) ((gq 0) 12) (nI ((Ls 0) 0)) ((cs 0) 9), tW T ((gq 0) 13) ((gq 0) 14) (nI ((Ls 0) 1)) ((cs 0) 10), tW T ((gq 0) 15) ((gq 0) 16) (nI ((Ls 0) 2)) ((cs 0) 11), sW T (gq 1) (cs 1), tW T ((gq 1) 11) ((gq 1) 12) (nI ((Ls 1) 0)) ((cs 1) 9), tW T ((gq 1) 13) ((gq 1) 14) (nI ((Ls 1) 1)) ((cs 1) 10), tW T ((gq 1) 15) ((gq 1) 16) (nI ((Ls 1) 2)) ((cs 1) 11), sW T (gq 2) (cs 2), tW T ((gq 2) 11) ((gq 2) 12) (nI ((Ls 2) 0)) ((cs 2) 9), tW T ((gq 2) 13) ((gq 2) 14) (nI ((Ls 2) 1)) ((cs 2) 10), tW T ((gq 2) 15) ((gq 2) 16) (nI ((Ls 2) 2)) ((cs 2) 11), sW T (gq 4) (cs 4), tW T ((gq 4) 11) ((gq 4) 12) (nI ((Ls 4) 0)) ((cs 4) 9), tW T ((gq 4) 13) ((gq 4) 14) (nI ((Ls 4) 1)) ((cs 4) 10), tW T ((gq 4) 15) ((gq 4) 16) (nI ((Ls 4) 2)) ((cs 4) 11), sW T (gq 5) (cs 5), tW T ((gq 5) 11) ((gq 5) 12) (nI ((Ls 5) 0)) ((cs 5) 9), tW T ((gq 5) 13) ((gq 5) 14) (nI ((Ls 5) 1)) ((cs 5) 10), tW T ((gq 5) 15) ((gq 5) 16) (nI ((Ls 5) 2)) ((cs 5) 11), sW T q c3_36, tW T (q 11) (q 12) (nI ((Ls 3) 0)) (c3_36 9), tW T (q 13) (q 14) (nI ((Ls 3) 1)) (c3_36 10), tW T (q 15) (q 16) (nI ((Ls 3) 2)) (c3_36 11), sW T (gq 3) (cs 3), tW T ((gq 3) 11) ((gq 3) 12) (nI ((Ls 3) 0)) ((cs 3) 9), tW T ((gq 3) 13) ((gq 3) 14) (nI ((Ls 3) 1)) ((cs 3) 10), tW T ((gq 3) 15) ((gq 3) 16) (nI ((Ls 3) 2)) ((cs 3) 11)]) _ := hP20
    have hD20 : va_D A (fl [yW T ya yb F (nI 3), sW T (gq 0) (cs 0), tW T ((gq 0) 11) ((gq 0) 12) (nI ((Ls 0) 0)) ((cs 0) 9), tW T ((gq 0) 13) ((gq 0) 14) (nI ((Ls 0) 1)) ((cs 0) 10), tW T ((gq 0) 15) ((gq 0) 16) (nI ((Ls 0) 2)) ((cs 0) 11), sW T (gq 1) (cs 1), tW T ((gq 1) 11) ((gq 1) 12) (nI ((Ls 1) 0)) ((cs 1) 9), tW T ((gq 1) 13) ((gq 1) 14) (nI ((Ls 1) 1)) ((cs 1) 10), tW T ((gq 1) 15) ((gq 1) 16) (nI ((Ls 1) 2)) ((cs 1) 11), sW T (gq 2) (cs 2), tW T ((gq 2) 11) ((gq 2) 12) (nI ((Ls 2) 0)) ((cs 2) 9), tW T ((gq 2) 13) ((gq 2) 14) (nI ((Ls 2) 1)) ((cs 2) 10), tW T ((gq 2) 15) ((gq 2) 16) (nI ((Ls 2) 2)) ((cs 2) 11), sW T (gq 4) (cs 4), tW T ((gq 4) 11) ((gq 4) 12) (nI ((Ls 4) 0)) ((cs 4) 9), tW T ((gq 4) 13) ((gq 4) 14) (nI ((Ls 4) 1)) ((cs 4) 10), tW T ((gq 4) 15) ((gq 4) 16) (nI ((Ls 4) 2)) ((cs 4) 11), sW T (gq 5) (cs 5), tW T ((gq 5) 11) ((gq 5) 12) (nI ((Ls 5) 0)) ((cs 5) 9), tW T ((gq 5) 13) ((gq 5) 14) (nI ((Ls 5) 1)) ((cs 5) 10), tW T ((gq 5) 15) ((gq 5) 16) (nI ((Ls 5) 2)) ((cs 5) 11), sW T q c3_36, tW T (q 11) (q 12) (nI ((Ls 3) 0)) (c3_36 9), tW T (q 13) (q 14) (nI ((Ls 3) 1)) (c3_36 10), tW T (q 15) (q 16) (nI ((Ls 3) 2)) (c3_36 11), sW T (gq 3) (cs 3), tW T ((gq 3) 11) ((gq 3) 12) (nI ((Ls 3) 0)) ((cs 3) 9), tW T ((gq 3) 13) ((gq 3) 14) (nI ((Ls 3) 1)) ((cs 3) 10), tW T ((gq 3) 15) ((gq 3) 16) (nI ((Ls 3) 2)) ((cs 3) 11)]) := hD20
    have hq_36 : Eqv c3_36 (cs 3) := hq_36
    refine ret_v hTG (Nat.le_refl _) (Nat.le_refl _) hx hb hr hlocks (c3_36) hP20 hD20 hS20 [0, 1, 2, 3, 4, 5, 6, 7, 8, 9, 10, 11, 12, 25, 26, 27, 28, 13, 14, 15, 16, 17, 18, 19, 20, 21, 22, 23, 24] rfl (by decide) dX0_restore_39 ?_
    exact hq_36
  · skip
    refine lv_aload_n hx hb dX0_restore_0 rfl (lv_at hl0 0 rfl) ?_
    refine r_get (own := RX0) (C := RX0) (F := TX0) (N := 2) (ci := 0) (v := .int (nI 5)) hx hb hK hts in_X0 hown hP0 0 rfl rfl 1 (by decide) kw_151 rfl dX0_restore_1 ?_
    refine n_if_le (tgt := 39) hx hb (by omega) dX0_restore_4 (by decide) (fun c21 => absurd c21 (by decide)) (fun c21 => ?_)
    refine lv_aload_n hx hb dX0_restore_7 rfl (lv_at hl0 0 rfl) ?_
    refine r_get (own := RX0) (C := RX0) (F := TX0) (N := 2) (ci := 0) (v := .int (nI 5)) hx hb hK hts in_X0 hown hP0 0 rfl rfl 1 (by decide) kw_151 rfl dX0_restore_8 ?_
    refine lv_bipush (v := nI 6) hx hb dX0_restore_11 (by decide) ?_
    refine n_icmp_gt (tgt := 39) hx hb (by omega) (by omega) dX0_restore_13 (by decide) (fun c22 => absurd c22 (by decide)) (fun c22 => ?_)
    refine lv_aload_n hx hb dX0_restore_16 rfl (lv_at hl0 0 rfl) ?_
    refine lv_dup hx hb dX0_restore_17 rfl ?_
    refine r_get (own := RX0) (C := RX0) (F := TX0) (N := 2) (ci := 0) (v := .int (nI 5)) hx hb hK hts in_X0 hown hP0 0 rfl rfl 1 (by decide) kw_151 rfl dX0_restore_18 ?_
    refine lv_iconst (v := nI 1) hx hb dX0_restore_21 (by decide) ?_
    refine lv_isub hx hb dX0_restore_22 ?_
    refine tp_i (y := nI 4) (by decide) ?_
    refine r_put (own := RX0) (C := RX0) (F := TX0) (N := 2) (ci := 0) (v := nI 4) hx hb hK hts in_X0 tyX0 tyX0_ok nmX0 hown hP0 hD0 hS0 0 rfl rfl 1 (by decide) kw_151 rfl rfl (Nat.le_of_ble_eq_true rfl) dX0_restore_23 (fun (H23 : Heap) (locs23 : List Loc) (hP23 : va_P D vwCl (fl [yW T ya yb F (nI 4), sW T (gq 0) (cs 0), tW T ((gq 0) 11) ((gq 0) 12) (nI ((Ls 0) 0)) ((cs 0) 9), tW T ((gq 0) 13) ((gq 0) 14) (nI ((Ls 0) 1)) ((cs 0) 10), tW T ((gq 0) 15) ((gq 0) 16) (nI ((Ls 0) 2)) ((cs 0) 11), sW T (gq 1) (cs 1), tW T ((gq 1) 11) ((gq 1) 12) (nI ((Ls 1) 0)) ((cs 1) 9), tW T ((gq 1) 13) ((gq 1) 14) (nI ((Ls 1) 1)) ((cs 1) 10), tW T ((gq 1) 15) ((gq 1) 16) (nI ((Ls 1) 2)) ((cs 1) 11), sW T (gq 2) (cs 2), tW T ((gq 2) 11) ((gq 2) 12) (nI ((Ls 2) 0)) ((cs 2) 9), tW T ((gq 2) 13) ((gq 2) 14) (nI ((Ls 2) 1)) ((cs 2) 10), tW T ((gq 2) 15) ((gq 2) 16) (nI ((Ls 2) 2)) ((cs 2) 11), sW T (gq 3) (cs 3), tW T ((gq 3) 11) ((gq 3) 12) (nI ((Ls 3) 0)) ((cs 3) 9), tW T ((gq 3) 13) ((gq 3) 14) (nI ((Ls 3) 1)) ((cs 3) 10), tW T ((gq 3) 15) ((gq 3) 16) (nI ((Ls 3) 2)) ((cs 3) 11), sW T (gq 4) (cs 4), tW T ((gq 4) 11) ((gq 4) 12) (nI ((Ls 4) 0)) ((cs 4) 9), tW T ((gq 4) 13) ((gq 4) 14) (nI ((Ls 4) 1)) ((cs 4) 10), tW T ((gq 4) 15) ((gq 4) 16) (nI ((Ls 4) 2)) ((cs 4) 11), sW T (gq 5) (cs 5), tW T ((gq 5) 11) ((gq 5) 12) (nI ((Ls 5) 0)) ((cs 5) 9), tW T ((gq 5) 13) ((gq 5) 14) (nI ((Ls 5) 1)) ((cs 5) 10), tW T ((gq 5) 15) ((gq 5) 16) (nI ((Ls 5) 2)) ((cs 5) 11), sW T q c, tW T (q 11) (q 12) (nI (L 0)) (c 9), tW T (q 13) (q 14) (nI (L 1)) (c 10), tW T (q 15) (q 16) (nI (L 2)) (c 11)]) H23) (hD23 : va_D A (fl [yW T ya yb F (nI 4), sW T (gq 0) (cs 0), tW T ((gq 0) 11) ((gq 0) 12) (nI ((Ls 0) 0)) ((cs 0) 9), tW T ((gq 0) 13) ((gq 0) 14) (nI ((Ls 0) 1)) ((cs 0) 10), tW T ((gq 0) 15) ((gq 0) 16) (nI ((Ls 0) 2)) ((cs 0) 11), sW T (gq 1) (cs 1), tW T ((gq 1) 11) ((gq 1) 12) (nI ((Ls 1) 0)) ((cs 1) 9), tW T ((gq 1) 13) ((gq 1) 14) (nI ((Ls 1) 1)) ((cs 1) 10), tW T ((gq 1) 15) ((gq 1) 16) (nI ((Ls 1) 2)) ((cs 1) 11), sW T (gq 2) (cs 2), tW T ((gq 2) 11) ((gq 2) 12) (nI ((Ls 2) 0)) ((cs 2) 9), tW T ((gq 2) 13) ((gq 2) 14) (nI ((Ls 2) 1)) ((cs 2) 10), tW T ((gq 2) 15) ((gq 2) 16) (nI ((Ls 2) 2)) ((cs 2) 11), sW T (gq 3) (cs 3), tW T ((gq 3) 11) ((gq 3) 12) (nI ((Ls 3) 0)) ((cs 3) 9), tW T ((gq 3) 13) ((gq 3) 14) (nI ((Ls 3) 1)) ((cs 3) 10), tW T ((gq 3) 15) ((gq 3) 16) (nI ((Ls 3) 2)) ((cs 3) 11), sW T (gq 4) (cs 4), tW T ((gq 4) 11) ((gq 4) 12) (nI ((Ls 4) 0)) ((cs 4) 9), tW T ((gq 4) 13) ((gq 4) 14) (nI ((Ls 4) 1)) ((cs 4) 10), tW T ((gq 4) 15) ((gq 4) 16) (nI ((Ls 4) 2)) ((cs 4) 11), sW T (gq 5) (cs 5), tW T ((gq 5) 11) ((gq 5) 12) (nI ((Ls 5) 0)) ((cs 5) 9), tW T ((gq 5) 13) ((gq 5) 14) (nI ((Ls 5) 1)) ((cs 5) 10), tW T ((gq 5) 15) ((gq 5) 16) (nI ((Ls 5) 2)) ((cs 5) 11), sW T q c, tW T (q 11) (q 12) (nI (L 0)) (c 9), tW T (q 13) (q 14) (nI (L 1)) (c 10), tW T (q 15) (q 16) (nI (L 2)) (c 11)])) hS23 => ?_)
    clear hP0 hD0 hS0
    refine lv_aload_n hx hb dX0_restore_26 rfl (lv_at hl0 1 rfl) ?_
    refine lv_aload_n hx hb dX0_restore_27 rfl (lv_at hl0 0 rfl) ?_
    refine r_get (own := RX0) (C := RX0) (F := TX0) (N := 2) (ci := 0) (v := .ref yb) hx hb hK hts in_X0 hown hP23 0 rfl rfl 0 (by decide) kw_150 rfl dX0_restore_28 ?_
    refine lv_aload_n hx hb dX0_restore_31 rfl (lv_at hl0 0 rfl) ?_
    refine r_get (own := RX0) (C := RX0) (F := TX0) (N := 2) (ci := 0) (v := .int (nI 4)) hx hb hK hts in_X0 hown hP23 0 rfl rfl 1 (by decide) kw_151 rfl dX0_restore_32 ?_
    refine r_aald (C := RX3) (v := ((gq 4) 0)) hx hb hK hP23 1 3 rfl rfl 4 (by decide) dX0_restore_35 (by decide) (hF 4 (by omega)) ?_
    have hPc24 : va_P D vwCl (fl [sW T q c, tW T (q 11) (q 12) (nI (L 0)) (c 9), tW T (q 13) (q 14) (nI (L 1)) (c 10), tW T (q 15) (q 16) (nI (L 2)) (c 11), sW T (gq 4) (cs 4), tW T ((gq 4) 11) ((gq 4) 12) (nI ((Ls 4) 0)) ((cs 4) 9), tW T ((gq 4) 13) ((gq 4) 14) (nI ((Ls 4) 1)) ((cs 4) 10), tW T ((gq 4) 15) ((gq 4) 16) (nI ((Ls 4) 2)) ((cs 4) 11)]) _ := flP_sub hP23 [25, 26, 27, 28, 17, 18, 19, 20] rfl
    have hDc24 : va_D A (fl [sW T q c, tW T (q 11) (q 12) (nI (L 0)) (c 9), tW T (q 13) (q 14) (nI (L 1)) (c 10), tW T (q 15) (q 16) (nI (L 2)) (c 11), sW T (gq 4) (cs 4), tW T ((gq 4) 11) ((gq 4) 12) (nI ((Ls 4) 0)) ((cs 4) 9), tW T ((gq 4) 13) ((gq 4) 14) (nI ((Ls 4) 1)) ((cs 4) 10), tW T ((gq 4) 15) ((gq 4) 16) (nI ((Ls 4) 2)) ((cs 4) 11)]) := flD_sub hD23 [25, 26, 27, 28, 17, 18, 19, 20] (by decide) rfl
    refine cl_v (br := [yW T ya yb F (nI 4), sW T (gq 0) (cs 0), tW T ((gq 0) 11) ((gq 0) 12) (nI ((Ls 0) 0)) ((cs 0) 9), tW T ((gq 0) 13) ((gq 0) 14) (nI ((Ls 0) 1)) ((cs 0) 10), tW T ((gq 0) 15) ((gq 0) 16) (nI ((Ls 0) 2)) ((cs 0) 11), sW T (gq 1) (cs 1), tW T ((gq 1) 11) ((gq 1) 12) (nI ((Ls 1) 0)) ((cs 1) 9), tW T ((gq 1) 13) ((gq 1) 14) (nI ((Ls 1) 1)) ((cs 1) 10), tW T ((gq 1) 15) ((gq 1) 16) (nI ((Ls 1) 2)) ((cs 1) 11), sW T (gq 2) (cs 2), tW T ((gq 2) 11) ((gq 2) 12) (nI ((Ls 2) 0)) ((cs 2) 9), tW T ((gq 2) 13) ((gq 2) 14) (nI ((Ls 2) 1)) ((cs 2) 10), tW T ((gq 2) 15) ((gq 2) 16) (nI ((Ls 2) 2)) ((cs 2) 11), sW T (gq 3) (cs 3), tW T ((gq 3) 11) ((gq 3) 12) (nI ((Ls 3) 0)) ((cs 3) 9), tW T ((gq 3) 13) ((gq 3) 14) (nI ((Ls 3) 1)) ((cs 3) 10), tW T ((gq 3) 15) ((gq 3) 16) (nI ((Ls 3) 2)) ((cs 3) 11), sW T (gq 5) (cs 5), tW T ((gq 5) 11) ((gq 5) 12) (nI ((Ls 5) 0)) ((cs 5) 9), tW T ((gq 5) 13) ((gq 5) 14) (nI ((Ls 5) 1)) ((cs 5) 10), tW T ((gq 5) 15) ((gq 5) 16) (nI ((Ls 5) 2)) ((cs 5) 11)]) (va_runV (As := [.ref ((gq 4) 0)]) (rest := []) ⟨hx, hb, hml, hown, hts⟩ (c_X3_copyFrom l D T q c L (gq 4) (cs 4) (Ls 4) (hz1 4 (by omega)) (hz5 4 (by omega)) _) (mkV hts okX3_copyFrom kw_505 kw_230 kw_231 ⟨rfl, rfl, Nat.le_of_ble_eq_true rfl, Nat.le_of_ble_eq_true rfl⟩) (pv_rw hK hPc24 hDc24 (q0 := 0) rfl rfl rfl) rfl rfl hl0.1 rfl (lv_room (Nat.le_of_ble_eq_true rfl)) dX0_restore_36 ⟨Nat.le_of_ble_eq_true rfl, Nat.le_of_ble_eq_true rfl⟩) hP23 hD23 hS23 hA [0, 1, 2, 3, 4, 5, 6, 7, 8, 9, 10, 11, 12, 13, 14, 15, 16, 21, 22, 23, 24] [25, 26, 27, 28, 17, 18, 19, 20] rfl (by decide) (fun c3_36 H25 locs25 hq_36 hP25 hD25 hS25 => ?_)
    clear hP23 hD23 hS23 hPc24 hDc24
    have hP25 : va_P D vwCl (fl [yW T ya yb F (nI 4), sW T (gq 0) (cs 0), tW T ((gq 0) 11) ((gq 0) 12) (nI ((Ls 0) 0)) ((cs 0) 9), tW T ((gq 0) 13) ((gq 0) 14) (nI ((Ls 0) 1)) ((cs 0) 10), tW T ((gq 0) 15) ((gq 0) 16) (nI ((Ls 0) 2)) ((cs 0) 11), sW T (gq 1) (cs 1), tW T ((gq 1) 11) ((gq 1) 12) (nI ((Ls 1) 0)) ((cs 1) 9), tW T ((gq 1) 13) ((gq 1) 14) (nI ((Ls 1) 1)) ((cs 1) 10), tW T ((gq 1) 15) ((gq 1) 16) (nI ((Ls 1) 2)) ((cs 1) 11), sW T (gq 2) (cs 2), tW T ((gq 2) 11) ((gq 2) 12) (nI ((Ls 2) 0)) ((cs 2) 9), tW T ((gq 2) 13) ((gq 2) 14) (nI ((Ls 2) 1)) ((cs 2) 10), tW T ((gq 2) 15) ((gq 2) 16) (nI ((Ls 2) 2)) ((cs 2) 11), sW T (gq 3) (cs 3), tW T ((gq 3) 11) ((gq 3) 12) (nI ((Ls 3) 0)) ((cs 3) 9), tW T ((gq 3) 13) ((gq 3) 14) (nI ((Ls 3) 1)) ((cs 3) 10), tW T ((gq 3) 15) ((gq 3) 16) (nI ((Ls 3) 2)) ((cs 3) 11), sW T (gq 5) (cs 5), tW T ((gq 5) 11) ((gq 5) 12) (nI ((Ls 5) 0)) ((cs 5) 9), tW T ((gq 5) 13) ((gq 5) 14) (nI ((Ls 5) 1)) ((cs 5) 10), tW T ((gq 5) 15) ((gq 5) 16) (nI ((Ls 5) 2)) ((cs 5) 11), sW T q c3_36, tW T (q 11) (q 12) (nI ((Ls 4) 0)) (c3_36 9), tW T (q 13) (q 14) (nI ((Ls 4) 1)) (c3_36 10), tW T (q 15) (q 16) (nI ((Ls 4) 2)) (c3_36 11), sW T (gq 4) (cs 4), tW T ((gq 4) 11) ((gq 4) 12) (nI ((Ls 4) 0)) ((cs 4) 9), tW T ((gq 4) 13) ((gq 4) 14) (nI ((Ls 4) 1)) ((cs 4) 10), tW T ((gq 4) 15) ((gq 4) 16) (nI ((Ls 4) 2)) ((cs 4) 11)]) _ := hP25
    have hD25 : va_D A (fl [yW T ya yb F (nI 4), sW T (gq 0) (cs 0), tW T ((gq 0) 11) ((gq 0) 12) (nI ((Ls 0) 0)) ((cs 0) 9), tW T ((gq 0) 13) ((gq 0) 14) (nI ((Ls 0) 1)) ((cs 0) 10), tW T ((gq 0) 15) ((gq 0) 16) (nI ((Ls 0) 2)) ((cs 0) 11), sW T (gq 1) (cs 1), tW T ((gq 1) 11) ((gq 1) 12) (nI ((Ls 1) 0)) ((cs 1) 9), tW T ((gq 1) 13) ((gq 1) 14) (nI ((Ls 1) 1)) ((cs 1) 10), tW T ((gq 1) 15) ((gq 1) 16) (nI ((Ls 1) 2)) ((cs 1) 11), sW T (gq 2) (cs 2), tW T ((gq 2) 11) ((gq 2) 12) (nI ((Ls 2) 0)) ((cs 2) 9), tW T ((gq 2) 13) ((gq 2) 14) (nI ((Ls 2) 1)) ((cs 2) 10), tW T ((gq 2) 15) ((gq 2) 16) (nI ((Ls 2) 2)) ((cs 2) 11), sW T (gq 3) (cs 3), tW T ((gq 3) 11) ((gq 3) 12) (nI ((Ls 3) 0)) ((cs 3) 9), tW T ((gq 3) 13) ((gq 3) 14) (nI ((Ls 3) 1)) ((cs 3) 10), tW T ((gq 3) 15) ((gq 3) 16) (nI ((Ls 3) 2)) ((cs 3) 11), sW T (gq 5) (cs 5), tW T ((gq 5) 11) ((gq 5) 12) (nI ((Ls 5) 0)) ((cs 5) 9), tW T ((gq 5) 13) ((gq 5) 14) (nI ((Ls 5) 1)) ((cs 5) 10), tW T ((gq 5) 15) ((gq 5) 16) (nI ((Ls 5) 2)) ((cs 5) 11), sW T q c3_36, tW T (q 11) (q 12) (nI ((Ls 4) 0)) (c3_36 9), tW T (q 13) (q 14) (nI ((Ls 4) 1)) (c3_36 10), tW T (q 15) (q 16) (nI ((Ls 4) 2)) (c3_36 11), sW T (gq 4) (cs 4), tW T ((gq 4) 11) ((gq 4) 12) (nI ((Ls 4) 0)) ((cs 4) 9), tW T ((gq 4) 13) ((gq 4) 14) (nI ((Ls 4) 1)) ((cs 4) 10), tW T ((gq 4) 15) ((gq 4) 16) (nI ((Ls 4) 2)) ((cs 4) 11)]) := hD25
    have hq_36 : Eqv c3_36 (cs 4) := hq_36
    refine ret_v hTG (Nat.le_refl _) (Nat.le_refl _) hx hb hr hlocks (c3_36) hP25 hD25 hS25 [0, 1, 2, 3, 4, 5, 6, 7, 8, 9, 10, 11, 12, 13, 14, 15, 16, 25, 26, 27, 28, 17, 18, 19, 20, 21, 22, 23, 24] rfl (by decide) dX0_restore_39 ?_
    exact hq_36
  · skip
    refine lv_aload_n hx hb dX0_restore_0 rfl (lv_at hl0 0 rfl) ?_
    refine r_get (own := RX0) (C := RX0) (F := TX0) (N := 2) (ci := 0) (v := .int (nI 6)) hx hb hK hts in_X0 hown hP0 0 rfl rfl 1 (by decide) kw_151 rfl dX0_restore_1 ?_
    refine n_if_le (tgt := 39) hx hb (by omega) dX0_restore_4 (by decide) (fun c26 => absurd c26 (by decide)) (fun c26 => ?_)
    refine lv_aload_n hx hb dX0_restore_7 rfl (lv_at hl0 0 rfl) ?_
    refine r_get (own := RX0) (C := RX0) (F := TX0) (N := 2) (ci := 0) (v := .int (nI 6)) hx hb hK hts in_X0 hown hP0 0 rfl rfl 1 (by decide) kw_151 rfl dX0_restore_8 ?_
    refine lv_bipush (v := nI 6) hx hb dX0_restore_11 (by decide) ?_
    refine n_icmp_gt (tgt := 39) hx hb (by omega) (by omega) dX0_restore_13 (by decide) (fun c27 => absurd c27 (by decide)) (fun c27 => ?_)
    refine lv_aload_n hx hb dX0_restore_16 rfl (lv_at hl0 0 rfl) ?_
    refine lv_dup hx hb dX0_restore_17 rfl ?_
    refine r_get (own := RX0) (C := RX0) (F := TX0) (N := 2) (ci := 0) (v := .int (nI 6)) hx hb hK hts in_X0 hown hP0 0 rfl rfl 1 (by decide) kw_151 rfl dX0_restore_18 ?_
    refine lv_iconst (v := nI 1) hx hb dX0_restore_21 (by decide) ?_
    refine lv_isub hx hb dX0_restore_22 ?_
    refine tp_i (y := nI 5) (by decide) ?_
    refine r_put (own := RX0) (C := RX0) (F := TX0) (N := 2) (ci := 0) (v := nI 5) hx hb hK hts in_X0 tyX0 tyX0_ok nmX0 hown hP0 hD0 hS0 0 rfl rfl 1 (by decide) kw_151 rfl rfl (Nat.le_of_ble_eq_true rfl) dX0_restore_23 (fun (H28 : Heap) (locs28 : List Loc) (hP28 : va_P D vwCl (fl [yW T ya yb F (nI 5), sW T (gq 0) (cs 0), tW T ((gq 0) 11) ((gq 0) 12) (nI ((Ls 0) 0)) ((cs 0) 9), tW T ((gq 0) 13) ((gq 0) 14) (nI ((Ls 0) 1)) ((cs 0) 10), tW T ((gq 0) 15) ((gq 0) 16) (nI ((Ls 0) 2)) ((cs 0) 11), sW T (gq 1) (cs 1), tW T ((gq 1) 11) ((gq 1) 12) (nI ((Ls 1) 0)) ((cs 1) 9), tW T ((gq 1) 13) ((gq 1) 14) (nI ((Ls 1) 1)) ((cs 1) 10), tW T ((gq 1) 15) ((gq 1) 16) (nI ((Ls 1) 2)) ((cs 1) 11), sW T (gq 2) (cs 2), tW T ((gq 2) 11) ((gq 2) 12) (nI ((Ls 2) 0)) ((cs 2) 9), tW T ((gq 2) 13) ((gq 2) 14) (nI ((Ls 2) 1)) ((cs 2) 10), tW T ((gq 2) 15) ((gq 2) 16) (nI ((Ls 2) 2)) ((cs 2) 11), sW T (gq 3) (cs 3), tW T ((gq 3) 11) ((gq 3) 12) (nI ((Ls 3) 0)) ((cs 3) 9), tW T ((gq 3) 13) ((gq 3) 14) (nI ((Ls 3) 1)) ((cs 3) 10), tW T ((gq 3) 15) ((gq 3) 16) (nI ((Ls 3) 2)) ((cs 3) 11), sW T (gq 4) (cs 4), tW T ((gq 4) 11) ((gq 4) 12) (nI ((Ls 4) 0)) ((cs 4) 9), tW T ((gq 4) 13) ((gq 4) 14) (nI ((Ls 4) 1)) ((cs 4) 10), tW T ((gq 4) 15) ((gq 4) 16) (nI ((Ls 4) 2)) ((cs 4) 11), sW T (gq 5) (cs 5), tW T ((gq 5) 11) ((gq 5) 12) (nI ((Ls 5) 0)) ((cs 5) 9), tW T ((gq 5) 13) ((gq 5) 14) (nI ((Ls 5) 1)) ((cs 5) 10), tW T ((gq 5) 15) ((gq 5) 16) (nI ((Ls 5) 2)) ((cs 5) 11), sW T q c, tW T (q 11) (q 12) (nI (L 0)) (c 9), tW T (q 13) (q 14) (nI (L 1)) (c 10), tW T (q 15) (q 16) (nI (L 2)) (c 11)]) H28) (hD28 : va_D A (fl [yW T ya yb F (nI 5), sW T (gq 0) (cs 0), tW T ((gq 0) 11) ((gq 0) 12) (nI ((Ls 0) 0)) ((cs 0) 9), tW T ((gq 0) 13) ((gq 0) 14) (nI ((Ls 0) 1)) ((cs 0) 10), tW T ((gq 0) 15) ((gq 0) 16) (nI ((Ls 0) 2)) ((cs 0) 11), sW T (gq 1) (cs 1), tW T ((gq 1) 11) ((gq 1) 12) (nI ((Ls 1) 0)) ((cs 1) 9), tW T ((gq 1) 13) ((gq 1) 14) (nI ((Ls 1) 1)) ((cs 1) 10), tW T ((gq 1) 15) ((gq 1) 16) (nI ((Ls 1) 2)) ((cs 1) 11), sW T (gq 2) (cs 2), tW T ((gq 2) 11) ((gq 2) 12) (nI ((Ls 2) 0)) ((cs 2) 9), tW T ((gq 2) 13) ((gq 2) 14) (nI ((Ls 2) 1)) ((cs 2) 10), tW T ((gq 2) 15) ((gq 2) 16) (nI ((Ls 2) 2)) ((cs 2) 11), sW T (gq 3) (cs 3), tW T ((gq 3) 11) ((gq 3) 12) (nI ((Ls 3) 0)) ((cs 3) 9), tW T ((gq 3) 13) ((gq 3) 14) (nI ((Ls 3) 1)) ((cs 3) 10), tW T ((gq 3) 15) ((gq 3) 16) (nI ((Ls 3) 2)) ((cs 3) 11), sW T (gq 4) (cs 4), tW T ((gq 4) 11) ((gq 4) 12) (nI ((Ls 4) 0)) ((cs 4) 9), tW T ((gq 4) 13) ((gq 4) 14) (nI ((Ls 4) 1)) ((cs 4) 10), tW T ((gq 4) 15) ((gq 4) 16) (nI ((Ls 4) 2)) ((cs 4) 11), sW T (gq 5) (cs 5), tW T ((gq 5) 11) ((gq 5) 12) (nI ((Ls 5) 0)) ((cs 5) 9), tW T ((gq 5) 13) ((gq 5) 14) (nI ((Ls 5) 1)) ((cs 5) 10), tW T ((gq 5) 15) ((gq 5) 16) (nI ((Ls 5) 2)) ((cs 5) 11), sW T q c, tW T (q 11) (q 12) (nI (L 0)) (c 9), tW T (q 13) (q 14) (nI (L 1)) (c 10), tW T (q 15) (q 16) (nI (L 2)) (c 11)])) hS28 => ?_)
    clear hP0 hD0 hS0
    refine lv_aload_n hx hb dX0_restore_26 rfl (lv_at hl0 1 rfl) ?_
    refine lv_aload_n hx hb dX0_restore_27 rfl (lv_at hl0 0 rfl) ?_
    refine r_get (own := RX0) (C := RX0) (F := TX0) (N := 2) (ci := 0) (v := .ref yb) hx hb hK hts in_X0 hown hP28 0 rfl rfl 0 (by decide) kw_150 rfl dX0_restore_28 ?_
    refine lv_aload_n hx hb dX0_restore_31 rfl (lv_at hl0 0 rfl) ?_
    refine r_get (own := RX0) (C := RX0) (F := TX0) (N := 2) (ci := 0) (v := .int (nI 5)) hx hb hK hts in_X0 hown hP28 0 rfl rfl 1 (by decide) kw_151 rfl dX0_restore_32 ?_
    refine r_aald (C := RX3) (v := ((gq 5) 0)) hx hb hK hP28 1 3 rfl rfl 5 (by decide) dX0_restore_35 (by decide) (hF 5 (by omega)) ?_
    have hPc29 : va_P D vwCl (fl [sW T q c, tW T (q 11) (q 12) (nI (L 0)) (c 9), tW T (q 13) (q 14) (nI (L 1)) (c 10), tW T (q 15) (q 16) (nI (L 2)) (c 11), sW T (gq 5) (cs 5), tW T ((gq 5) 11) ((gq 5) 12) (nI ((Ls 5) 0)) ((cs 5) 9), tW T ((gq 5) 13) ((gq 5) 14) (nI ((Ls 5) 1)) ((cs 5) 10), tW T ((gq 5) 15) ((gq 5) 16) (nI ((Ls 5) 2)) ((cs 5) 11)]) _ := flP_sub hP28 [25, 26, 27, 28, 21, 22, 23, 24] rfl
    have hDc29 : va_D A (fl [sW T q c, tW T (q 11) (q 12) (nI (L 0)) (c 9), tW T (q 13) (q 14) (nI (L 1)) (c 10), tW T (q 15) (q 16) (nI (L 2)) (c 11), sW T (gq 5) (cs 5), tW T ((gq 5) 11) ((gq 5) 12) (nI ((Ls 5) 0)) ((cs 5) 9), tW T ((gq 5) 13) ((gq 5) 14) (nI ((Ls 5) 1)) ((cs 5) 10), tW T ((gq 5) 15) ((gq 5) 16) (nI ((Ls 5) 2)) ((cs 5) 11)]) := flD_sub hD28 [25, 26, 27, 28, 21, 22, 23, 24] (by decide) rfl
    refine cl_v (br := [yW T ya yb F (nI 5), sW T (gq 0) (cs 0), tW T ((gq 0) 11) ((gq 0) 12) (nI ((Ls 0) 0)) ((cs 0) 9), tW T ((gq 0) 13) ((gq 0) 14) (nI ((Ls 0) 1)) ((cs 0) 10), tW T ((gq 0) 15) ((gq 0) 16) (nI ((Ls 0) 2)) ((cs 0) 11), sW T (gq 1) (cs 1), tW T ((gq 1) 11) ((gq 1) 12) (nI ((Ls 1) 0)) ((cs 1) 9), tW T ((gq 1) 13) ((gq 1) 14) (nI ((Ls 1) 1)) ((cs 1) 10), tW T ((gq 1) 15) ((gq 1) 16) (nI ((Ls 1) 2)) ((cs 1) 11), sW T (gq 2) (cs 2), tW T ((gq 2) 11) ((gq 2) 12) (nI ((Ls 2) 0)) ((cs 2) 9), tW T ((gq 2) 13) ((gq 2) 14) (nI ((Ls 2) 1)) ((cs 2) 10), tW T ((gq 2) 15) ((gq 2) 16) (nI ((Ls 2) 2)) ((cs 2) 11), sW T (gq 3) (cs 3), tW T ((gq 3) 11) ((gq 3) 12) (nI ((Ls 3) 0)) ((cs 3) 9), tW T ((gq 3) 13) ((gq 3) 14) (nI ((Ls 3) 1)) ((cs 3) 10), tW T ((gq 3) 15) ((gq 3) 16) (nI ((Ls 3) 2)) ((cs 3) 11), sW T (gq 4) (cs 4), tW T ((gq 4) 11) ((gq 4) 12) (nI ((Ls 4) 0)) ((cs 4) 9), tW T ((gq 4) 13) ((gq 4) 14) (nI ((Ls 4) 1)) ((cs 4) 10), tW T ((gq 4) 15) ((gq 4) 16) (nI ((Ls 4) 2)) ((cs 4) 11)]) (va_runV (As := [.ref ((gq 5) 0)]) (rest := []) ⟨hx, hb, hml, hown, hts⟩ (c_X3_copyFrom l D T q c L (gq 5) (cs 5) (Ls 5) (hz1 5 (by omega)) (hz5 5 (by omega)) _) (mkV hts okX3_copyFrom kw_505 kw_230 kw_231 ⟨rfl, rfl, Nat.le_of_ble_eq_true rfl, Nat.le_of_ble_eq_true rfl⟩) (pv_rw hK hPc29 hDc29 (q0 := 0) rfl rfl rfl) rfl rfl hl0.1 rfl (lv_room (Nat.le_of_ble_eq_true rfl)) dX0_restore_36 ⟨Nat.le_of_ble_eq_true rfl, Nat.le_of_ble_eq_true rfl⟩) hP28 hD28 hS28 hA [0, 1, 2, 3, 4, 5, 6, 7, 8, 9, 10, 11, 12, 13, 14, 15, 16, 17, 18, 19, 20] [25, 26, 27, 28, 21, 22, 23, 24] rfl (by decide) (fun c3_36 H30 locs30 hq_36 hP30 hD30 hS30 => ?_)
    clear hP28 hD28 hS28 hPc29 hDc29
    have hP30 : va_P D vwCl (fl [yW T ya yb F (nI 5), sW T (gq 0) (cs 0), tW T ((gq 0) 11) ((gq 0) 12) (nI ((Ls 0) 0)) ((cs 0) 9), tW T ((gq 0) 13) ((gq 0) 14) (nI ((Ls 0) 1)) ((cs 0) 10), tW T ((gq 0) 15) ((gq 0) 16) (nI ((Ls 0) 2)) ((cs 0) 11), sW T (gq 1) (cs 1), tW T ((gq 1) 11) ((gq 1) 12) (nI ((Ls 1) 0)) ((cs 1) 9), tW T ((gq 1) 13) ((gq 1) 14) (nI ((Ls 1) 1)) ((cs 1) 10), tW T ((gq 1) 15) ((gq 1) 16) (nI ((Ls 1) 2)) ((cs 1) 11), sW T (gq 2) (cs 2), tW T ((gq 2) 11) ((gq 2) 12) (nI ((Ls 2) 0)) ((cs 2) 9), tW T ((gq 2) 13) ((gq 2) 14) (nI ((Ls 2) 1)) ((cs 2) 10), tW T ((gq 2) 15) ((gq 2) 16) (nI ((Ls 2) 2)) ((cs 2) 11), sW T (gq 3) (cs 3), tW T ((gq 3) 11) ((gq 3) 12) (nI ((Ls 3) 0)) ((cs 3) 9), tW T ((gq 3) 13) ((gq 3) 14) (nI ((Ls 3) 1)) ((cs 3) 10), tW T ((gq 3) 15) ((gq 3) 16) (nI ((Ls 3) 2)) ((cs 3) 11), sW T (gq 4) (cs 4), tW T ((gq 4) 11) ((gq 4) 12) (nI ((Ls 4) 0)) ((cs 4) 9), tW T ((gq 4) 13) ((gq 4) 14) (nI ((Ls 4) 1)) ((cs 4) 10), tW T ((gq 4) 15) ((gq 4) 16) (nI ((Ls 4) 2)) ((cs 4) 11), sW T q c3_36, tW T (q 11) (q 12) (nI ((Ls 5) 0)) (c3_36 9), tW T (q 13) (q 14) (nI ((Ls 5) 1)) (c3_36 10), tW T (q 15) (q 16) (nI ((Ls 5) 2)) (c3_36 11), sW T (gq 5) (cs 5), tW T ((gq 5) 11) ((gq 5) 12) (nI ((Ls 5) 0)) ((cs 5) 9), tW T ((gq 5) 13) ((gq 5) 14) (nI ((Ls 5) 1)) ((cs 5) 10), tW T ((gq 5) 15) ((gq 5) 16) (nI ((Ls 5) 2)) ((cs 5) 11)]) _ := hP30
    have hD30 : va_D A (fl [yW T ya yb F (nI 5), sW T (gq 0) (cs 0), tW T ((gq 0) 11) ((gq 0) 12) (nI ((Ls 0) 0)) ((cs 0) 9), tW T ((gq 0) 13) ((gq 0) 14) (nI ((Ls 0) 1)) ((cs 0) 10), tW T ((gq 0) 15) ((gq 0) 16) (nI ((Ls 0) 2)) ((cs 0) 11), sW T (gq 1) (cs 1), tW T ((gq 1) 11) ((gq 1) 12) (nI ((Ls 1) 0)) ((cs 1) 9), tW T ((gq 1) 13) ((gq 1) 14) (nI ((Ls 1) 1)) ((cs 1) 10), tW T ((gq 1) 15) ((gq 1) 16) (nI ((Ls 1) 2)) ((cs 1) 11), sW T (gq 2) (cs 2), tW T ((gq 2) 11) ((gq 2) 12) (nI ((Ls 2) 0)) ((cs 2) 9), tW T ((gq 2) 13) ((gq 2) 14) (nI ((Ls 2) 1)) ((cs 2) 10), tW T ((gq 2) 15) ((gq 2) 16) (nI ((Ls 2) 2)) ((cs 2) 11), sW T (gq 3) (cs 3), tW T ((gq 3) 11) ((gq 3) 12) (nI ((Ls 3) 0)) ((cs 3) 9), tW T ((gq 3) 13) ((gq 3) 14) (nI ((Ls 3) 1)) ((cs 3) 10), tW T ((gq 3) 15) ((gq 3) 16) (nI ((Ls 3) 2)) ((cs 3) 11), sW T (gq 4) (cs 4), tW T ((gq 4) 11) ((gq 4) 12) (nI ((Ls 4) 0)) ((cs 4) 9), tW T ((gq 4) 13) ((gq 4) 14) (nI ((Ls 4) 1)) ((cs 4) 10), tW T ((gq 4) 15) ((gq 4) 16) (nI ((Ls 4) 2)) ((cs 4) 11), sW T q c3_36, tW T (q 11) (q 12) (nI ((Ls 5) 0)) (c3_36 9), tW T (q 13) (q 14) (nI ((Ls 5) 1)) (c3_36 10), tW T (q 15) (q 16) (nI ((Ls 5) 2)) (c3_36 11), sW T (gq 5) (cs 5), tW T ((gq 5) 11) ((gq 5) 12) (nI ((Ls 5) 0)) ((cs 5) 9), tW T ((gq 5) 13) ((gq 5) 14) (nI ((Ls 5) 1)) ((cs 5) 10), tW T ((gq 5) 15) ((gq 5) 16) (nI ((Ls 5) 2)) ((cs 5) 11)]) := hD30
    have hq_36 : Eqv c3_36 (cs 5) := hq_36
    refine ret_v hTG (Nat.le_refl _) (Nat.le_refl _) hx hb hr hlocks (c3_36) hP30 hD30 hS30 [0, 1, 2, 3, 4, 5, 6, 7, 8, 9, 10, 11, 12, 13, 14, 15, 16, 17, 18, 19, 20, 25, 26, 27, 28, 21, 22, 23, 24] rfl (by decide) dX0_restore_39 ?_
    exact hq_36
set_option maxHeartbeats 4000000 in
set_option maxRecDepth 100000 in
theorem c_X2_isFull (l : Launch) (D : va_G) (T : TI) (ga : Nat) (gb : Nat) (f : Nat → Int32) (n : Nat) (pl : Nat) (ps : Nat) (hn : n ≤ 60) : OI l yX2_isFull cX2_isFull 1 .boolean (rmD 0 0 0) D T [.ref ga] [gW T ga gb f (nI n) (nI pl) (nI ps)] (fun r => r = bI (decide (60 ≤ n))) := by
  refine met_ro rfl (Nat.le_of_ble_eq_true rfl) ?_
  intro pX eX sX mX bX mtX cX hC hP0 hS0 ls0 hl0 TG hTG
  obtain ⟨hx, hb, hr, hml, hown, hts, hlocks, hin, hK⟩ := hC
  have hown : sX.vm.findClass RX2 = some mX.cls := hown
  have hl0 : lv_has ls0 1 [(0, .ref ga)] := hl0
  refine lv_aload_n hx hb dX2_isFull_0 rfl (lv_at hl0 0 rfl) ?_
  refine r_get (own := RX2) (C := RX2) (F := TX2) (N := 4) (ci := 2) (v := .int (nI n)) hx hb hK hts in_X2 hown hP0 0 rfl rfl 1 (by decide) kw_166 rfl dX2_isFull_1 ?_
  refine lv_bipush (v := nI 60) hx hb dX2_isFull_4 (by decide) ?_
  refine n_icmp_lt (tgt := 13) hx hb (by omega) (by omega) dX2_isFull_6 (by decide) (fun c_6 => ?_) (fun c_6 => ?_)
  · skip
    refine lv_iconst (v := nI 0) hx hb dX2_isFull_13 (by decide) ?_
    refine ro_z (b := false) rfl hTG (Nat.le_refl _) (Nat.le_refl _) hx hb hr hlocks hS0 dX2_isFull_14 ?_
    show bI _ = bI _; congr 1; simp <;> omega
  · skip
    refine lv_iconst (v := nI 1) hx hb dX2_isFull_9 (by decide) ?_
    refine lv_goto (tgt := 14) hx hb dX2_isFull_10 (by decide) ?_
    refine ro_z (b := true) rfl hTG (Nat.le_refl _) (Nat.le_refl _) hx hb hr hlocks hS0 dX2_isFull_14 ?_
    show bI _ = bI _; congr 1; simp <;> omega
set_option maxHeartbeats 4000000 in
set_option maxRecDepth 100000 in
theorem c_X2_putLast (l : Launch) (D : va_G) (T : TI) (ga : Nat) (gb : Nat) (f : Nat → Int32) (n : Nat) (pl : Nat) (ps : Nat) (x : Int32) (hn : n < 60) : CV l yX2_putLast cX2_putLast 2 (rmD 0 0 0) D T [.ref ga, .int x] [gW T ga gb f (nI n) (nI pl) (nI ps)] 0 0 (β := Unit) (fun (_ : Unit) => [gW T ga gb (upd f n x) (nI (n + 1)) (nI pl) (nI ps)]) (fun (_ : Unit) => True) := by
  intro sz
  refine met_rw (Qc := fun A => va_Qv _ (PST D _ A) A) rfl (Nat.le_of_ble_eq_true rfl) ?_
  intro pX eX sX mX bX mtX cX A hAe hC hA hP0 hD0 hS0 ls0 hl0 TG hTG
  clear hAe
  obtain ⟨hx, hb, hr, hml, hown, hts, hlocks, hin, hK⟩ := hC
  have hown : sX.vm.findClass RX2 = some mX.cls := hown
  have hl0 : lv_has ls0 2 [(0, .ref ga), (1, .int x)] := hl0
  refine lv_aload_n hx hb dX2_putLast_0 rfl (lv_at hl0 0 rfl) ?_
  refine r_get (own := RX2) (C := RX2) (F := TX2) (N := 4) (ci := 2) (v := .int (nI n)) hx hb hK hts in_X2 hown hP0 0 rfl rfl 1 (by decide) kw_166 rfl dX2_putLast_1 ?_
  refine n_if_lt hx hb (by omega) dX2_putLast_4 36 (by decide) ?_
  refine lv_aload_n hx hb dX2_putLast_7 rfl (lv_at hl0 0 rfl) ?_
  refine r_get (own := RX2) (C := RX2) (F := TX2) (N := 4) (ci := 2) (v := .int (nI n)) hx hb hK hts in_X2 hown hP0 0 rfl rfl 1 (by decide) kw_166 rfl dX2_putLast_8 ?_
  refine lv_bipush (v := nI 60) hx hb dX2_putLast_11 (by decide) ?_
  refine n_icmp_ge (tgt := 36) hx hb (by omega) (by omega) dX2_putLast_13 (by decide) (fun c1 => absurd c1 (by omega)) (fun c1 => ?_)
  refine lv_aload_n hx hb dX2_putLast_16 rfl (lv_at hl0 0 rfl) ?_
  refine r_get (own := RX2) (C := RX2) (F := TX2) (N := 4) (ci := 2) (v := .ref gb) hx hb hK hts in_X2 hown hP0 0 rfl rfl 0 (by decide) kw_164 rfl dX2_putLast_17 ?_
  refine lv_aload_n hx hb dX2_putLast_20 rfl (lv_at hl0 0 rfl) ?_
  refine r_get (own := RX2) (C := RX2) (F := TX2) (N := 4) (ci := 2) (v := .int (nI n)) hx hb hK hts in_X2 hown hP0 0 rfl rfl 1 (by decide) kw_166 rfl dX2_putLast_21 ?_
  refine lv_iload_n hx hb dX2_putLast_24 rfl (lv_at hl0 1 rfl) ?_
  refine r_iast hx hb hK hP0 hD0 hS0 1 (f := f) (n := 60) rfl n (by decide) dX2_putLast_25 (by omega) (fun (H2 : Heap) (locs2 : List Loc) (hP2 : va_P D vwCl (fl [gW T ga gb (upd f n x) (nI n) (nI pl) (nI ps)]) H2) (hD2 : va_D A (fl [gW T ga gb (upd f n x) (nI n) (nI pl) (nI ps)])) hS2 => ?_)
  clear hP0 hD0 hS0
  refine lv_aload_n hx hb dX2_putLast_26 rfl (lv_at hl0 0 rfl) ?_
  refine lv_dup hx hb dX2_putLast_27 rfl ?_
  refine r_get (own := RX2) (C := RX2) (F := TX2) (N := 4) (ci := 2) (v := .int (nI n)) hx hb hK hts in_X2 hown hP2 0 rfl rfl 1 (by decide) kw_166 rfl dX2_putLast_28 ?_
  refine lv_iconst (v := nI 1) hx hb dX2_putLast_31 (by decide) ?_
  refine lv_iadd hx hb dX2_putLast_32 ?_
  refine tp_i (y := nI (n + 1)) (nI_add _ _) ?_
  refine r_put (own := RX2) (C := RX2) (F := TX2) (N := 4) (ci := 2) (v := nI (n + 1)) hx hb hK hts in_X2 tyX2 tyX2_ok nmX2 hown hP2 hD2 hS2 0 rfl rfl 1 (by decide) kw_166 rfl rfl (Nat.le_of_ble_eq_true rfl) dX2_putLast_33 (fun (H3 : Heap) (locs3 : List Loc) (hP3 : va_P D vwCl (fl [gW T ga gb (upd f n x) (nI (n + 1)) (nI pl) (nI ps)]) H3) (hD3 : va_D A (fl [gW T ga gb (upd f n x) (nI (n + 1)) (nI pl) (nI ps)])) hS3 => ?_)
  clear hP2 hD2 hS2
  refine ret_v hTG (Nat.le_refl _) (Nat.le_refl _) hx hb hr hlocks (()) hP3 hD3 hS3 [0] rfl (by decide) dX2_putLast_36 ?_
  first | rfl | trivial
set_option maxHeartbeats 4000000 in
set_option maxRecDepth 100000 in
theorem c_X2_empty (l : Launch) (D : va_G) (T : TI) (ga : Nat) (gb : Nat) (f : Nat → Int32) (n : Nat) (pl : Nat) (ps : Nat)  : CV l yX2_empty cX2_empty 1 (rmD 0 0 0) D T [.ref ga] [gW T ga gb f (nI n) (nI pl) (nI ps)] 0 0 (β := Unit) (fun (_ : Unit) => [gW T ga gb f (nI 0) (nI pl) (nI ps)]) (fun (_ : Unit) => True) := by
  intro sz
  refine met_rw (Qc := fun A => va_Qv _ (PST D _ A) A) rfl (Nat.le_of_ble_eq_true rfl) ?_
  intro pX eX sX mX bX mtX cX A hAe hC hA hP0 hD0 hS0 ls0 hl0 TG hTG
  clear hAe
  obtain ⟨hx, hb, hr, hml, hown, hts, hlocks, hin, hK⟩ := hC
  have hown : sX.vm.findClass RX2 = some mX.cls := hown
  have hl0 : lv_has ls0 1 [(0, .ref ga)] := hl0
  refine lv_aload_n hx hb dX2_empty_0 rfl (lv_at hl0 0 rfl) ?_
  refine lv_iconst (v := nI 0) hx hb dX2_empty_1 (by decide) ?_
  refine r_put (own := RX2) (C := RX2) (F := TX2) (N := 4) (ci := 2) (v := nI 0) hx hb hK hts in_X2 tyX2 tyX2_ok nmX2 hown hP0 hD0 hS0 0 rfl rfl 1 (by decide) kw_166 rfl rfl (Nat.le_of_ble_eq_true rfl) dX2_empty_2 (fun (H1 : Heap) (locs1 : List Loc) (hP1 : va_P D vwCl (fl [gW T ga gb f (nI 0) (nI pl) (nI ps)]) H1) (hD1 : va_D A (fl [gW T ga gb f (nI 0) (nI pl) (nI ps)])) hS1 => ?_)
  clear hP0 hD0 hS0
  refine ret_v hTG (Nat.le_refl _) (Nat.le_refl _) hx hb hr hlocks (()) hP1 hD1 hS1 [0] rfl (by decide) dX2_empty_5 ?_
  first | rfl | trivial
set_option maxHeartbeats 4000000 in
set_option maxRecDepth 100000 in
theorem c_X2_isCrew (l : Launch) (D : va_G) (T : TI) (x : Int32)  : OI l yX2_isCrew cX2_isCrew 1 .boolean (rmD 0 0 0) D T [.int x] [] (fun r => r = bI (isCr x)) := by
  refine met_ro rfl (Nat.le_of_ble_eq_true rfl) ?_
  intro pX eX sX mX bX mtX cX hC hP0 hS0 ls0 hl0 TG hTG
  obtain ⟨hx, hb, hr, hml, hown, hts, hlocks, hin, hK⟩ := hC
  have hown : sX.vm.findClass RX2 = some mX.cls := hown
  have hl0 : lv_has ls0 1 [(0, .int x)] := hl0
  refine lv_iload_n hx hb dX2_isCrew_0 rfl (lv_at hl0 0 rfl) ?_
  refine lv_bipush (v := nI 97) hx hb dX2_isCrew_1 (by decide) ?_
  refine lv_icmp_lt (tgt := 16) hx hb dX2_isCrew_3 (by decide) (fun c_3 => ?_) (fun c_3 => ?_)
  · skip
    refine lv_iconst (v := nI 0) hx hb dX2_isCrew_16 (by decide) ?_
    refine ro_z (b := false) rfl hTG (Nat.le_refl _) (Nat.le_refl _) hx hb hr hlocks hS0 dX2_isCrew_17 ?_
    simp [isCr, c_3, if_true]
  · skip
    refine lv_iload_n hx hb dX2_isCrew_6 rfl (lv_at hl0 0 rfl) ?_
    refine lv_bipush (v := nI 100) hx hb dX2_isCrew_7 (by decide) ?_
    refine lv_icmp_ge (tgt := 16) hx hb dX2_isCrew_9 (by decide) (fun c_9 => ?_) (fun c_9 => ?_)
    · skip
      refine lv_iconst (v := nI 0) hx hb dX2_isCrew_16 (by decide) ?_
      refine ro_z (b := false) rfl hTG (Nat.le_refl _) (Nat.le_refl _) hx hb hr hlocks hS0 dX2_isCrew_17 ?_
      simp [isCr, c_3, c_9, if_true]
    · skip
      refine lv_iconst (v := nI 1) hx hb dX2_isCrew_12 (by decide) ?_
      refine lv_goto (tgt := 17) hx hb dX2_isCrew_13 (by decide) ?_
      refine ro_z (b := true) rfl hTG (Nat.le_refl _) (Nat.le_refl _) hx hb hr hlocks hS0 dX2_isCrew_17 ?_
      simp [isCr, c_3, c_9, if_true]
set_option maxHeartbeats 4000000 in
set_option maxRecDepth 100000 in
theorem c_X2_isDigit (l : Launch) (D : va_G) (T : TI) (x : Int32)  : OI l yX2_isDigit cX2_isDigit 1 .boolean (rmD 0 0 0) D T [.int x] [] (fun r => r = bI (isDg x)) := by
  refine met_ro rfl (Nat.le_of_ble_eq_true rfl) ?_
  intro pX eX sX mX bX mtX cX hC hP0 hS0 ls0 hl0 TG hTG
  obtain ⟨hx, hb, hr, hml, hown, hts, hlocks, hin, hK⟩ := hC
  have hown : sX.vm.findClass RX2 = some mX.cls := hown
  have hl0 : lv_has ls0 1 [(0, .int x)] := hl0
  refine lv_iload_n hx hb dX2_isDigit_0 rfl (lv_at hl0 0 rfl) ?_
  refine lv_bipush (v := nI 48) hx hb dX2_isDigit_1 (by decide) ?_
  refine lv_icmp_lt (tgt := 16) hx hb dX2_isDigit_3 (by decide) (fun c_3 => ?_) (fun c_3 => ?_)
  · skip
    refine lv_iconst (v := nI 0) hx hb dX2_isDigit_16 (by decide) ?_
    refine ro_z (b := false) rfl hTG (Nat.le_refl _) (Nat.le_refl _) hx hb hr hlocks hS0 dX2_isDigit_17 ?_
    simp [isDg, c_3, if_true]
  · skip
    refine lv_iload_n hx hb dX2_isDigit_6 rfl (lv_at hl0 0 rfl) ?_
    refine lv_bipush (v := nI 57) hx hb dX2_isDigit_7 (by decide) ?_
    refine lv_icmp_gt (tgt := 16) hx hb dX2_isDigit_9 (by decide) (fun c_9 => ?_) (fun c_9 => ?_)
    · skip
      refine lv_iconst (v := nI 0) hx hb dX2_isDigit_16 (by decide) ?_
      refine ro_z (b := false) rfl hTG (Nat.le_refl _) (Nat.le_refl _) hx hb hr hlocks hS0 dX2_isDigit_17 ?_
      simp [isDg, c_3, c_9, if_true]
    · skip
      refine lv_iconst (v := nI 1) hx hb dX2_isDigit_12 (by decide) ?_
      refine lv_goto (tgt := 17) hx hb dX2_isDigit_13 (by decide) ?_
      refine ro_z (b := true) rfl hTG (Nat.le_refl _) (Nat.le_refl _) hx hb hr hlocks hS0 dX2_isDigit_17 ?_
      simp [isDg, c_3, c_9, if_true]
set_option maxHeartbeats 4000000 in
set_option maxRecDepth 100000 in
theorem c_X2_canSeparate (l : Launch) (D : va_G) (T : TI) (ga : Nat) (gb : Nat) (f : Nat → Int32) (n : Nat) (pl : Nat) (ps : Nat) (x : Int32) (hps : ps < 1000) : CI l yX2_canSeparate cX2_canSeparate 2 .boolean (rmD 0 0 0) D T [.ref ga, .int x] [gW T ga gb f (nI n) (nI pl) (nI ps)] 0 0 (β := Nat × Nat) (fun ⟨pl2, ps2⟩ => [gW T ga gb f (nI n) (nI pl2) (nI ps2)]) (fun (r : Int32) ⟨pl2, ps2⟩ => r = bI (sepB ps x) ∧ (pl2 = sepP x ∧ ps2 = ps)) := by
  intro sz
  refine met_rw (Qc := fun A => va_Qi _ (PST D _ A) A) rfl (Nat.le_of_ble_eq_true rfl) ?_
  intro pX eX sX mX bX mtX cX A hAe hC hA hP0 hD0 hS0 ls0 hl0 TG hTG
  clear hAe
  obtain ⟨hx, hb, hr, hml, hown, hts, hlocks, hin, hK⟩ := hC
  have hown : sX.vm.findClass RX2 = some mX.cls := hown
  have hl0 : lv_has ls0 2 [(0, .ref ga), (1, .int x)] := hl0
  refine lv_aload_n hx hb dX2_canSeparate_0 rfl (lv_at hl0 0 rfl) ?_
  refine lv_iload_n hx hb dX2_canSeparate_1 rfl (lv_at hl0 1 rfl) ?_
  refine lv_bipush (v := nI 59) hx hb dX2_canSeparate_2 (by decide) ?_
  refine lv_icmp_ne (tgt := 11) hx hb dX2_canSeparate_4 (by decide) (fun c_4 => ?_) (fun c_4 => ?_)
  · skip
    refine lv_iconst (v := nI 1) hx hb dX2_canSeparate_11 (by decide) ?_
    refine r_put (own := RX2) (C := RX2) (F := TX2) (N := 4) (ci := 2) (v := nI 1) hx hb hK hts in_X2 tyX2 tyX2_ok nmX2 hown hP0 hD0 hS0 0 rfl rfl 2 (by decide) kw_168 rfl rfl (Nat.le_of_ble_eq_true rfl) dX2_canSeparate_12 (fun (H2 : Heap) (locs2 : List Loc) (hP2 : va_P D vwCl (fl [gW T ga gb f (nI n) (nI 1) (nI ps)]) H2) (hD2 : va_D A (fl [gW T ga gb f (nI n) (nI 1) (nI ps)])) hS2 => ?_)
    clear hP0 hD0 hS0
    refine lv_iload_n hx hb dX2_canSeparate_15 rfl (lv_at hl0 1 rfl) ?_
    refine lv_bipush (v := nI 59) hx hb dX2_canSeparate_16 (by decide) ?_
    refine lv_icmp_eq (tgt := 36) hx hb dX2_canSeparate_18 (by decide) (fun c_18 => ?_) (fun c_18 => ?_)
    · skip
      refine lv_iconst (v := nI 1) hx hb dX2_canSeparate_36 (by decide) ?_
      refine lv_goto (tgt := 41) hx hb dX2_canSeparate_37 (by decide) ?_
      refine ret_z (b := true) rfl hTG (Nat.le_refl _) (Nat.le_refl _) hx hb hr hlocks ((1, ps)) hP2 hD2 hS2 [0] rfl (by decide) dX2_canSeparate_41 ?_
      refine ⟨?_, ?_, rfl⟩
      · first | exact absurd c_18 c_4 | exact absurd c_4 c_18 | (rw [sepB, decide_eq_true c_18]; rfl) | (rw [sepB, decide_eq_false c_18, decide_eq_false c_24]; rfl) | (rw [sepB, decide_eq_false c_18, decide_eq_true c_24, decide_eq_false (show ¬ ps < 8 by omega)]; rfl) | (rw [sepB, decide_eq_false c_18, decide_eq_true c_24, decide_eq_true (show ps < 8 by omega)]; rfl)
      · first | exact absurd c_18 c_4 | exact absurd c_4 c_18 | rw [sepP, if_pos c_4] | rw [sepP, if_neg c_4]
    · skip
      refine lv_iload_n hx hb dX2_canSeparate_21 rfl (lv_at hl0 1 rfl) ?_
      refine lv_bipush (v := nI 44) hx hb dX2_canSeparate_22 (by decide) ?_
      refine lv_icmp_ne (tgt := 40) hx hb dX2_canSeparate_24 (by decide) (fun c_24 => ?_) (fun c_24 => ?_)
      · skip
        refine lv_iconst (v := nI 0) hx hb dX2_canSeparate_40 (by decide) ?_
        refine ret_z (b := false) rfl hTG (Nat.le_refl _) (Nat.le_refl _) hx hb hr hlocks ((1, ps)) hP2 hD2 hS2 [0] rfl (by decide) dX2_canSeparate_41 ?_
        refine ⟨?_, ?_, rfl⟩
        · first | exact absurd c_18 c_4 | exact absurd c_4 c_18 | (rw [sepB, decide_eq_true c_18]; rfl) | (rw [sepB, decide_eq_false c_18, decide_eq_false c_24]; rfl) | (rw [sepB, decide_eq_false c_18, decide_eq_true c_24, decide_eq_false (show ¬ ps < 8 by omega)]; rfl) | (rw [sepB, decide_eq_false c_18, decide_eq_true c_24, decide_eq_true (show ps < 8 by omega)]; rfl)
        · first | exact absurd c_18 c_4 | exact absurd c_4 c_18 | rw [sepP, if_pos c_4] | rw [sepP, if_neg c_4]
      · skip
        refine lv_aload_n hx hb dX2_canSeparate_27 rfl (lv_at hl0 0 rfl) ?_
        refine r_get (own := RX2) (C := RX2) (F := TX2) (N := 4) (ci := 2) (v := .int (nI ps)) hx hb hK hts in_X2 hown hP2 0 rfl rfl 3 (by decide) kw_169 rfl dX2_canSeparate_28 ?_
        refine lv_bipush (v := nI 8) hx hb dX2_canSeparate_31 (by decide) ?_
        refine n_icmp_ge (tgt := 40) hx hb (by omega) (by omega) dX2_canSeparate_33 (by decide) (fun c_33 => ?_) (fun c_33 => ?_)
        · skip
          refine lv_iconst (v := nI 0) hx hb dX2_canSeparate_40 (by decide) ?_
          refine ret_z (b := false) rfl hTG (Nat.le_refl _) (Nat.le_refl _) hx hb hr hlocks ((1, ps)) hP2 hD2 hS2 [0] rfl (by decide) dX2_canSeparate_41 ?_
          refine ⟨?_, ?_, rfl⟩
          · first | exact absurd c_18 c_4 | exact absurd c_4 c_18 | (rw [sepB, decide_eq_true c_18]; rfl) | (rw [sepB, decide_eq_false c_18, decide_eq_false c_24]; rfl) | (rw [sepB, decide_eq_false c_18, decide_eq_true c_24, decide_eq_false (show ¬ ps < 8 by omega)]; rfl) | (rw [sepB, decide_eq_false c_18, decide_eq_true c_24, decide_eq_true (show ps < 8 by omega)]; rfl)
          · first | exact absurd c_18 c_4 | exact absurd c_4 c_18 | rw [sepP, if_pos c_4] | rw [sepP, if_neg c_4]
        · skip
          refine lv_iconst (v := nI 1) hx hb dX2_canSeparate_36 (by decide) ?_
          refine lv_goto (tgt := 41) hx hb dX2_canSeparate_37 (by decide) ?_
          refine ret_z (b := true) rfl hTG (Nat.le_refl _) (Nat.le_refl _) hx hb hr hlocks ((1, ps)) hP2 hD2 hS2 [0] rfl (by decide) dX2_canSeparate_41 ?_
          refine ⟨?_, ?_, rfl⟩
          · first | exact absurd c_18 c_4 | exact absurd c_4 c_18 | (rw [sepB, decide_eq_true c_18]; rfl) | (rw [sepB, decide_eq_false c_18, decide_eq_false c_24]; rfl) | (rw [sepB, decide_eq_false c_18, decide_eq_true c_24, decide_eq_false (show ¬ ps < 8 by omega)]; rfl) | (rw [sepB, decide_eq_false c_18, decide_eq_true c_24, decide_eq_true (show ps < 8 by omega)]; rfl)
          · first | exact absurd c_18 c_4 | exact absurd c_4 c_18 | rw [sepP, if_pos c_4] | rw [sepP, if_neg c_4]
  · skip
    refine lv_iconst (v := nI 0) hx hb dX2_canSeparate_7 (by decide) ?_
    refine lv_goto (tgt := 12) hx hb dX2_canSeparate_8 (by decide) ?_
    refine r_put (own := RX2) (C := RX2) (F := TX2) (N := 4) (ci := 2) (v := nI 0) hx hb hK hts in_X2 tyX2 tyX2_ok nmX2 hown hP0 hD0 hS0 0 rfl rfl 2 (by decide) kw_168 rfl rfl (Nat.le_of_ble_eq_true rfl) dX2_canSeparate_12 (fun (H6 : Heap) (locs6 : List Loc) (hP6 : va_P D vwCl (fl [gW T ga gb f (nI n) (nI 0) (nI ps)]) H6) (hD6 : va_D A (fl [gW T ga gb f (nI n) (nI 0) (nI ps)])) hS6 => ?_)
    clear hP0 hD0 hS0
    refine lv_iload_n hx hb dX2_canSeparate_15 rfl (lv_at hl0 1 rfl) ?_
    refine lv_bipush (v := nI 59) hx hb dX2_canSeparate_16 (by decide) ?_
    refine lv_icmp_eq (tgt := 36) hx hb dX2_canSeparate_18 (by decide) (fun c_18 => ?_) (fun c_18 => ?_)
    · skip
      refine lv_iconst (v := nI 1) hx hb dX2_canSeparate_36 (by decide) ?_
      refine lv_goto (tgt := 41) hx hb dX2_canSeparate_37 (by decide) ?_
      refine ret_z (b := true) rfl hTG (Nat.le_refl _) (Nat.le_refl _) hx hb hr hlocks ((0, ps)) hP6 hD6 hS6 [0] rfl (by decide) dX2_canSeparate_41 ?_
      refine ⟨?_, ?_, rfl⟩
      · first | exact absurd c_18 c_4 | exact absurd c_4 c_18 | (rw [sepB, decide_eq_true c_18]; rfl) | (rw [sepB, decide_eq_false c_18, decide_eq_false c_24]; rfl) | (rw [sepB, decide_eq_false c_18, decide_eq_true c_24, decide_eq_false (show ¬ ps < 8 by omega)]; rfl) | (rw [sepB, decide_eq_false c_18, decide_eq_true c_24, decide_eq_true (show ps < 8 by omega)]; rfl)
      · first | exact absurd c_18 c_4 | exact absurd c_4 c_18 | rw [sepP, if_pos c_4] | rw [sepP, if_neg c_4]
    · skip
      refine lv_iload_n hx hb dX2_canSeparate_21 rfl (lv_at hl0 1 rfl) ?_
      refine lv_bipush (v := nI 44) hx hb dX2_canSeparate_22 (by decide) ?_
      refine lv_icmp_ne (tgt := 40) hx hb dX2_canSeparate_24 (by decide) (fun c_24 => ?_) (fun c_24 => ?_)
      · skip
        refine lv_iconst (v := nI 0) hx hb dX2_canSeparate_40 (by decide) ?_
        refine ret_z (b := false) rfl hTG (Nat.le_refl _) (Nat.le_refl _) hx hb hr hlocks ((0, ps)) hP6 hD6 hS6 [0] rfl (by decide) dX2_canSeparate_41 ?_
        refine ⟨?_, ?_, rfl⟩
        · first | exact absurd c_18 c_4 | exact absurd c_4 c_18 | (rw [sepB, decide_eq_true c_18]; rfl) | (rw [sepB, decide_eq_false c_18, decide_eq_false c_24]; rfl) | (rw [sepB, decide_eq_false c_18, decide_eq_true c_24, decide_eq_false (show ¬ ps < 8 by omega)]; rfl) | (rw [sepB, decide_eq_false c_18, decide_eq_true c_24, decide_eq_true (show ps < 8 by omega)]; rfl)
        · first | exact absurd c_18 c_4 | exact absurd c_4 c_18 | rw [sepP, if_pos c_4] | rw [sepP, if_neg c_4]
      · skip
        refine lv_aload_n hx hb dX2_canSeparate_27 rfl (lv_at hl0 0 rfl) ?_
        refine r_get (own := RX2) (C := RX2) (F := TX2) (N := 4) (ci := 2) (v := .int (nI ps)) hx hb hK hts in_X2 hown hP6 0 rfl rfl 3 (by decide) kw_169 rfl dX2_canSeparate_28 ?_
        refine lv_bipush (v := nI 8) hx hb dX2_canSeparate_31 (by decide) ?_
        refine n_icmp_ge (tgt := 40) hx hb (by omega) (by omega) dX2_canSeparate_33 (by decide) (fun c_33 => ?_) (fun c_33 => ?_)
        · skip
          refine lv_iconst (v := nI 0) hx hb dX2_canSeparate_40 (by decide) ?_
          refine ret_z (b := false) rfl hTG (Nat.le_refl _) (Nat.le_refl _) hx hb hr hlocks ((0, ps)) hP6 hD6 hS6 [0] rfl (by decide) dX2_canSeparate_41 ?_
          refine ⟨?_, ?_, rfl⟩
          · first | exact absurd c_18 c_4 | exact absurd c_4 c_18 | (rw [sepB, decide_eq_true c_18]; rfl) | (rw [sepB, decide_eq_false c_18, decide_eq_false c_24]; rfl) | (rw [sepB, decide_eq_false c_18, decide_eq_true c_24, decide_eq_false (show ¬ ps < 8 by omega)]; rfl) | (rw [sepB, decide_eq_false c_18, decide_eq_true c_24, decide_eq_true (show ps < 8 by omega)]; rfl)
          · first | exact absurd c_18 c_4 | exact absurd c_4 c_18 | rw [sepP, if_pos c_4] | rw [sepP, if_neg c_4]
        · skip
          refine lv_iconst (v := nI 1) hx hb dX2_canSeparate_36 (by decide) ?_
          refine lv_goto (tgt := 41) hx hb dX2_canSeparate_37 (by decide) ?_
          refine ret_z (b := true) rfl hTG (Nat.le_refl _) (Nat.le_refl _) hx hb hr hlocks ((0, ps)) hP6 hD6 hS6 [0] rfl (by decide) dX2_canSeparate_41 ?_
          refine ⟨?_, ?_, rfl⟩
          · first | exact absurd c_18 c_4 | exact absurd c_4 c_18 | (rw [sepB, decide_eq_true c_18]; rfl) | (rw [sepB, decide_eq_false c_18, decide_eq_false c_24]; rfl) | (rw [sepB, decide_eq_false c_18, decide_eq_true c_24, decide_eq_false (show ¬ ps < 8 by omega)]; rfl) | (rw [sepB, decide_eq_false c_18, decide_eq_true c_24, decide_eq_true (show ps < 8 by omega)]; rfl)
          · first | exact absurd c_18 c_4 | exact absurd c_4 c_18 | rw [sepP, if_pos c_4] | rw [sepP, if_neg c_4]
set_option maxHeartbeats 4000000 in
set_option maxRecDepth 100000 in
theorem c_X2_canTake (l : Launch) (D : va_G) (T : TI) (ga : Nat) (gb : Nat) (f : Nat → Int32) (n : Nat) (pl : Nat) (ps : Nat) (x : Int32) (hps : ps < 1000) (hpl : pl ≤ 3) : CI l yX2_canTake cX2_canTake 2 .boolean (rmD 1 0 0) D T [.ref ga, .int x] [gW T ga gb f (nI n) (nI pl) (nI ps)] 0 0 (β := Nat × Nat) (fun ⟨pl2, ps2⟩ => [gW T ga gb f (nI n) (nI pl2) (nI ps2)]) (fun (r : Int32) ⟨pl2, ps2⟩ => r = bI (tkB pl ps x) ∧ (pl2 = tkP pl x ∧ ps2 = tkS pl ps)) := by
  intro sz
  refine met_rw (Qc := fun A => va_Qi _ (PST D _ A) A) rfl (Nat.le_of_ble_eq_true rfl) ?_
  intro pX eX sX mX bX mtX cX A hAe hC hA hP0 hD0 hS0 ls0 hl0 TG hTG
  clear hAe
  obtain ⟨hx, hb, hr, hml, hown, hts, hlocks, hin, hK⟩ := hC
  have hown : sX.vm.findClass RX2 = some mX.cls := hown
  have hl0 : lv_has ls0 2 [(0, .ref ga), (1, .int x)] := hl0
  rcases (show pl = 0 ∨ pl = 1 ∨ pl = 2 ∨ pl = 3 by omega) with rfl | rfl | rfl | rfl
  · skip
    refine lv_aload_n hx hb dX2_canTake_0 rfl (lv_at hl0 0 rfl) ?_
    refine r_get (own := RX2) (C := RX2) (F := TX2) (N := 4) (ci := 2) (v := .int (nI 0)) hx hb hK hts in_X2 hown hP0 0 rfl rfl 2 (by decide) kw_168 rfl dX2_canTake_1 ?_
    refine lv_tableIn (tgt := 32) hx hb dX2_canTake_4 (by decide) (by decide) rfl (by decide) ?_
    refine lv_aload_n hx hb dX2_canTake_32 rfl (lv_at hl0 0 rfl) ?_
    refine lv_iconst (v := nI 0) hx hb dX2_canTake_33 (by decide) ?_
    refine r_put (own := RX2) (C := RX2) (F := TX2) (N := 4) (ci := 2) (v := nI 0) hx hb hK hts in_X2 tyX2 tyX2_ok nmX2 hown hP0 hD0 hS0 0 rfl rfl 3 (by decide) kw_169 rfl rfl (Nat.le_of_ble_eq_true rfl) dX2_canTake_34 (fun (H1 : Heap) (locs1 : List Loc) (hP1 : va_P D vwCl (fl [gW T ga gb f (nI n) (nI 0) (nI 0)]) H1) (hD1 : va_D A (fl [gW T ga gb f (nI n) (nI 0) (nI 0)])) hS1 => ?_)
    clear hP0 hD0 hS0
    refine lv_aload_n hx hb dX2_canTake_37 rfl (lv_at hl0 0 rfl) ?_
    refine lv_iconst (v := nI 1) hx hb dX2_canTake_38 (by decide) ?_
    refine r_put (own := RX2) (C := RX2) (F := TX2) (N := 4) (ci := 2) (v := nI 1) hx hb hK hts in_X2 tyX2 tyX2_ok nmX2 hown hP1 hD1 hS1 0 rfl rfl 2 (by decide) kw_168 rfl rfl (Nat.le_of_ble_eq_true rfl) dX2_canTake_39 (fun (H2 : Heap) (locs2 : List Loc) (hP2 : va_P D vwCl (fl [gW T ga gb f (nI n) (nI 1) (nI 0)]) H2) (hD2 : va_D A (fl [gW T ga gb f (nI n) (nI 1) (nI 0)])) hS2 => ?_)
    clear hP1 hD1 hS1
    refine lv_iload_n hx hb dX2_canTake_42 rfl (lv_at hl0 1 rfl) ?_
    have hPc3 : va_P D vwCl (fl []) _ := hP2.sub [] rfl
    refine cr_i (va_runS (As := [.int x]) (rest := []) ⟨hx, hb, hml, hown, hts⟩ (c_X2_isCrew l D T x ) (mkS hts okX2_isCrew kw_215 kw_216 ⟨rfl, rfl, Nat.le_of_ble_eq_true rfl, Nat.le_of_ble_eq_true rfl⟩) (ps_ro hK hPc3) rfl rfl hl0.1 rfl (lv_room (Nat.le_of_ble_eq_true rfl)) dX2_canTake_43 ⟨Nat.le_of_ble_eq_true rfl, Nat.le_of_ble_eq_true rfl⟩) hP2 hS2 (fun r_43 H4 locs4 hq_43 hP4 hS4 => ?_)
    clear hP2 hS2 hPc3
    have hD4 := hD2
    clear hD2
    have hq_43 : r_43 = bI (isCr x) := hq_43
    subst hq_43
    refine ret_z (b := (isCr x)) rfl hTG (Nat.le_refl _) (Nat.le_refl _) hx hb hr hlocks ((1, 0)) hP4 hD4 hS4 [0] rfl (by decide) dX2_canTake_46 ?_
    exact ⟨rfl, rfl, rfl⟩
  · skip
    refine lv_aload_n hx hb dX2_canTake_0 rfl (lv_at hl0 0 rfl) ?_
    refine r_get (own := RX2) (C := RX2) (F := TX2) (N := 4) (ci := 2) (v := .int (nI 1)) hx hb hK hts in_X2 hown hP0 0 rfl rfl 2 (by decide) kw_168 rfl dX2_canTake_1 ?_
    refine lv_tableIn (tgt := 47) hx hb dX2_canTake_4 (by decide) (by decide) rfl (by decide) ?_
    refine lv_aload_n hx hb dX2_canTake_47 rfl (lv_at hl0 0 rfl) ?_
    refine lv_dup hx hb dX2_canTake_48 rfl ?_
    refine r_get (own := RX2) (C := RX2) (F := TX2) (N := 4) (ci := 2) (v := .int (nI ps)) hx hb hK hts in_X2 hown hP0 0 rfl rfl 3 (by decide) kw_169 rfl dX2_canTake_49 ?_
    refine lv_iconst (v := nI 1) hx hb dX2_canTake_52 (by decide) ?_
    refine lv_iadd hx hb dX2_canTake_53 ?_
    refine tp_i (y := nI (ps + 1)) (nI_add _ _) ?_
    refine r_put (own := RX2) (C := RX2) (F := TX2) (N := 4) (ci := 2) (v := nI (ps + 1)) hx hb hK hts in_X2 tyX2 tyX2_ok nmX2 hown hP0 hD0 hS0 0 rfl rfl 3 (by decide) kw_169 rfl rfl (Nat.le_of_ble_eq_true rfl) dX2_canTake_54 (fun (H5 : Heap) (locs5 : List Loc) (hP5 : va_P D vwCl (fl [gW T ga gb f (nI n) (nI 1) (nI (ps + 1))]) H5) (hD5 : va_D A (fl [gW T ga gb f (nI n) (nI 1) (nI (ps + 1))])) hS5 => ?_)
    clear hP0 hD0 hS0
    refine lv_aload_n hx hb dX2_canTake_57 rfl (lv_at hl0 0 rfl) ?_
    refine lv_iload_n hx hb dX2_canTake_58 rfl (lv_at hl0 1 rfl) ?_
    refine lv_bipush (v := nI 49) hx hb dX2_canTake_59 (by decide) ?_
    refine lv_icmp_ne (tgt := 68) hx hb dX2_canTake_61 (by decide) (fun c_61 => ?_) (fun c_61 => ?_)
    · skip
      refine lv_iconst (v := nI 3) hx hb dX2_canTake_68 (by decide) ?_
      refine r_put (own := RX2) (C := RX2) (F := TX2) (N := 4) (ci := 2) (v := nI 3) hx hb hK hts in_X2 tyX2 tyX2_ok nmX2 hown hP5 hD5 hS5 0 rfl rfl 2 (by decide) kw_168 rfl rfl (Nat.le_of_ble_eq_true rfl) dX2_canTake_69 (fun (H7 : Heap) (locs7 : List Loc) (hP7 : va_P D vwCl (fl [gW T ga gb f (nI n) (nI 3) (nI (ps + 1))]) H7) (hD7 : va_D A (fl [gW T ga gb f (nI n) (nI 3) (nI (ps + 1))])) hS7 => ?_)
      clear hP5 hD5 hS5
      refine lv_iload_n hx hb dX2_canTake_72 rfl (lv_at hl0 1 rfl) ?_
      have hPc8 : va_P D vwCl (fl []) _ := hP7.sub [] rfl
      refine cr_i (va_runS (As := [.int x]) (rest := []) ⟨hx, hb, hml, hown, hts⟩ (c_X2_isDigit l D T x ) (mkS hts okX2_isDigit kw_218 kw_219 ⟨rfl, rfl, Nat.le_of_ble_eq_true rfl, Nat.le_of_ble_eq_true rfl⟩) (ps_ro hK hPc8) rfl rfl hl0.1 rfl (lv_room (Nat.le_of_ble_eq_true rfl)) dX2_canTake_73 ⟨Nat.le_of_ble_eq_true rfl, Nat.le_of_ble_eq_true rfl⟩) hP7 hS7 (fun r_73 H9 locs9 hq_73 hP9 hS9 => ?_)
      clear hP7 hS7 hPc8
      have hD9 := hD7
      clear hD7
      have hq_73 : r_73 = bI (isDg x) := hq_73
      subst hq_73
      refine ret_z (b := (isDg x)) rfl hTG (Nat.le_refl _) (Nat.le_refl _) hx hb hr hlocks ((3, ps + 1)) hP9 hD9 hS9 [0] rfl (by decide) dX2_canTake_76 ?_
      exact ⟨rfl, by simp only [tkP, c_61, if_true, ↓reduceIte] <;> rfl, rfl⟩
    · skip
      refine lv_iconst (v := nI 2) hx hb dX2_canTake_64 (by decide) ?_
      refine lv_goto (tgt := 69) hx hb dX2_canTake_65 (by decide) ?_
      refine r_put (own := RX2) (C := RX2) (F := TX2) (N := 4) (ci := 2) (v := nI 2) hx hb hK hts in_X2 tyX2 tyX2_ok nmX2 hown hP5 hD5 hS5 0 rfl rfl 2 (by decide) kw_168 rfl rfl (Nat.le_of_ble_eq_true rfl) dX2_canTake_69 (fun (H10 : Heap) (locs10 : List Loc) (hP10 : va_P D vwCl (fl [gW T ga gb f (nI n) (nI 2) (nI (ps + 1))]) H10) (hD10 : va_D A (fl [gW T ga gb f (nI n) (nI 2) (nI (ps + 1))])) hS10 => ?_)
      clear hP5 hD5 hS5
      refine lv_iload_n hx hb dX2_canTake_72 rfl (lv_at hl0 1 rfl) ?_
      have hPc11 : va_P D vwCl (fl []) _ := hP10.sub [] rfl
      refine cr_i (va_runS (As := [.int x]) (rest := []) ⟨hx, hb, hml, hown, hts⟩ (c_X2_isDigit l D T x ) (mkS hts okX2_isDigit kw_218 kw_219 ⟨rfl, rfl, Nat.le_of_ble_eq_true rfl, Nat.le_of_ble_eq_true rfl⟩) (ps_ro hK hPc11) rfl rfl hl0.1 rfl (lv_room (Nat.le_of_ble_eq_true rfl)) dX2_canTake_73 ⟨Nat.le_of_ble_eq_true rfl, Nat.le_of_ble_eq_true rfl⟩) hP10 hS10 (fun r_73 H12 locs12 hq_73 hP12 hS12 => ?_)
      clear hP10 hS10 hPc11
      have hD12 := hD10
      clear hD10
      have hq_73 : r_73 = bI (isDg x) := hq_73
      subst hq_73
      refine ret_z (b := (isDg x)) rfl hTG (Nat.le_refl _) (Nat.le_refl _) hx hb hr hlocks ((2, ps + 1)) hP12 hD12 hS12 [0] rfl (by decide) dX2_canTake_76 ?_
      exact ⟨rfl, by simp only [tkP, c_61, if_true, ↓reduceIte] <;> rfl, rfl⟩
  · skip
    refine lv_aload_n hx hb dX2_canTake_0 rfl (lv_at hl0 0 rfl) ?_
    refine r_get (own := RX2) (C := RX2) (F := TX2) (N := 4) (ci := 2) (v := .int (nI 2)) hx hb hK hts in_X2 hown hP0 0 rfl rfl 2 (by decide) kw_168 rfl dX2_canTake_1 ?_
    refine lv_tableIn (tgt := 77) hx hb dX2_canTake_4 (by decide) (by decide) rfl (by decide) ?_
    refine lv_iload_n hx hb dX2_canTake_77 rfl (lv_at hl0 1 rfl) ?_
    refine lv_bipush (v := nI 48) hx hb dX2_canTake_78 (by decide) ?_
    refine lv_icmp_eq (tgt := 89) hx hb dX2_canTake_80 (by decide) (fun c_80 => ?_) (fun c_80 => ?_)
    · skip
      refine lv_aload_n hx hb dX2_canTake_89 rfl (lv_at hl0 0 rfl) ?_
      refine lv_iconst (v := nI 3) hx hb dX2_canTake_90 (by decide) ?_
      refine r_put (own := RX2) (C := RX2) (F := TX2) (N := 4) (ci := 2) (v := nI 3) hx hb hK hts in_X2 tyX2 tyX2_ok nmX2 hown hP0 hD0 hS0 0 rfl rfl 2 (by decide) kw_168 rfl rfl (Nat.le_of_ble_eq_true rfl) dX2_canTake_91 (fun (H14 : Heap) (locs14 : List Loc) (hP14 : va_P D vwCl (fl [gW T ga gb f (nI n) (nI 3) (nI ps)]) H14) (hD14 : va_D A (fl [gW T ga gb f (nI n) (nI 3) (nI ps)])) hS14 => ?_)
      clear hP0 hD0 hS0
      refine lv_iconst (v := nI 1) hx hb dX2_canTake_94 (by decide) ?_
      refine ret_z (b := true) rfl hTG (Nat.le_refl _) (Nat.le_refl _) hx hb hr hlocks ((3, ps)) hP14 hD14 hS14 [0] rfl (by decide) dX2_canTake_95 ?_
      exact ⟨by simp only [tkB, c_80, if_true, ↓reduceIte] <;> rfl, by simp only [tkP, c_80, if_true, ↓reduceIte] <;> rfl, rfl⟩
    · skip
      refine lv_iload_n hx hb dX2_canTake_83 rfl (lv_at hl0 1 rfl) ?_
      refine lv_bipush (v := nI 49) hx hb dX2_canTake_84 (by decide) ?_
      refine lv_icmp_ne (tgt := 96) hx hb dX2_canTake_86 (by decide) (fun c_86 => ?_) (fun c_86 => ?_)
      · skip
        refine lv_aload_n hx hb dX2_canTake_96 rfl (lv_at hl0 0 rfl) ?_
        refine lv_iload_n hx hb dX2_canTake_97 rfl (lv_at hl0 1 rfl) ?_
        have hPc16 : va_P D vwCl (fl [gW T ga gb f (nI n) (nI 2) (nI ps)]) _ := flP_sub hP0 [0] rfl
        have hDc16 : va_D A (fl [gW T ga gb f (nI n) (nI 2) (nI ps)]) := flD_sub hD0 [0] (by decide) rfl
        refine cl_i (br := []) (va_runV (As := [.int x]) (rest := []) ⟨hx, hb, hml, hown, hts⟩ (c_X2_canSeparate l D T ga gb f n 2 ps x (by omega) _) (mkV hts okX2_canSeparate kw_221 kw_223 ks_1 ⟨rfl, rfl, Nat.le_of_ble_eq_true rfl, Nat.le_of_ble_eq_true rfl⟩) (pv_rw hK hPc16 hDc16 (q0 := 0) rfl rfl rfl) rfl rfl hl0.1 rfl (lv_room (Nat.le_of_ble_eq_true rfl)) dX2_canTake_98 ⟨Nat.le_of_ble_eq_true rfl, Nat.le_of_ble_eq_true rfl⟩) hP0 hD0 hS0 hA [] [0] rfl (by decide) (fun r_98 u_98 H17 locs17 hq_98 hP17 hD17 hS17 => ?_)
        clear hP0 hD0 hS0 hPc16 hDc16
        obtain ⟨pl2_98, ps2_98⟩ := u_98
        have hP17 : va_P D vwCl (fl [gW T ga gb f (nI n) (nI pl2_98) (nI ps2_98)]) _ := hP17
        have hD17 : va_D A (fl [gW T ga gb f (nI n) (nI pl2_98) (nI ps2_98)]) := hD17
        obtain ⟨hr_98, hq_98⟩ : r_98 = bI (sepB ps x) ∧ (pl2_98 = sepP x ∧ ps2_98 = ps) := hq_98
        subst hr_98
        refine ret_z (b := (sepB ps x)) rfl hTG (Nat.le_refl _) (Nat.le_refl _) hx hb hr hlocks ((pl2_98, ps2_98)) hP17 hD17 hS17 [0] rfl (by decide) dX2_canTake_101 ?_
        obtain ⟨e1, e2⟩ := hq_98
        exact ⟨by simp only [tkB, c_80, c_86, if_true, ↓reduceIte] <;> rfl, by rw [e1]; simp only [tkP, c_80, c_86, if_true, ↓reduceIte] <;> rfl, by rw [e2]; rfl⟩
      · skip
        refine lv_aload_n hx hb dX2_canTake_89 rfl (lv_at hl0 0 rfl) ?_
        refine lv_iconst (v := nI 3) hx hb dX2_canTake_90 (by decide) ?_
        refine r_put (own := RX2) (C := RX2) (F := TX2) (N := 4) (ci := 2) (v := nI 3) hx hb hK hts in_X2 tyX2 tyX2_ok nmX2 hown hP0 hD0 hS0 0 rfl rfl 2 (by decide) kw_168 rfl rfl (Nat.le_of_ble_eq_true rfl) dX2_canTake_91 (fun (H18 : Heap) (locs18 : List Loc) (hP18 : va_P D vwCl (fl [gW T ga gb f (nI n) (nI 3) (nI ps)]) H18) (hD18 : va_D A (fl [gW T ga gb f (nI n) (nI 3) (nI ps)])) hS18 => ?_)
        clear hP0 hD0 hS0
        refine lv_iconst (v := nI 1) hx hb dX2_canTake_94 (by decide) ?_
        refine ret_z (b := true) rfl hTG (Nat.le_refl _) (Nat.le_refl _) hx hb hr hlocks ((3, ps)) hP18 hD18 hS18 [0] rfl (by decide) dX2_canTake_95 ?_
        exact ⟨by simp only [tkB, c_80, c_86, if_true, ↓reduceIte] <;> rfl, by simp only [tkP, c_80, c_86, if_true, ↓reduceIte] <;> rfl, rfl⟩
  · skip
    refine lv_aload_n hx hb dX2_canTake_0 rfl (lv_at hl0 0 rfl) ?_
    refine r_get (own := RX2) (C := RX2) (F := TX2) (N := 4) (ci := 2) (v := .int (nI 3)) hx hb hK hts in_X2 hown hP0 0 rfl rfl 2 (by decide) kw_168 rfl dX2_canTake_1 ?_
    refine lv_tableOut (tgt := 102) hx hb dX2_canTake_4 (by decide) (by decide) ?_
    refine lv_aload_n hx hb dX2_canTake_102 rfl (lv_at hl0 0 rfl) ?_
    refine lv_iload_n hx hb dX2_canTake_103 rfl (lv_at hl0 1 rfl) ?_
    have hPc19 : va_P D vwCl (fl [gW T ga gb f (nI n) (nI 3) (nI ps)]) _ := flP_sub hP0 [0] rfl
    have hDc19 : va_D A (fl [gW T ga gb f (nI n) (nI 3) (nI ps)]) := flD_sub hD0 [0] (by decide) rfl
    refine cl_i (br := []) (va_runV (As := [.int x]) (rest := []) ⟨hx, hb, hml, hown, hts⟩ (c_X2_canSeparate l D T ga gb f n 3 ps x (by omega) _) (mkV hts okX2_canSeparate kw_221 kw_223 ks_1 ⟨rfl, rfl, Nat.le_of_ble_eq_true rfl, Nat.le_of_ble_eq_true rfl⟩) (pv_rw hK hPc19 hDc19 (q0 := 0) rfl rfl rfl) rfl rfl hl0.1 rfl (lv_room (Nat.le_of_ble_eq_true rfl)) dX2_canTake_104 ⟨Nat.le_of_ble_eq_true rfl, Nat.le_of_ble_eq_true rfl⟩) hP0 hD0 hS0 hA [] [0] rfl (by decide) (fun r_104 u_104 H20 locs20 hq_104 hP20 hD20 hS20 => ?_)
    clear hP0 hD0 hS0 hPc19 hDc19
    obtain ⟨pl2_104, ps2_104⟩ := u_104
    have hP20 : va_P D vwCl (fl [gW T ga gb f (nI n) (nI pl2_104) (nI ps2_104)]) _ := hP20
    have hD20 : va_D A (fl [gW T ga gb f (nI n) (nI pl2_104) (nI ps2_104)]) := hD20
    obtain ⟨hr_104, hq_104⟩ : r_104 = bI (sepB ps x) ∧ (pl2_104 = sepP x ∧ ps2_104 = ps) := hq_104
    subst hr_104
    refine ret_z (b := (sepB ps x)) rfl hTG (Nat.le_refl _) (Nat.le_refl _) hx hb hr hlocks ((pl2_104, ps2_104)) hP20 hD20 hS20 [0] rfl (by decide) dX2_canTake_107 ?_
    obtain ⟨e1, e2⟩ := hq_104
    exact ⟨rfl, by rw [e1]; rfl, by rw [e2]; rfl⟩
set_option maxHeartbeats 4000000 in
set_option maxRecDepth 100000 in
theorem c_X2_findError (l : Launch) (D : va_G) (T : TI) (ga : Nat) (gb : Nat) (f : Nat → Int32) (n : Nat) (pl : Nat) (ps : Nat) (hps : ps < 500) (hn : n ≤ 60) : CI l yX2_findError cX2_findError 2 .int (rmD 2 0 0) D T [.ref ga] [gW T ga gb f (nI n) (nI pl) (nI ps)] 0 0 (β := Nat × Nat) (fun ⟨pl2, ps2⟩ => [gW T ga gb f (nI n) (nI pl2) (nI ps2)]) (fun (r : Int32) ⟨pl2, ps2⟩ => r = nI (erT f ps n) ∧ ((erT f ps n = n → pl2 = (stT f ps n).1) ∧ pl2 ≤ 3 ∧ (ps ≤ 61 → ps2 ≤ 61))) := by
  intro sz
  refine met_rw (Qc := fun A => va_Qi _ (PST D _ A) A) rfl (Nat.le_of_ble_eq_true rfl) ?_
  intro pX eX sX mX bX mtX cX A hAe hC hA hP0 hD0 hS0 ls0 hl0 TG hTG
  clear hAe
  obtain ⟨hx, hb, hr, hml, hown, hts, hlocks, hin, hK⟩ := hC
  have hown : sX.vm.findClass RX2 = some mX.cls := hown
  have hl0 : lv_has ls0 2 [(0, .ref ga)] := hl0
  refine lv_aload_n hx hb dX2_findError_0 rfl (lv_at hl0 0 rfl) ?_
  refine lv_iconst (v := nI 0) hx hb dX2_findError_1 (by decide) ?_
  refine r_put (own := RX2) (C := RX2) (F := TX2) (N := 4) (ci := 2) (v := nI 0) hx hb hK hts in_X2 tyX2 tyX2_ok nmX2 hown hP0 hD0 hS0 0 rfl rfl 2 (by decide) kw_168 rfl rfl (Nat.le_of_ble_eq_true rfl) dX2_findError_2 (fun (H1 : Heap) (locs1 : List Loc) (hP1 : va_P D vwCl (fl [gW T ga gb f (nI n) (nI 0) (nI ps)]) H1) (hD1 : va_D A (fl [gW T ga gb f (nI n) (nI 0) (nI ps)])) hS1 => ?_)
  clear hP0 hD0 hS0
  refine lv_iconst (v := nI 0) hx hb dX2_findError_5 (by decide) ?_
  refine lv_istore_n (lv' := [(1, .int (nI 0)), (0, .ref ga)]) hx hb dX2_findError_6 rfl hl0 (by decide) rfl (fun ls2 hl2 => ?_)
  clear hl0
  have loop7 : ∀ (n_ : Nat) (i : Nat) (p1 : Nat) (s1 : Nat), (i ≤ n) → ((p1, s1) = stT f ps i) → (erT f ps i = i) → (n - i) < n_ → ∀ (H : Heap) (locs : List Loc), va_P D vwCl (fl [gW T ga gb f (nI n) (nI p1) (nI s1)]) H → va_D A (fl [gW T ga gb f (nI n) (nI p1) (nI s1)]) → va_S A sX.heap H locs → ∀ ls : Array Slot, lv_has ls 2 [(0, .ref ga), (1, .int (nI i))] → W pX l eX (rmD 2 0 0) sX mX ([.ref ga] : List Value).toArray bX mtX cX H locs 0 0 TG (F0 mX 7 ls []) := by
    intro n_
    induction n_ with
    | zero => intro i p1 s1 hi hst her hmu_ ; exact absurd hmu_ (Nat.not_lt_zero _)
    | succ n_ ih7 =>
      intro i p1 s1 hi hst her hmu_7 H4 locs4 hP4 hD4 hS4 ls4 hl4
      have hb1 := stT_le f ps i
      have hb2 := stT_2 f ps i
      rw [← hst] at hb1 hb2
      dsimp only at hb1 hb2
      refine lv_iload_n hx hb dX2_findError_7 rfl (lv_at hl4 1 rfl) ?_
      refine lv_aload_n hx hb dX2_findError_8 rfl (lv_at hl4 0 rfl) ?_
      refine r_get (own := RX2) (C := RX2) (F := TX2) (N := 4) (ci := 2) (v := .int (nI n)) hx hb hK hts in_X2 hown hP4 0 rfl rfl 1 (by decide) kw_166 rfl dX2_findError_9 ?_
      refine n_icmp_ge (tgt := 42) hx hb (by omega) (by omega) dX2_findError_12 (by decide) (fun c_12 => ?_) (fun c_12 => ?_)
      · skip
        refine lv_aload_n hx hb dX2_findError_42 rfl (lv_at hl4 0 rfl) ?_
        refine r_get (own := RX2) (C := RX2) (F := TX2) (N := 4) (ci := 2) (v := .int (nI n)) hx hb hK hts in_X2 hown hP4 0 rfl rfl 1 (by decide) kw_166 rfl dX2_findError_43 ?_
        refine ret_i hTG (Nat.le_refl _) (Nat.le_refl _) hx hb hr hlocks ((p1, s1)) hP4 hD4 hS4 [0] rfl (by decide) dX2_findError_46 ?_
        have hi2 : i = n := by omega
        subst hi2
        have hb5 := fun h => stT_b f (ps := ps) h i (by omega)
        rw [← hst] at hb5
        dsimp only at hb5
        exact ⟨by rw [her], fun _ => by rw [← hst], by omega, hb5⟩
      · skip
        refine lv_iload_n hx hb dX2_findError_15 rfl (lv_at hl4 1 rfl) ?_
        refine lv_bipush (v := nI 60) hx hb dX2_findError_16 (by decide) ?_
        refine n_icmp_ge (tgt := 42) hx hb (by omega) (by omega) dX2_findError_18 (by decide) (fun c6 => absurd c6 (by omega)) (fun c6 => ?_)
        refine lv_aload_n hx hb dX2_findError_21 rfl (lv_at hl4 0 rfl) ?_
        refine lv_aload_n hx hb dX2_findError_22 rfl (lv_at hl4 0 rfl) ?_
        refine r_get (own := RX2) (C := RX2) (F := TX2) (N := 4) (ci := 2) (v := .ref gb) hx hb hK hts in_X2 hown hP4 0 rfl rfl 0 (by decide) kw_164 rfl dX2_findError_23 ?_
        refine lv_iload_n hx hb dX2_findError_26 rfl (lv_at hl4 1 rfl) ?_
        refine r_iald hx hb hK hP4 1 (f := f) (n := 60) rfl i (by decide) dX2_findError_27 (by omega) ?_
        have hPc7 : va_P D vwCl (fl [gW T ga gb f (nI n) (nI p1) (nI s1)]) _ := flP_sub hP4 [0] rfl
        have hDc7 : va_D A (fl [gW T ga gb f (nI n) (nI p1) (nI s1)]) := flD_sub hD4 [0] (by decide) rfl
        refine cl_i (br := []) (va_runV (As := [.int (f i)]) (rest := []) ⟨hx, hb, hml, hown, hts⟩ (c_X2_canTake l D T ga gb f n p1 s1 (f i) (by omega) (by omega) _) (mkV hts okX2_canTake kw_211 kw_213 ks_0 ⟨rfl, rfl, Nat.le_of_ble_eq_true rfl, Nat.le_of_ble_eq_true rfl⟩) (pv_rw hK hPc7 hDc7 (q0 := 0) rfl rfl rfl) rfl rfl hl4.1 rfl (lv_room (Nat.le_of_ble_eq_true rfl)) dX2_findError_28 ⟨Nat.le_of_ble_eq_true rfl, Nat.le_of_ble_eq_true rfl⟩) hP4 hD4 hS4 hA [] [0] rfl (by decide) (fun r_28 u_28 H8 locs8 hq_28 hP8 hD8 hS8 => ?_)
        clear hP4 hD4 hS4 hPc7 hDc7
        obtain ⟨pl2_28, ps2_28⟩ := u_28
        have hP8 : va_P D vwCl (fl [gW T ga gb f (nI n) (nI pl2_28) (nI ps2_28)]) _ := hP8
        have hD8 : va_D A (fl [gW T ga gb f (nI n) (nI pl2_28) (nI ps2_28)]) := hD8
        obtain ⟨hr_28, hq_28⟩ : r_28 = bI (tkB p1 s1 (f i)) ∧ (pl2_28 = tkP p1 (f i) ∧ ps2_28 = tkS p1 s1) := hq_28
        subst hr_28
        refine z_if_ne (tgt := 36) hx hb dX2_findError_31 (by decide) (fun c_31 => ?_) (fun c_31 => ?_)
        · skip
          refine lv_iinc (v := nI (i + 1)) (lv' := [(1, .int (nI (i + 1))), (0, .ref ga)]) hx hb dX2_findError_36 hl4 (k := 1) rfl (nI_add i 1) (by decide) rfl (fun ls10 hl10 => ?_)
          clear hl4
          refine lv_goto (tgt := 7) hx hb dX2_findError_39 (by decide) ?_
          obtain ⟨e1, e2⟩ := hq_28
          have hst2 : (pl2_28, ps2_28) = stT f ps (i + 1) := by rw [stT, ← hst, e1, e2]
          have her2 : erT f ps (i + 1) = i + 1 := erT_s her (by rw [← hst]; exact c_31)
          exact ih7 (i + 1) pl2_28 ps2_28 (by omega) (hst2) (her2) (by omega) _ _ hP8 hD8 hS8 _ (lv_sub hl10 [1, 0] rfl)
        · skip
          refine lv_iload_n hx hb dX2_findError_34 rfl (lv_at hl4 1 rfl) ?_
          refine ret_i hTG (Nat.le_refl _) (Nat.le_refl _) hx hb hr hlocks ((pl2_28, ps2_28)) hP8 hD8 hS8 [0] rfl (by decide) dX2_findError_35 ?_
          obtain ⟨e1, e2⟩ := hq_28
          have hx2 := erT_x her (by rw [← hst]; exact c_31) n (by omega)
          have hb3 := stT_le f ps (i + 1)
          have hb4 := stT_2 f ps (i + 1)
          have hst2 : (pl2_28, ps2_28) = stT f ps (i + 1) := by rw [stT, ← hst, e1, e2]
          have hb5 := fun h => stT_b f (ps := ps) h (i + 1) (by omega)
          rw [← hst2] at hb3 hb4 hb5
          dsimp only at hb3 hb4 hb5
          exact ⟨by rw [hx2], by rw [hx2]; omega, by omega, hb5⟩
  exact loop7 ((n - 0) + 1) 0 0 ps (by omega) (rfl) (rfl) (Nat.lt_succ_self _) _ _ hP1 hD1 hS1 _ (lv_sub hl2 [1, 0] rfl)
set_option maxHeartbeats 4000000 in
set_option maxRecDepth 100000 in
theorem c_X2_isComplete (l : Launch) (D : va_G) (T : TI) (ga : Nat) (gb : Nat) (f : Nat → Int32) (n : Nat) (pl : Nat) (ps : Nat) (hps : ps < 500) (hn : n ≤ 60) : CI l yX2_isComplete cX2_isComplete 1 .boolean (rmD 3 0 0) D T [.ref ga] [gW T ga gb f (nI n) (nI pl) (nI ps)] 0 0 (β := Nat × Nat) (fun ⟨pl2, ps2⟩ => [gW T ga gb f (nI n) (nI pl2) (nI ps2)]) (fun (r : Int32) ⟨pl2, ps2⟩ => r = bI (cmB f ps n) ∧ (pl2 ≤ 3 ∧ (ps ≤ 61 → ps2 ≤ 61))) := by
  intro sz
  refine met_rw (Qc := fun A => va_Qi _ (PST D _ A) A) rfl (Nat.le_of_ble_eq_true rfl) ?_
  intro pX eX sX mX bX mtX cX A hAe hC hA hP0 hD0 hS0 ls0 hl0 TG hTG
  clear hAe
  obtain ⟨hx, hb, hr, hml, hown, hts, hlocks, hin, hK⟩ := hC
  have hown : sX.vm.findClass RX2 = some mX.cls := hown
  have hl0 : lv_has ls0 1 [(0, .ref ga)] := hl0
  refine lv_aload_n hx hb dX2_isComplete_0 rfl (lv_at hl0 0 rfl) ?_
  have hPc1 : va_P D vwCl (fl [gW T ga gb f (nI n) (nI pl) (nI ps)]) _ := flP_sub hP0 [0] rfl
  have hDc1 : va_D A (fl [gW T ga gb f (nI n) (nI pl) (nI ps)]) := flD_sub hD0 [0] (by decide) rfl
  refine cl_i (br := []) (va_runV (As := []) (rest := []) ⟨hx, hb, hml, hown, hts⟩ (c_X2_findError l D T ga gb f n pl ps (by omega) (by omega) _) (mkV hts okX2_findError kw_609 kw_208 kw_209 ⟨rfl, rfl, Nat.le_of_ble_eq_true rfl, Nat.le_of_ble_eq_true rfl⟩) (pv_rw hK hPc1 hDc1 (q0 := 0) rfl rfl rfl) rfl rfl hl0.1 rfl (lv_room (Nat.le_of_ble_eq_true rfl)) dX2_isComplete_1 ⟨Nat.le_of_ble_eq_true rfl, Nat.le_of_ble_eq_true rfl⟩) hP0 hD0 hS0 hA [] [0] rfl (by decide) (fun r_1 u_1 H2 locs2 hq_1 hP2 hD2 hS2 => ?_)
  clear hP0 hD0 hS0 hPc1 hDc1
  obtain ⟨pl2_1, ps2_1⟩ := u_1
  have hP2 : va_P D vwCl (fl [gW T ga gb f (nI n) (nI pl2_1) (nI ps2_1)]) _ := hP2
  have hD2 : va_D A (fl [gW T ga gb f (nI n) (nI pl2_1) (nI ps2_1)]) := hD2
  obtain ⟨hr_1, hq_1⟩ : r_1 = nI (erT f ps n) ∧ ((erT f ps n = n → pl2_1 = (stT f ps n).1) ∧ pl2_1 ≤ 3 ∧ (ps ≤ 61 → ps2_1 ≤ 61)) := hq_1
  subst hr_1
  obtain ⟨e1, e2, e3⟩ := hq_1
  have hel := erT_le f ps n
  refine lv_aload_n hx hb dX2_isComplete_4 rfl (lv_at hl0 0 rfl) ?_
  refine r_get (own := RX2) (C := RX2) (F := TX2) (N := 4) (ci := 2) (v := .int (nI n)) hx hb hK hts in_X2 hown hP2 0 rfl rfl 1 (by decide) kw_166 rfl dX2_isComplete_5 ?_
  refine n_icmp_ne (tgt := 31) hx hb (by omega) (by omega) dX2_isComplete_8 (by decide) (fun c_8 => ?_) (fun c_8 => ?_)
  · skip
    refine lv_iconst (v := nI 0) hx hb dX2_isComplete_31 (by decide) ?_
    refine ret_z (b := false) rfl hTG (Nat.le_refl _) (Nat.le_refl _) hx hb hr hlocks ((pl2_1, ps2_1)) hP2 hD2 hS2 [0] rfl (by decide) dX2_isComplete_32 ?_
    refine ⟨?_, e2, e3⟩
    unfold cmB
    by_cases hn2 : erT f ps n = n
    · have e4 := e1 hn2
      rw [← e4]
      simp_all
    · simp_all
  · skip
    refine lv_aload_n hx hb dX2_isComplete_11 rfl (lv_at hl0 0 rfl) ?_
    refine r_get (own := RX2) (C := RX2) (F := TX2) (N := 4) (ci := 2) (v := .int (nI pl2_1)) hx hb hK hts in_X2 hown hP2 0 rfl rfl 2 (by decide) kw_168 rfl dX2_isComplete_12 ?_
    refine lv_iconst (v := nI 2) hx hb dX2_isComplete_15 (by decide) ?_
    refine n_icmp_eq (tgt := 27) hx hb (by omega) (by omega) dX2_isComplete_16 (by decide) (fun c_16 => ?_) (fun c_16 => ?_)
    · skip
      refine lv_iconst (v := nI 1) hx hb dX2_isComplete_27 (by decide) ?_
      refine lv_goto (tgt := 32) hx hb dX2_isComplete_28 (by decide) ?_
      refine ret_z (b := true) rfl hTG (Nat.le_refl _) (Nat.le_refl _) hx hb hr hlocks ((pl2_1, ps2_1)) hP2 hD2 hS2 [0] rfl (by decide) dX2_isComplete_32 ?_
      refine ⟨?_, e2, e3⟩
      unfold cmB
      by_cases hn2 : erT f ps n = n
      · have e4 := e1 hn2
        rw [← e4]
        simp_all
      · simp_all
    · skip
      refine lv_aload_n hx hb dX2_isComplete_19 rfl (lv_at hl0 0 rfl) ?_
      refine r_get (own := RX2) (C := RX2) (F := TX2) (N := 4) (ci := 2) (v := .int (nI pl2_1)) hx hb hK hts in_X2 hown hP2 0 rfl rfl 2 (by decide) kw_168 rfl dX2_isComplete_20 ?_
      refine lv_iconst (v := nI 3) hx hb dX2_isComplete_23 (by decide) ?_
      refine n_icmp_ne (tgt := 31) hx hb (by omega) (by omega) dX2_isComplete_24 (by decide) (fun c_24 => ?_) (fun c_24 => ?_)
      · skip
        refine lv_iconst (v := nI 0) hx hb dX2_isComplete_31 (by decide) ?_
        refine ret_z (b := false) rfl hTG (Nat.le_refl _) (Nat.le_refl _) hx hb hr hlocks ((pl2_1, ps2_1)) hP2 hD2 hS2 [0] rfl (by decide) dX2_isComplete_32 ?_
        refine ⟨?_, e2, e3⟩
        unfold cmB
        by_cases hn2 : erT f ps n = n
        · have e4 := e1 hn2
          rw [← e4]
          simp_all
        · simp_all
      · skip
        refine lv_iconst (v := nI 1) hx hb dX2_isComplete_27 (by decide) ?_
        refine lv_goto (tgt := 32) hx hb dX2_isComplete_28 (by decide) ?_
        refine ret_z (b := true) rfl hTG (Nat.le_refl _) (Nat.le_refl _) hx hb hr hlocks ((pl2_1, ps2_1)) hP2 hD2 hS2 [0] rfl (by decide) dX2_isComplete_32 ?_
        refine ⟨?_, e2, e3⟩
        unfold cmB
        by_cases hn2 : erT f ps n = n
        · have e4 := e1 hn2
          rw [← e4]
          simp_all
        · simp_all
