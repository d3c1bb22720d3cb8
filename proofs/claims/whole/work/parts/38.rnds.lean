/-! the rounds that were told, onto a row -/
def rdN (a told : Nat → Int32) (m : Nat) : Nat → Int32 := fun x => if 84 ≤ x ∧ x < 84 + m ∧ ¬ told (9 * ((x - 84) / 9)) ≤ 0 then told (x - 84) else a x
theorem rdN_0 (a told : Nat → Int32) : rdN a told 0 = a := by
  funext x; unfold rdN; rw [if_neg (by omega)]
theorem rdN_s {a told : Nat → Int32} {k j : Nat} (hj : j < 9) (h : ¬ told (9 * k) ≤ 0) : upd (rdN a told (9 * k + j)) (84 + 9 * k + j) (told (9 * k + j)) = rdN a told (9 * k + (j + 1)) := by
  funext x
  by_cases e : x = 84 + 9 * k + j
  · subst e
    rw [pk_us]
    unfold rdN
    rw [show (84 + 9 * k + j - 84) / 9 = k by omega, if_pos ⟨by omega, by omega, h⟩, show 84 + 9 * k + j - 84 = 9 * k + j by omega]
  · rw [pk_un e]
    unfold rdN
    by_cases q : 84 ≤ x ∧ x < 84 + (9 * k + j) ∧ ¬ told (9 * ((x - 84) / 9)) ≤ 0
    · rw [if_pos q, if_pos ⟨q.1, by omega, q.2.2⟩]
    · rw [if_neg q, if_neg (fun z => q ⟨z.1, by omega, z.2.2⟩)]
theorem rdN_no {a told : Nat → Int32} {k : Nat} (h : told (9 * k) ≤ 0) {j : Nat} (hj : j ≤ 9) : rdN a told (9 * k + j) = rdN a told (9 * (k + 1)) := by
  funext x
  unfold rdN
  by_cases q : 84 ≤ x ∧ x < 84 + (9 * k + j) ∧ ¬ told (9 * ((x - 84) / 9)) ≤ 0
  · rw [if_pos q, if_pos ⟨q.1, by omega, q.2.2⟩]
  · rw [if_neg q]
    by_cases z : 84 ≤ x ∧ x < 84 + 9 * (k + 1) ∧ ¬ told (9 * ((x - 84) / 9)) ≤ 0
    · exfalso
      have : ¬ x < 84 + (9 * k + j) := fun w => q ⟨z.1, w, z.2.2⟩
      exact z.2.2 (by rw [show (x - 84) / 9 = k by omega]; exact h)
    · rw [if_neg z]
theorem cmB_er {f : Nat → Int32} {n : Nat} (h : cmB f 0 n = true) : erT f 0 n = n := by
  unfold cmB at h
  simp only [Bool.and_eq_true, decide_eq_true_eq] at h
  exact h.1
set_option maxHeartbeats 4000000 in
set_option maxRecDepth 100000 in
theorem c_X6_firstError (l : Launch) (D : va_G) (T : TI) (q : Nat → Nat) (kp : Nat) (ty : Nat) (th : Int32) (at_ : Nat) (isF : Bool) (op : Int32) (txt : Nat → Int32) (told : Nat → Int32) (c0 : Nat → Nat → Int32) (L0 : Nat → Nat) (hty : ty ≤ 60) (hT : okT c0 L0) : CI l yX6_firstError cX6_firstError 2 .int (rmD 4 0 0) D T [.ref (q 0)] [mO q (nI kp) (nI ty) th (nI at_) isF op, aW T 0 (q 4) 60 txt, aW T 0 (q 5) 27 told] 0 0 (β := Int32 × Nat × Bool × (Nat → Int32)) (fun ⟨th2, at2, isF2, told2⟩ => [mO q (nI kp) (nI ty) th2 (nI at2) isF2 op, aW T 0 (q 4) 60 txt, aW T 0 (q 5) 27 told2]) (fun (r : Int32) ⟨th2, at2, isF2, told2⟩ => r = nI (erT txt 0 ty) ∧ th2 = nI 0) := by
  intro sz
  refine met_rw (Qc := fun A => va_Qi _ (PST D _ A) A) rfl (Nat.le_of_ble_eq_true rfl) ?_
  intro pX eX sX mX bX mtX cX A hAe hC hA hP0 hD0 hS0 ls0 hl0 TG hTG
  clear hAe
  obtain ⟨hx, hb, hr, hml, hown, hts, hlocks, hin, hK⟩ := hC
  have hown : sX.vm.findClass RX6 = some mX.cls := hown
  have hl0 : lv_has ls0 2 [(0, .ref (q 0))] := hl0
  refine lv_aload_n hx hb dX6_firstError_0 rfl (lv_at hl0 0 rfl) ?_
  refine lv_iconst (v := nI 0) hx hb dX6_firstError_1 (by decide) ?_
  refine r_put (own := RX6) (C := RX6) (F := TX6) (N := 12) (ci := 6) (v := nI 0) hx hb hK hts in_X6 tyX6 tyX6_ok nmX6 hown hP0 hD0 hS0 0 rfl rfl 6 (by decide) kw_676 rfl rfl (Nat.le_of_ble_eq_true rfl) dX6_firstError_2 (fun (H1 : Heap) (locs1 : List Loc) (hP1 : va_P D vwCl (fl [mO q (nI kp) (nI ty) (nI 0) (nI at_) isF op, aW T 0 (q 4) 60 txt, aW T 0 (q 5) 27 told]) H1) (hD1 : va_D A (fl [mO q (nI kp) (nI ty) (nI 0) (nI at_) isF op, aW T 0 (q 4) 60 txt, aW T 0 (q 5) 27 told])) hS1 => ?_)
  clear hP0 hD0 hS0
  refine lv_aload_n hx hb dX6_firstError_5 rfl (lv_at hl0 0 rfl) ?_
  have hPc2 : va_P D vwCl (fl [mO q (nI kp) (nI ty) (nI 0) (nI at_) isF op, aW T 0 (q 4) 60 txt, aW T 0 (q 5) 27 told]) _ := flP_sub hP1 [0, 1, 2] rfl
  have hDc2 : va_D A (fl [mO q (nI kp) (nI ty) (nI 0) (nI at_) isF op, aW T 0 (q 4) 60 txt, aW T 0 (q 5) 27 told]) := flD_sub hD1 [0, 1, 2] (by decide) rfl
  refine cl_i (br := []) (va_runV (As := []) (rest := []) ⟨hx, hb, hml, hown, hts⟩ (c_X6_isText l D T q kp ty (nI 0) at_ isF op txt told _ _ (by omega) (hT) _) (mkV hts okX6_isText kw_821 kw_823 ks_17 ⟨rfl, rfl, Nat.le_of_ble_eq_true rfl, Nat.le_of_ble_eq_true rfl⟩) (pv_rw hK hPc2 hDc2 (q0 := 0) rfl rfl rfl) rfl rfl hl0.1 rfl (lv_room (Nat.le_of_ble_eq_true rfl)) dX6_firstError_6 ⟨Nat.le_of_ble_eq_true rfl, Nat.le_of_ble_eq_true rfl⟩) hP1 hD1 hS1 hA [] [0, 1, 2] rfl (by decide) (fun r_6 u_6 H3 locs3 hq_6 hP3 hD3 hS3 => ?_)
  clear hP1 hD1 hS1 hPc2 hDc2
  obtain ⟨at2_6, isF2_6, told2_6⟩ := u_6
  have hP3 : va_P D vwCl (fl [mO q (nI kp) (nI ty) (nI 0) (nI at2_6) isF2_6 op, aW T 0 (q 4) 60 txt, aW T 0 (q 5) 27 told2_6]) _ := hP3
  have hD3 : va_D A (fl [mO q (nI kp) (nI ty) (nI 0) (nI at2_6) isF2_6 op, aW T 0 (q 4) 60 txt, aW T 0 (q 5) 27 told2_6]) := hD3
  obtain ⟨hr_6, hq_6⟩ : r_6 = bI (cmB txt 0 ty) ∧ (at2_6 = erT txt 0 ty ∧ isF2_6 = decide (erT txt 0 ty < ty) ∧ (cmB txt 0 ty = true → ∀ k, k < 3 → RT told2_6 c0 L0 (gvP (gvI txt c0 L0 ty)).1 (gvP (gvI txt c0 L0 ty)).2 k)) := hq_6
  subst hr_6
  refine lv_istore_n (lv' := [(1, .int (bI (cmB txt 0 ty))), (0, .ref (q 0))]) hx hb dX6_firstError_9 rfl hl0 (by decide) rfl (fun ls4 hl4 => ?_)
  clear hl0
  refine lv_iload_n hx hb dX6_firstError_10 rfl (lv_at hl4 0 rfl) ?_
  refine z_if_ne (tgt := 28) hx hb dX6_firstError_11 (by decide) (fun c_11 => ?_) (fun c_11 => ?_)
  · skip
    refine lv_aload_n hx hb dX6_firstError_28 rfl (lv_at hl4 1 rfl) ?_
    refine r_get (own := RX6) (C := RX6) (F := TX6) (N := 12) (ci := 6) (v := .int (nI ty)) hx hb hK hts in_X6 hown hP3 0 rfl rfl 5 (by decide) kw_675 rfl dX6_firstError_29 ?_
    refine ret_i hTG (Nat.le_refl _) (Nat.le_refl _) hx hb hr hlocks (((nI 0), at2_6, isF2_6, told2_6)) hP3 hD3 hS3 [0, 1, 2] rfl (by decide) dX6_firstError_32 ?_
    first
    | (refine ⟨?_, rfl⟩; rw [← hq_6.1]; done)
    | (refine ⟨?_, rfl⟩; rw [cmB_er c_11]; done)
    | (refine ⟨?_, rfl⟩
       have q18 : decide (erT txt 0 ty < ty) = false := hq_6.2.1.symm.trans c_18
       have q19 := of_decide_eq_false q18
       have q20 := erT_le txt 0 ty
       rw [show erT txt 0 ty = ty by omega])
  · skip
    refine lv_aload_n hx hb dX6_firstError_14 rfl (lv_at hl4 1 rfl) ?_
    refine r_get (own := RX6) (C := RX6) (F := TX6) (N := 12) (ci := 6) (v := .int (bI isF2_6)) hx hb hK hts in_X6 hown hP3 0 rfl rfl 8 (by decide) kw_678 rfl dX6_firstError_15 ?_
    refine z_if_eq (tgt := 28) hx hb dX6_firstError_18 (by decide) (fun c_18 => ?_) (fun c_18 => ?_)
    · skip
      refine lv_aload_n hx hb dX6_firstError_28 rfl (lv_at hl4 1 rfl) ?_
      refine r_get (own := RX6) (C := RX6) (F := TX6) (N := 12) (ci := 6) (v := .int (nI ty)) hx hb hK hts in_X6 hown hP3 0 rfl rfl 5 (by decide) kw_675 rfl dX6_firstError_29 ?_
      refine ret_i hTG (Nat.le_refl _) (Nat.le_refl _) hx hb hr hlocks (((nI 0), at2_6, isF2_6, told2_6)) hP3 hD3 hS3 [0, 1, 2] rfl (by decide) dX6_firstError_32 ?_
      first
      | (refine ⟨?_, rfl⟩; rw [← hq_6.1]; done)
      | (refine ⟨?_, rfl⟩; rw [cmB_er c_11]; done)
      | (refine ⟨?_, rfl⟩
         have q18 : decide (erT txt 0 ty < ty) = false := hq_6.2.1.symm.trans c_18
         have q19 := of_decide_eq_false q18
         have q20 := erT_le txt 0 ty
         rw [show erT txt 0 ty = ty by omega])
    · skip
      refine lv_aload_n hx hb dX6_firstError_21 rfl (lv_at hl4 1 rfl) ?_
      refine r_get (own := RX6) (C := RX6) (F := TX6) (N := 12) (ci := 6) (v := .int (nI at2_6)) hx hb hK hts in_X6 hown hP3 0 rfl rfl 7 (by decide) kw_677 rfl dX6_firstError_22 ?_
      have q18 : decide (erT txt 0 ty < ty) = true := hq_6.2.1.symm.trans c_18
      refine lv_goto (tgt := 32) hx hb dX6_firstError_25 (by decide) ?_
      refine ret_i hTG (Nat.le_refl _) (Nat.le_refl _) hx hb hr hlocks (((nI 0), at2_6, isF2_6, told2_6)) hP3 hD3 hS3 [0, 1, 2] rfl (by decide) dX6_firstError_32 ?_
      first
      | (refine ⟨?_, rfl⟩; rw [← hq_6.1]; done)
      | (refine ⟨?_, rfl⟩; rw [cmB_er c_11]; done)
      | (refine ⟨?_, rfl⟩
         have q18 : decide (erT txt 0 ty < ty) = false := hq_6.2.1.symm.trans c_18
         have q19 := of_decide_eq_false q18
         have q20 := erT_le txt 0 ty
         rw [show erT txt 0 ty = ty by omega])
set_option maxHeartbeats 4000000 in
set_option maxRecDepth 100000 in
theorem c_X6_rounds (l : Launch) (D : va_G) (T : TI) (q : Nat → Nat) (kp : Nat) (ty : Nat) (th : Int32) (at_ : Nat) (isF : Bool) (op : Int32) (now : Nat → Int32) (past : Nat → Int32) (txt : Nat → Int32) (told : Nat → Int32) (c0 : Nat → Nat → Int32) (L0 : Nat → Nat) (hkp : kp ≤ 6) (hty : ty ≤ 60) (hT : okT c0 L0) : CI l yX6_rounds cX6_rounds 3 .int (rmD 4 0 0) D T [.ref (q 0)] [mO q (nI kp) (nI ty) th (nI at_) isF op, aW T 0 (q 1) 111 now, aW T 0 (q 3) 666 past, aW T 0 (q 4) 60 txt, aW T 0 (q 5) 27 told] 0 0 (β := Nat × Nat × Int32 × Nat × Bool × (Nat → Int32) × (Nat → Int32) × (Nat → Int32)) (fun ⟨kp2, ty2, th2, at2, isF2, now2, past2, told2⟩ => [mO q (nI kp2) (nI ty2) th2 (nI at2) isF2 op, aW T 0 (q 1) 111 now2, aW T 0 (q 3) 666 past2, aW T 0 (q 4) 60 txt, aW T 0 (q 5) 27 told2]) (fun (r : Int32) ⟨kp2, ty2, th2, at2, isF2, now2, past2, told2⟩ => (cmB txt 0 ty = false → r = nI 0 ∧ th2 = nI 1 ∧ now2 = now ∧ past2 = past ∧ kp2 = kp ∧ ty2 = ty) ∧ (cmB txt 0 ty = true → now2 = rdN now told2 27 ∧ (∀ k, k < 3 → RT told2 c0 L0 (gvP (gvI txt c0 L0 ty)).1 (gvP (gvI txt c0 L0 ty)).2 k) ∧ r = inR now2 ∧ th2 = nI 0 ∧ past2 = svP now past kp ∧ kp2 = svK kp ∧ ty2 = 0)) := by
  intro sz
  refine met_rw (Qc := fun A => va_Qi _ (PST D _ A) A) rfl (Nat.le_of_ble_eq_true rfl) ?_
  intro pX eX sX mX bX mtX cX A hAe hC hA hP0 hD0 hS0 ls0 hl0 TG hTG
  clear hAe
  obtain ⟨hx, hb, hr, hml, hown, hts, hlocks, hin, hK⟩ := hC
  have hown : sX.vm.findClass RX6 = some mX.cls := hown
  have hl0 : lv_has ls0 3 [(0, .ref (q 0))] := hl0
  refine lv_aload_n hx hb dX6_rounds_0 rfl (lv_at hl0 0 rfl) ?_
  refine lv_iconst (v := nI 0) hx hb dX6_rounds_1 (by decide) ?_
  refine r_put (own := RX6) (C := RX6) (F := TX6) (N := 12) (ci := 6) (v := nI 0) hx hb hK hts in_X6 tyX6 tyX6_ok nmX6 hown hP0 hD0 hS0 0 rfl rfl 6 (by decide) kw_676 rfl rfl (Nat.le_of_ble_eq_true rfl) dX6_rounds_2 (fun (H1 : Heap) (locs1 : List Loc) (hP1 : va_P D vwCl (fl [mO q (nI kp) (nI ty) (nI 0) (nI at_) isF op, aW T 0 (q 1) 111 now, aW T 0 (q 3) 666 past, aW T 0 (q 4) 60 txt, aW T 0 (q 5) 27 told]) H1) (hD1 : va_D A (fl [mO q (nI kp) (nI ty) (nI 0) (nI at_) isF op, aW T 0 (q 1) 111 now, aW T 0 (q 3) 666 past, aW T 0 (q 4) 60 txt, aW T 0 (q 5) 27 told])) hS1 => ?_)
  clear hP0 hD0 hS0
  refine lv_aload_n hx hb dX6_rounds_5 rfl (lv_at hl0 0 rfl) ?_
  have hPc2 : va_P D vwCl (fl [mO q (nI kp) (nI ty) (nI 0) (nI at_) isF op, aW T 0 (q 4) 60 txt, aW T 0 (q 5) 27 told]) _ := flP_sub hP1 [0, 3, 4] rfl
  have hDc2 : va_D A (fl [mO q (nI kp) (nI ty) (nI 0) (nI at_) isF op, aW T 0 (q 4) 60 txt, aW T 0 (q 5) 27 told]) := flD_sub hD1 [0, 3, 4] (by decide) rfl
  refine cl_i (br := [aW T 0 (q 1) 111 now, aW T 0 (q 3) 666 past]) (va_runV (As := []) (rest := []) ⟨hx, hb, hml, hown, hts⟩ (c_X6_isText l D T q kp ty (nI 0) at_ isF op txt told _ _ (by omega) (hT) _) (mkV hts okX6_isText kw_821 kw_823 ks_17 ⟨rfl, rfl, Nat.le_of_ble_eq_true rfl, Nat.le_of_ble_eq_true rfl⟩) (pv_rw hK hPc2 hDc2 (q0 := 0) rfl rfl rfl) rfl rfl hl0.1 rfl (lv_room (Nat.le_of_ble_eq_true rfl)) dX6_rounds_6 ⟨Nat.le_of_ble_eq_true rfl, Nat.le_of_ble_eq_true rfl⟩) hP1 hD1 hS1 hA [1, 2] [0, 3, 4] rfl (by decide) (fun r_6 u_6 H3 locs3 hq_6 hP3 hD3 hS3 => ?_)
  clear hP1 hD1 hS1 hPc2 hDc2
  obtain ⟨at2_6, isF2_6, told2_6⟩ := u_6
  have hP3 : va_P D vwCl (fl [aW T 0 (q 1) 111 now, aW T 0 (q 3) 666 past, mO q (nI kp) (nI ty) (nI 0) (nI at2_6) isF2_6 op, aW T 0 (q 4) 60 txt, aW T 0 (q 5) 27 told2_6]) _ := hP3
  have hD3 : va_D A (fl [aW T 0 (q 1) 111 now, aW T 0 (q 3) 666 past, mO q (nI kp) (nI ty) (nI 0) (nI at2_6) isF2_6 op, aW T 0 (q 4) 60 txt, aW T 0 (q 5) 27 told2_6]) := hD3
  obtain ⟨hr_6, hq_6⟩ : r_6 = bI (cmB txt 0 ty) ∧ (at2_6 = erT txt 0 ty ∧ isF2_6 = decide (erT txt 0 ty < ty) ∧ (cmB txt 0 ty = true → ∀ k, k < 3 → RT told2_6 c0 L0 (gvP (gvI txt c0 L0 ty)).1 (gvP (gvI txt c0 L0 ty)).2 k)) := hq_6
  subst hr_6
  refine z_if_ne (tgt := 18) hx hb dX6_rounds_9 (by decide) (fun c_9 => ?_) (fun c_9 => ?_)
  · skip
    refine lv_aload_n hx hb dX6_rounds_18 rfl (lv_at hl0 0 rfl) ?_
    have hPc5 : va_P D vwCl (fl [mO q (nI kp) (nI ty) (nI 0) (nI at2_6) isF2_6 op, aW T 0 (q 1) 111 now, aW T 0 (q 3) 666 past]) _ := flP_sub hP3 [2, 0, 1] rfl
    have hDc5 : va_D A (fl [mO q (nI kp) (nI ty) (nI 0) (nI at2_6) isF2_6 op, aW T 0 (q 1) 111 now, aW T 0 (q 3) 666 past]) := flD_sub hD3 [2, 0, 1] (by decide) rfl
    refine cl_v (br := [aW T 0 (q 4) 60 txt, aW T 0 (q 5) 27 told2_6]) (va_runV (As := []) (rest := []) ⟨hx, hb, hml, hown, hts⟩ (c_X6_saves l D T q kp ty (nI 0) at2_6 isF2_6 op now past (by omega) _) (mkV hts okX6_saves kw_729 kw_731 ks_13 ⟨rfl, rfl, Nat.le_of_ble_eq_true rfl, Nat.le_of_ble_eq_true rfl⟩) (pv_rw hK hPc5 hDc5 (q0 := 0) rfl rfl rfl) rfl rfl hl0.1 rfl (lv_room (Nat.le_of_ble_eq_true rfl)) dX6_rounds_19 ⟨Nat.le_of_ble_eq_true rfl, Nat.le_of_ble_eq_true rfl⟩) hP3 hD3 hS3 hA [3, 4] [2, 0, 1] rfl (by decide) (fun u_19 H6 locs6 hq_19 hP6 hD6 hS6 => ?_)
    clear hP3 hD3 hS3 hPc5 hDc5
    obtain ⟨past2_19, kp2_19⟩ := u_19
    have hP6 : va_P D vwCl (fl [aW T 0 (q 4) 60 txt, aW T 0 (q 5) 27 told2_6, mO q (nI kp2_19) (nI ty) (nI 0) (nI at2_6) isF2_6 op, aW T 0 (q 1) 111 now, aW T 0 (q 3) 666 past2_19]) _ := hP6
    have hD6 : va_D A (fl [aW T 0 (q 4) 60 txt, aW T 0 (q 5) 27 told2_6, mO q (nI kp2_19) (nI ty) (nI 0) (nI at2_6) isF2_6 op, aW T 0 (q 1) 111 now, aW T 0 (q 3) 666 past2_19]) := hD6
    have hq_19 : svP now past kp = past2_19 ∧ svK kp = kp2_19 := hq_19
    obtain ⟨hu_past2_19, hu_kp2_19⟩ := hq_19
    subst hu_past2_19
    subst hu_kp2_19
    refine lv_aload_n hx hb dX6_rounds_22 rfl (lv_at hl0 0 rfl) ?_
    refine lv_iconst (v := nI 0) hx hb dX6_rounds_23 (by decide) ?_
    refine r_put (own := RX6) (C := RX6) (F := TX6) (N := 12) (ci := 6) (v := nI 0) hx hb hK hts in_X6 tyX6 tyX6_ok nmX6 hown hP6 hD6 hS6 2 rfl rfl 5 (by decide) kw_675 rfl rfl (Nat.le_of_ble_eq_true rfl) dX6_rounds_24 (fun (H7 : Heap) (locs7 : List Loc) (hP7 : va_P D vwCl (fl [aW T 0 (q 4) 60 txt, aW T 0 (q 5) 27 told2_6, mO q (nI (svK kp)) (nI 0) (nI 0) (nI at2_6) isF2_6 op, aW T 0 (q 1) 111 now, aW T 0 (q 3) 666 (svP now past kp)]) H7) (hD7 : va_D A (fl [aW T 0 (q 4) 60 txt, aW T 0 (q 5) 27 told2_6, mO q (nI (svK kp)) (nI 0) (nI 0) (nI at2_6) isF2_6 op, aW T 0 (q 1) 111 now, aW T 0 (q 3) 666 (svP now past kp)])) hS7 => ?_)
    clear hP6 hD6 hS6
    refine lv_iconst (v := nI 0) hx hb dX6_rounds_27 (by decide) ?_
    refine lv_istore_n (lv' := [(1, .int (nI 0)), (0, .ref (q 0))]) hx hb dX6_rounds_28 rfl hl0 (by decide) rfl (fun ls8 hl8 => ?_)
    clear hl0
    have hP9 : va_P D vwCl (fl [mO q (nI (svK kp)) (nI 0) (nI 0) (nI at2_6) isF2_6 op, aW T 0 (q 1) 111 now, aW T 0 (q 3) 666 (svP now past kp), aW T 0 (q 4) 60 txt, aW T 0 (q 5) 27 told2_6]) _ := flP_sub hP7 [2, 3, 4, 0, 1] rfl
    have hD9 : va_D A (fl [mO q (nI (svK kp)) (nI 0) (nI 0) (nI at2_6) isF2_6 op, aW T 0 (q 1) 111 now, aW T 0 (q 3) 666 (svP now past kp), aW T 0 (q 4) 60 txt, aW T 0 (q 5) 27 told2_6]) := flD_sub hD7 [2, 3, 4, 0, 1] (by decide) rfl
    have hS9 := hS7
    clear hP7 hS7 hD7
    have loop29 : ∀ (n_ : Nat) (k : Nat) (g1 : Nat → Int32), (k ≤ 3) → (g1 = rdN now told2_6 (9 * k)) → (3 - k) < n_ → ∀ (H : Heap) (locs : List Loc), va_P D vwCl (fl [mO q (nI (svK kp)) (nI 0) (nI 0) (nI at2_6) isF2_6 op, aW T 0 (q 1) 111 g1, aW T 0 (q 3) 666 (svP now past kp), aW T 0 (q 4) 60 txt, aW T 0 (q 5) 27 told2_6]) H → va_D A (fl [mO q (nI (svK kp)) (nI 0) (nI 0) (nI at2_6) isF2_6 op, aW T 0 (q 1) 111 g1, aW T 0 (q 3) 666 (svP now past kp), aW T 0 (q 4) 60 txt, aW T 0 (q 5) 27 told2_6]) → va_S A sX.heap H locs → ∀ ls : Array Slot, lv_has ls 3 [(0, .ref (q 0)), (1, .int (nI k))] → W pX l eX (rmD 4 0 0) sX mX ([.ref (q 0)] : List Value).toArray bX mtX cX H locs 0 0 TG (F0 mX 29 ls []) := by
      intro n_
      induction n_ with
      | zero => intro k g1 hk hg hmu_ ; exact absurd hmu_ (Nat.not_lt_zero _)
      | succ n_ ih29 =>
        intro k g1 hk hg hmu_29 H11 locs11 hP11 hD11 hS11 ls11 hl11
        refine lv_iload_n hx hb dX6_rounds_29 rfl (lv_at hl11 1 rfl) ?_
        refine lv_iconst (v := nI 3) hx hb dX6_rounds_30 (by decide) ?_
        refine n_icmp_ge (tgt := 91) hx hb (by omega) (by omega) dX6_rounds_31 (by decide) (fun c_31 => ?_) (fun c_31 => ?_)
        · skip
          have hk2 : k = 3 := by omega
          subst hk2
          refine lv_aload_n hx hb dX6_rounds_91 rfl (lv_at hl11 0 rfl) ?_
          refine r_get (own := RX6) (C := RX6) (F := TX6) (N := 12) (ci := 6) (v := .ref (q 1)) hx hb hK hts in_X6 hown hP11 0 rfl rfl 0 (by decide) kw_670 rfl dX6_rounds_92 ?_
          have hPc13 : va_P D vwCl (fl [aW T 0 (q 1) 111 g1]) _ := hP11.sub [1] rfl
          refine cr_i (va_runS (As := [.ref (q 1)]) (rest := []) ⟨hx, hb, hml, hown, hts⟩ (c_X6_inRounds l D T (q 1) g1 ) (mkS hts okX6_inRounds kw_841 kw_842 ⟨rfl, rfl, Nat.le_of_ble_eq_true rfl, Nat.le_of_ble_eq_true rfl⟩) (ps_ro hK hPc13) rfl rfl hl11.1 rfl (lv_room (Nat.le_of_ble_eq_true rfl)) dX6_rounds_95 ⟨Nat.le_of_ble_eq_true rfl, Nat.le_of_ble_eq_true rfl⟩) hP11 hS11 (fun r_95 H14 locs14 hq_95 hP14 hS14 => ?_)
          clear hP11 hS11 hPc13
          have hD14 := hD11
          clear hD11
          have hq_95 : r_95 = inR g1 := hq_95
          subst hq_95
          refine ret_i hTG (Nat.le_refl _) (Nat.le_refl _) hx hb hr hlocks (((svK kp), 0, (nI 0), at2_6, isF2_6, g1, (svP now past kp), told2_6)) hP14 hD14 hS14 [0, 1, 2, 3, 4] rfl (by decide) dX6_rounds_98 ?_
          exact ⟨fun q => absurd (c_9.symm.trans q) (by decide), fun q => ⟨hg, hq_6.2.2 q, rfl, rfl, rfl, rfl, rfl⟩⟩
        · skip
          refine lv_iconst (v := nI 0) hx hb dX6_rounds_34 (by decide) ?_
          refine lv_istore_n (lv' := [(2, .int (nI 0)), (0, .ref (q 0)), (1, .int (nI k))]) hx hb dX6_rounds_35 rfl hl11 (by decide) rfl (fun ls15 hl15 => ?_)
          clear hl11
          have loop36 : ∀ (n_ : Nat) (j : Nat) (g2 : Nat → Int32), (j ≤ 9) → (g2 = rdN now told2_6 (9 * k + j)) → (9 - j) < n_ → ∀ (H : Heap) (locs : List Loc), va_P D vwCl (fl [mO q (nI (svK kp)) (nI 0) (nI 0) (nI at2_6) isF2_6 op, aW T 0 (q 1) 111 g2, aW T 0 (q 3) 666 (svP now past kp), aW T 0 (q 4) 60 txt, aW T 0 (q 5) 27 told2_6]) H → va_D A (fl [mO q (nI (svK kp)) (nI 0) (nI 0) (nI at2_6) isF2_6 op, aW T 0 (q 1) 111 g2, aW T 0 (q 3) 666 (svP now past kp), aW T 0 (q 4) 60 txt, aW T 0 (q 5) 27 told2_6]) → va_S A sX.heap H locs → ∀ ls : Array Slot, lv_has ls 3 [(0, .ref (q 0)), (1, .int (nI k)), (2, .int (nI j))] → W pX l eX (rmD 4 0 0) sX mX ([.ref (q 0)] : List Value).toArray bX mtX cX H locs 0 0 TG (F0 mX 36 ls []) := by
            intro n_
            induction n_ with
            | zero => intro j g2 hj hg2 hmu_ ; exact absurd hmu_ (Nat.not_lt_zero _)
            | succ n_ ih36 =>
              intro j g2 hj hg2 hmu_36 H17 locs17 hP17 hD17 hS17 ls17 hl17
              refine lv_iload_n hx hb dX6_rounds_36 rfl (lv_at hl17 2 rfl) ?_
              refine lv_bipush (v := nI 9) hx hb dX6_rounds_37 (by decide) ?_
              refine n_icmp_ge (tgt := 85) hx hb (by omega) (by omega) dX6_rounds_39 (by decide) (fun c_39 => ?_) (fun c_39 => ?_)
              · skip
                refine lv_iinc (v := nI (k + 1)) (lv' := [(1, .int (nI (k + 1))), (0, .ref (q 0)), (2, .int (nI j))]) hx hb dX6_rounds_85 hl17 (k := 1) rfl (nI_add k 1) (by decide) rfl (fun ls19 hl19 => ?_)
                clear hl17
                refine lv_goto (tgt := 29) hx hb dX6_rounds_88 (by decide) ?_
                have hgN : g2 = rdN now told2_6 (9 * (k + 1)) := by
                  rw [hg2]
                  first
                  | exact rdN_no c_51 hj
                  | (obtain rfl : j = 9 := by omega
                     rw [show 9 * k + 9 = 9 * (k + 1) by omega])
                exact ih29 (k + 1) g2 (by omega) (hgN) (by omega) _ _ hP17 hD17 hS17 _ (lv_sub hl19 [1, 0] rfl)
              · skip
                refine lv_aload_n hx hb dX6_rounds_42 rfl (lv_at hl17 0 rfl) ?_
                refine r_get (own := RX6) (C := RX6) (F := TX6) (N := 12) (ci := 6) (v := .ref (q 5)) hx hb hK hts in_X6 hown hP17 0 rfl rfl 9 (by decide) kw_679 rfl dX6_rounds_43 ?_
                refine lv_bipush (v := nI 9) hx hb dX6_rounds_46 (by decide) ?_
                refine lv_iload_n hx hb dX6_rounds_48 rfl (lv_at hl17 1 rfl) ?_
                refine lv_imul hx hb dX6_rounds_49 ?_
                refine tp_i (y := nI (9 * k)) (pk_mul _ _) ?_
                refine r_iald hx hb hK hP17 4 (f := told2_6) (n := 27) rfl (9 * k) (by decide) dX6_rounds_50 (by omega) ?_
                refine lv_if_le (tgt := 85) hx hb dX6_rounds_51 (by decide) (fun c_51 => ?_) (fun c_51 => ?_)
                · skip
                  refine lv_iinc (v := nI (k + 1)) (lv' := [(1, .int (nI (k + 1))), (0, .ref (q 0)), (2, .int (nI j))]) hx hb dX6_rounds_85 hl17 (k := 1) rfl (nI_add k 1) (by decide) rfl (fun ls21 hl21 => ?_)
                  clear hl17
                  refine lv_goto (tgt := 29) hx hb dX6_rounds_88 (by decide) ?_
                  have hgN : g2 = rdN now told2_6 (9 * (k + 1)) := by
                    rw [hg2]
                    first
                    | exact rdN_no c_51 hj
                    | (obtain rfl : j = 9 := by omega
                       rw [show 9 * k + 9 = 9 * (k + 1) by omega])
                  exact ih29 (k + 1) g2 (by omega) (hgN) (by omega) _ _ hP17 hD17 hS17 _ (lv_sub hl21 [1, 0] rfl)
                · skip
                  refine lv_aload_n hx hb dX6_rounds_54 rfl (lv_at hl17 0 rfl) ?_
                  refine r_get (own := RX6) (C := RX6) (F := TX6) (N := 12) (ci := 6) (v := .ref (q 1)) hx hb hK hts in_X6 hown hP17 0 rfl rfl 0 (by decide) kw_670 rfl dX6_rounds_55 ?_
                  refine lv_bipush (v := nI 84) hx hb dX6_rounds_58 (by decide) ?_
                  refine lv_bipush (v := nI 9) hx hb dX6_rounds_60 (by decide) ?_
                  refine lv_iload_n hx hb dX6_rounds_62 rfl (lv_at hl17 1 rfl) ?_
                  refine lv_imul hx hb dX6_rounds_63 ?_
                  refine tp_i (y := nI (9 * k)) (pk_mul _ _) ?_
                  refine lv_iadd hx hb dX6_rounds_64 ?_
                  refine tp_i (y := nI (84 + (9 * k))) (nI_add _ _) ?_
                  refine lv_iload_n hx hb dX6_rounds_65 rfl (lv_at hl17 2 rfl) ?_
                  refine lv_iadd hx hb dX6_rounds_66 ?_
                  refine tp_i (y := nI (84 + (9 * k) + j)) (nI_add _ _) ?_
                  refine lv_aload_n hx hb dX6_rounds_67 rfl (lv_at hl17 0 rfl) ?_
                  refine r_get (own := RX6) (C := RX6) (F := TX6) (N := 12) (ci := 6) (v := .ref (q 5)) hx hb hK hts in_X6 hown hP17 0 rfl rfl 9 (by decide) kw_679 rfl dX6_rounds_68 ?_
                  refine lv_bipush (v := nI 9) hx hb dX6_rounds_71 (by decide) ?_
                  refine lv_iload_n hx hb dX6_rounds_73 rfl (lv_at hl17 1 rfl) ?_
                  refine lv_imul hx hb dX6_rounds_74 ?_
                  refine tp_i (y := nI (9 * k)) (pk_mul _ _) ?_
                  refine lv_iload_n hx hb dX6_rounds_75 rfl (lv_at hl17 2 rfl) ?_
                  refine lv_iadd hx hb dX6_rounds_76 ?_
                  refine tp_i (y := nI (9 * k + j)) (nI_add _ _) ?_
                  refine r_iald hx hb hK hP17 4 (f := told2_6) (n := 27) rfl (9 * k + j) (by decide) dX6_rounds_77 (by omega) ?_
                  refine r_iast hx hb hK hP17 hD17 hS17 1 (f := g2) (n := 111) rfl (84 + (9 * k) + j) (by decide) dX6_rounds_78 (by omega) (fun (H22 : Heap) (locs22 : List Loc) (hP22 : va_P D vwCl (fl [mO q (nI (svK kp)) (nI 0) (nI 0) (nI at2_6) isF2_6 op, aW T 0 (q 1) 111 (upd g2 (84 + (9 * k) + j) (told2_6 (9 * k + j))), aW T 0 (q 3) 666 (svP now past kp), aW T 0 (q 4) 60 txt, aW T 0 (q 5) 27 told2_6]) H22) (hD22 : va_D A (fl [mO q (nI (svK kp)) (nI 0) (nI 0) (nI at2_6) isF2_6 op, aW T 0 (q 1) 111 (upd g2 (84 + (9 * k) + j) (told2_6 (9 * k + j))), aW T 0 (q 3) 666 (svP now past kp), aW T 0 (q 4) 60 txt, aW T 0 (q 5) 27 told2_6])) hS22 => ?_)
                  clear hP17 hD17 hS17
                  refine lv_iinc (v := nI (j + 1)) (lv' := [(2, .int (nI (j + 1))), (0, .ref (q 0)), (1, .int (nI k))]) hx hb dX6_rounds_79 hl17 (k := 2) rfl (nI_add j 1) (by decide) rfl (fun ls23 hl23 => ?_)
                  clear hl17
                  refine lv_goto (tgt := 36) hx hb dX6_rounds_82 (by decide) ?_
                  exact ih36 (j + 1) (upd g2 (84 + (9 * k) + j) (told2_6 (9 * k + j))) (by omega) (by rw [hg2]; exact rdN_s (by omega) c_51) (by omega) _ _ hP22 hD22 hS22 _ (lv_sub hl23 [1, 2, 0] rfl)
          exact loop36 ((9 - 0) + 1) 0 g1 (by omega) (hg) (Nat.lt_succ_self _) _ _ hP11 hD11 hS11 _ (lv_sub hl15 [1, 2, 0] rfl)
    exact loop29 ((3 - 0) + 1) 0 now (by omega) ((rdN_0 _ _).symm) (Nat.lt_succ_self _) _ _ hP9 hD9 hS9 _ (lv_sub hl8 [1, 0] rfl)
  · skip
    refine lv_aload_n hx hb dX6_rounds_12 rfl (lv_at hl0 0 rfl) ?_
    refine lv_iconst (v := nI 1) hx hb dX6_rounds_13 (by decide) ?_
    have hPc24 : va_P D vwCl (fl [mO q (nI kp) (nI ty) (nI 0) (nI at2_6) isF2_6 op]) _ := flP_sub hP3 [2] rfl
    have hDc24 : va_D A (fl [mO q (nI kp) (nI ty) (nI 0) (nI at2_6) isF2_6 op]) := flD_sub hD3 [2] (by decide) rfl
    refine cl_i (br := [aW T 0 (q 1) 111 now, aW T 0 (q 3) 666 past, aW T 0 (q 4) 60 txt, aW T 0 (q 5) 27 told2_6]) (va_runV (As := [.int (nI 1)]) (rest := []) ⟨hx, hb, hml, hown, hts⟩ (c_X6_fails l D T q kp ty (nI 0) at2_6 isF2_6 op (nI 1)  _) (mkV hts okX6_fails kw_715 kw_717 ks_12 ⟨rfl, rfl, Nat.le_of_ble_eq_true rfl, Nat.le_of_ble_eq_true rfl⟩) (pv_rw hK hPc24 hDc24 (q0 := 0) rfl rfl rfl) rfl rfl hl0.1 rfl (lv_room (Nat.le_of_ble_eq_true rfl)) dX6_rounds_14 ⟨Nat.le_of_ble_eq_true rfl, Nat.le_of_ble_eq_true rfl⟩) hP3 hD3 hS3 hA [0, 1, 3, 4] [2] rfl (by decide) (fun r_14 th2_14 H25 locs25 hq_14 hP25 hD25 hS25 => ?_)
    clear hP3 hD3 hS3 hPc24 hDc24
    have hP25 : va_P D vwCl (fl [aW T 0 (q 1) 111 now, aW T 0 (q 3) 666 past, aW T 0 (q 4) 60 txt, aW T 0 (q 5) 27 told2_6, mO q (nI kp) (nI ty) th2_14 (nI at2_6) isF2_6 op]) _ := hP25
    have hD25 : va_D A (fl [aW T 0 (q 1) 111 now, aW T 0 (q 3) 666 past, aW T 0 (q 4) 60 txt, aW T 0 (q 5) 27 told2_6, mO q (nI kp) (nI ty) th2_14 (nI at2_6) isF2_6 op]) := hD25
    obtain ⟨hr_14, hq_14⟩ : r_14 = nI 0 ∧ ((nI 1) = th2_14) := hq_14
    subst hr_14
    have hu_th2_14 : (nI 1) = th2_14 := hq_14
    subst hu_th2_14
    refine ret_i hTG (Nat.le_refl _) (Nat.le_refl _) hx hb hr hlocks ((kp, ty, (nI 1), at2_6, isF2_6, now, past, told2_6)) hP25 hD25 hS25 [4, 0, 1, 2, 3] rfl (by decide) dX6_rounds_17 ?_
    exact ⟨fun _ => ⟨rfl, rfl, rfl, rfl, rfl, rfl⟩, fun q => absurd (c_9.symm.trans q) (by decide)⟩
