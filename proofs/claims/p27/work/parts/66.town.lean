/-! the law's town: what holds of a state's looks -/
theorem brn_s (m : Nat → Int32) (k : Nat) : nI (brNM m k) + bI (brM m k) = nI (brNM m (k + 1)) := by
  rw [← bri_le, nI_add]
  rfl
theorem brm_t {m : Nat → Int32} {k d a : Nat} (h : brM m k = true) (hd : m (12 + 6 * k) = nI d) (ha : m 0 = nI a) (hl : d < 1000 ∧ a < 1000) : ¬ d ≤ a := by
  unfold brM at h
  have hd : m (12 + 6 * k + 0) = nI d := hd
  rw [hd, ha] at h
  intro q
  rw [decide_eq_true ((nI_leI (by omega) (by omega)).mpr q)] at h
  exact absurd h (by decide)
theorem brm_f {m : Nat → Int32} {k d a : Nat} (h : brM m k = false) (hd : m (12 + 6 * k) = nI d) (ha : m 0 = nI a) (hl : d < 1000 ∧ a < 1000) : d ≤ a := by
  unfold brM at h
  have hd : m (12 + 6 * k + 0) = nI d := hd
  rw [hd, ha] at h
  by_cases q : nI d ≤ nI a
  · exact (nI_leI (by omega) (by omega)).mp q
  · rw [decide_eq_false q] at h
    exact absurd h (by decide)
theorem src4 (m : Nat → Int32) (k : Nat) : (srcM m k = nI (k - 1) ∧ 0 < k ∧ ¬ k % 4 = 0) ∨ (srcM m k = -1 ∧ k = 0 ∧ k % 4 = 0) ∨ (srcM m k = -1 ∧ 0 < k ∧ k % 4 = 0) ∨ (srcM m k = nI (k - 1) ∧ 0 < k ∧ k % 4 = 0) := by
  unfold srcM
  by_cases h4 : k % 4 = 0
  · rw [if_neg (by omega)]
    by_cases h0 : k = 0
    · rw [if_pos h0]
      exact Or.inr (Or.inl ⟨rfl, h0, h4⟩)
    · rw [if_neg h0]
      split
      · exact Or.inr (Or.inr (Or.inr ⟨rfl, by omega, h4⟩))
      · exact Or.inr (Or.inr (Or.inl ⟨rfl, by omega, h4⟩))
  · rw [if_pos (by omega)]
    exact Or.inl ⟨rfl, by omega, h4⟩
theorem n_m1 {n : Nat} (h : n < 2147483648) : ¬ nI n < -1 := by
  rw [Int32.lt_iff_toInt_lt, nI_toInt (by omega)]
  have h2 : (-1 : Int32).toInt = -1 := by decide
  omega
def WTS2 (m : Nat → Int32) (c : Nat) (y : Int32) : Prop :=
  (frM m c = -1 ∧ y = -1) ∨ (∃ t, t < 12 ∧ frM m c = nI t ∧ (y = nI 0 ∨ (y = nI 1 ∧ 0 < c ∧ frM m 0 = nI t) ∨ (y = nI 1 ∧ 0 < c ∧ frM m 1 = nI t) ∨ y = nI 2 ∨ (y = nI 3 ∧ srcM m t = nI (t - 1) ∧ 0 < t ∧ brM m (t - 1) = true)))
theorem waits_2 {m : Nat → Int32} (hS : okS m) (wh : Nat → Int32) {c : Nat} (hc : c < 3) : WTS2 m c ((laI m wh 3).2 c) := by
  rcases waits_f hS wh hc with h | ⟨t, ht, hf, h | ⟨h, k, hk, hfk⟩ | h | h⟩
  · exact Or.inl h
  · exact Or.inr ⟨t, ht, hf, Or.inl h⟩
  · rcases (show k = 0 ∨ k = 1 by omega) with rfl | rfl
    · exact Or.inr ⟨t, ht, hf, Or.inr (Or.inl ⟨h, by omega, hfk⟩)⟩
    · exact Or.inr ⟨t, ht, hf, Or.inr (Or.inr (Or.inl ⟨h, by omega, hfk⟩))⟩
  · exact Or.inr ⟨t, ht, hf, Or.inr (Or.inr (Or.inr (Or.inl h)))⟩
  · exact Or.inr ⟨t, ht, hf, Or.inr (Or.inr (Or.inr (Or.inr h)))⟩
def rdT (m : Nat → Int32) : Nat → Nat
  | 0 => 0
  | c + 1 => rdT m c + rdL m c
theorem inR_rd {m : Nat → Int32} (hS : okS m) : inR m = nI (rdT m 3) := by
  unfold inR
  have h0 := (rd_len hS (show 0 < 3 by omega)).2
  have h1 := (rd_len hS (show 1 < 3 by omega)).2
  have h2 := (rd_len hS (show 2 < 3 by omega)).2
  rw [show m 84 = nI (rdL m 0) from h0, show m 93 = nI (rdL m 1) from h1, show m 102 = nI (rdL m 2) from h2, nI_add, nI_add]
  show nI _ = nI (0 + rdL m 0 + rdL m 1 + rdL m 2)
  rw [Nat.zero_add]
theorem rdT_le {m : Nat → Int32} (hS : okS m) : ∀ c, c ≤ 3 → rdT m c ≤ 8 * c
  | 0, _ => Nat.le_refl 0
  | c + 1, h => by
    have h1 := rdT_le hS c (by omega)
    have h2 := (rd_len hS (show c < 3 by omega)).1
    rw [rdT]
    omega
set_option maxHeartbeats 4000000 in
set_option maxRecDepth 100000 in
theorem c_L_town (l : Launch) (D : va_G) (T : TI) (xa : Nat) (wb : va_W) (mm : Nat → Int32) (past : Nat → Int32) (kp : Nat) (h : Nat) (hI : XN T xa wb mm past kp) (hR : RGm mm h 0) (hh : h < 1000000) : CI l yL_town cL_town 11 .boolean (rmD 9 0 0) D T [.ref xa] [wb] 0 0 (β := va_W) (fun (w2 : va_W) => [w2]) (fun (r : Int32) (w2 : va_W) => r = nI 1 ∧ XN T xa w2 mm past kp) := by
  intro sz
  refine met_rw (Qc := fun A => va_Qi _ (PST D _ A) A) rfl (Nat.le_of_ble_eq_true rfl) ?_
  intro pX eX sX mX bX mtX cX A hAe hC hA hP0 hD0 hS0 ls0 hl0 TG hTG
  clear hAe
  obtain ⟨hx, hb, hr, hml, hown, hts, hlocks, hin, hK⟩ := hC
  have hown : sX.vm.findClass RL = some mX.cls := hown
  have hl0 : lv_has ls0 11 [(0, .ref xa)] := hl0
  have hS : okS mm := hI.okS.1
  obtain ⟨a0, ha0, ea0⟩ := hR.set0 (show 0 < 2 by omega)
  refine lv_iconst (v := nI 0) hx hb dL_town_0 (by decide) ?_
  refine lv_istore_n (lv' := [(1, .int (nI 0)), (0, .ref xa)]) hx hb dL_town_1 rfl hl0 (by decide) rfl (fun ls1 hl1 => ?_)
  clear hl0
  refine lv_iconst (v := nI 0) hx hb dL_town_2 (by decide) ?_
  refine lv_istore_n (lv' := [(2, .int (nI 0)), (1, .int (nI 0)), (0, .ref xa)]) hx hb dL_town_3 rfl hl1 (by decide) rfl (fun ls2 hl2 => ?_)
  clear hl1
  refine lv_iconst (v := nI 0) hx hb dL_town_4 (by decide) ?_
  refine lv_istore_n (lv' := [(3, .int (nI 0)), (2, .int (nI 0)), (1, .int (nI 0)), (0, .ref xa)]) hx hb dL_town_5 rfl hl2 (by decide) rfl (fun ls3 hl3 => ?_)
  clear hl2
  refine lv_iconst (v := nI 0) hx hb dL_town_6 (by decide) ?_
  refine lv_istore (lv' := [(4, .int (nI 0)), (3, .int (nI 0)), (2, .int (nI 0)), (1, .int (nI 0)), (0, .ref xa)]) hx hb dL_town_7 hl3 (by decide) rfl (fun ls4 hl4 => ?_)
  clear hl3
  refine lv_iconst (v := nI 1) hx hb dL_town_9 (by decide) ?_
  refine lv_istore (lv' := [(5, .int (nI 1)), (4, .int (nI 0)), (3, .int (nI 0)), (2, .int (nI 0)), (1, .int (nI 0)), (0, .ref xa)]) hx hb dL_town_10 hl4 (by decide) rfl (fun ls5 hl5 => ?_)
  clear hl4
  refine lv_iconst (v := nI 0) hx hb dL_town_12 (by decide) ?_
  refine lv_istore (lv' := [(6, .int (nI 0)), (5, .int (nI 1)), (4, .int (nI 0)), (3, .int (nI 0)), (2, .int (nI 0)), (1, .int (nI 0)), (0, .ref xa)]) hx hb dL_town_13 hl5 (by decide) rfl (fun ls6 hl6 => ?_)
  clear hl5
  have loop15 : ∀ (n_ : Nat) (k : Nat) (w1 : va_W), (k ≤ 12) → (XN T xa w1 mm past kp) → (12 - k) < n_ → ∀ (H : Heap) (locs : List Loc), va_P D vwCl (fl [w1]) H → va_D A (fl [w1]) → va_S A sX.heap H locs → ∀ ls : Array Slot, lv_has ls 11 [(0, .ref xa), (1, .int (sumM mm 0 k)), (2, .int (nI (brNM mm k))), (3, .int (sumM mm 3 k)), (4, .int (sumM mm 4 k)), (5, .int (nI 1)), (6, .int (nI k))] → W pX l eX (rmD 9 0 0) sX mX ([.ref xa] : List Value).toArray bX mtX cX H locs 0 0 TG (F0 mX 15 ls []) := by
    intro n_
    induction n_ with
    | zero => intro k w1 hk hI hmu_ ; exact absurd hmu_ (Nat.not_lt_zero _)
    | succ n_ ih15 =>
      intro k w1 hk hI hmu_15 H8 locs8 hP8 hD8 hS8 ls8 hl8
      refine lv_iload hx hb dL_town_15 (lv_at hl8 6 rfl) ?_
      refine lv_bipush (v := nI 12) hx hb dL_town_17 (by decide) ?_
      refine n_icmp_ge (tgt := 277) hx hb (by omega) (by omega) dL_town_19 (by decide) (fun c_19 => ?_) (fun c_19 => ?_)
      · skip
        have hk12 : k = 12 := by omega
        subst hk12
        refine lv_iconst (v := nI 0) hx hb dL_town_277 (by decide) ?_
        refine lv_istore (lv' := [(6, .int (nI 0)), (0, .ref xa), (1, .int (sumM mm 0 12)), (2, .int (nI (brNM mm 12))), (3, .int (sumM mm 3 12)), (4, .int (sumM mm 4 12)), (5, .int (nI 1))]) hx hb dL_town_278 hl8 (by decide) rfl (fun ls10 hl10 => ?_)
        clear hl8
        refine lv_iconst (v := nI 0) hx hb dL_town_280 (by decide) ?_
        refine lv_istore (lv' := [(7, .int (nI 0)), (6, .int (nI 0)), (0, .ref xa), (1, .int (sumM mm 0 12)), (2, .int (nI (brNM mm 12))), (3, .int (sumM mm 3 12)), (4, .int (sumM mm 4 12)), (5, .int (nI 1))]) hx hb dL_town_281 hl10 (by decide) rfl (fun ls11 hl11 => ?_)
        clear hl10
        have loop283 : ∀ (n_ : Nat) (c : Nat) (w1 : va_W), (c ≤ 3) → (XN T xa w1 mm past kp) → (3 - c) < n_ → ∀ (H : Heap) (locs : List Loc), va_P D vwCl (fl [w1]) H → va_D A (fl [w1]) → va_S A sX.heap H locs → ∀ ls : Array Slot, lv_has ls 11 [(0, .ref xa), (1, .int (sumM mm 0 12)), (2, .int (nI (brNM mm 12))), (3, .int (sumM mm 3 12)), (4, .int (sumM mm 4 12)), (5, .int (nI 1)), (6, .int (nI (rdT mm c))), (7, .int (nI c))] → W pX l eX (rmD 9 0 0) sX mX ([.ref xa] : List Value).toArray bX mtX cX H locs 0 0 TG (F0 mX 283 ls []) := by
          intro n_
          induction n_ with
          | zero => intro c w1 hc hI hmu_ ; exact absurd hmu_ (Nat.not_lt_zero _)
          | succ n_ ih283 =>
            intro c w1 hc hI hmu_283 H13 locs13 hP13 hD13 hS13 ls13 hl13
            refine lv_iload hx hb dL_town_283 (lv_at hl13 7 rfl) ?_
            refine lv_iconst (v := nI 3) hx hb dL_town_285 (by decide) ?_
            refine n_icmp_ge (tgt := 460) hx hb (by omega) (by omega) dL_town_286 (by decide) (fun c_286 => ?_) (fun c_286 => ?_)
            · skip
              have hc3 : c = 3 := by omega
              subst hc3
              have hb12 := brNM_le mm 12
              have hrT := rdT_le hS 3 (by omega)
              refine lv_iload hx hb dL_town_460 (lv_at hl13 5 rfl) ?_
              refine n_if_eq (tgt := 534) hx hb (by omega) dL_town_462 (by decide) (fun c15 => absurd c15 (by decide)) (fun c15 => ?_)
              refine lv_iload_n hx hb dL_town_465 rfl (lv_at hl13 1 rfl) ?_
              refine lv_aload_n hx hb dL_town_466 rfl (lv_at hl13 0 rfl) ?_
              refine lv_iconst (v := nI 1) hx hb dL_town_467 (by decide) ?_
              obtain ⟨fs16, hfs16⟩ := XINV.recv hI
              have hPc16 : va_P D vwCl (fl [w1]) _ := flP_sub hP13 [0] rfl
              have hDc16 : va_D A (fl [w1]) := flD_sub hD13 [0] (by decide) rfl
              refine cl_i (br := []) (va_runV (As := [.int (nI 1)]) (rest := [.int (sumM mm 0 12)]) ⟨hx, hb, hml, hown, hts⟩ (e_X5_count l D T hI 1 (by omega) _) (mkV hts okX5_count kw_349 kw_350 kw_351 ⟨rfl, rfl, (Nat.le_of_ble_eq_true rfl), (Nat.le_of_ble_eq_true rfl)⟩) (pv_rw hK hPc16 hDc16 hfs16 (q := (RX5, TX5, 5)) rfl rfl) rfl rfl hl13.1 rfl (lv_room (Nat.le_of_ble_eq_true rfl)) dL_town_468 ⟨(Nat.le_of_ble_eq_true rfl), (Nat.le_of_ble_eq_true rfl)⟩) hP13 hD13 hS13 hA [] [0] rfl (by decide) (fun r_16 w_16 H17 locs17 hq_16 hP17 hD17 hS17 => ?_)
              clear hP13 hD13 hS13 hPc16 hDc16 hfs16 hI
              obtain ⟨hr_16, hI⟩ := hq_16
              have hr_16 : r_16 = sumM mm 0 12 := hr_16
              subst hr_16
              have hP17 : va_P D vwCl (fl [w_16]) _ := hP17
              have hD17 : va_D A (fl [w_16]) := hD17
              refine lv_icmp_ne (tgt := 534) hx hb dL_town_471 (by decide) (fun c18 => absurd c18 (fun q => q rfl)) (fun c18 => ?_)
              refine lv_iload_n hx hb dL_town_474 rfl (lv_at hl13 2 rfl) ?_
              refine lv_aload_n hx hb dL_town_475 rfl (lv_at hl13 0 rfl) ?_
              refine lv_iconst (v := nI 2) hx hb dL_town_476 (by decide) ?_
              obtain ⟨fs19, hfs19⟩ := XINV.recv hI
              have hPc19 : va_P D vwCl (fl [w_16]) _ := flP_sub hP17 [0] rfl
              have hDc19 : va_D A (fl [w_16]) := flD_sub hD17 [0] (by decide) rfl
              refine cl_i (br := []) (va_runV (As := [.int (nI 2)]) (rest := [.int (nI (brNM mm 12))]) ⟨hx, hb, hml, hown, hts⟩ (e_X5_count l D T hI 2 (by omega) _) (mkV hts okX5_count kw_349 kw_350 kw_351 ⟨rfl, rfl, (Nat.le_of_ble_eq_true rfl), (Nat.le_of_ble_eq_true rfl)⟩) (pv_rw hK hPc19 hDc19 hfs19 (q := (RX5, TX5, 5)) rfl rfl) rfl rfl hl13.1 rfl (lv_room (Nat.le_of_ble_eq_true rfl)) dL_town_477 ⟨(Nat.le_of_ble_eq_true rfl), (Nat.le_of_ble_eq_true rfl)⟩) hP17 hD17 hS17 hA [] [0] rfl (by decide) (fun r_19 w_19 H20 locs20 hq_19 hP20 hD20 hS20 => ?_)
              clear hP17 hD17 hS17 hPc19 hDc19 hfs19 hI
              obtain ⟨hr_19, hI⟩ := hq_19
              have hr_19 : r_19 = nI (brNM mm 12) := hr_19
              subst hr_19
              have hP20 : va_P D vwCl (fl [w_19]) _ := hP20
              have hD20 : va_D A (fl [w_19]) := hD20
              refine n_icmp_ne (tgt := 534) hx hb (by omega) (by omega) dL_town_480 (by decide) (fun c21 => absurd c21 (by omega)) (fun c21 => ?_)
              refine lv_iload_n hx hb dL_town_483 rfl (lv_at hl13 3 rfl) ?_
              refine lv_aload_n hx hb dL_town_484 rfl (lv_at hl13 0 rfl) ?_
              refine lv_iconst (v := nI 3) hx hb dL_town_485 (by decide) ?_
              obtain ⟨fs22, hfs22⟩ := XINV.recv hI
              have hPc22 : va_P D vwCl (fl [w_19]) _ := flP_sub hP20 [0] rfl
              have hDc22 : va_D A (fl [w_19]) := flD_sub hD20 [0] (by decide) rfl
              refine cl_i (br := []) (va_runV (As := [.int (nI 3)]) (rest := [.int (sumM mm 3 12)]) ⟨hx, hb, hml, hown, hts⟩ (e_X5_count l D T hI 3 (by omega) _) (mkV hts okX5_count kw_349 kw_350 kw_351 ⟨rfl, rfl, (Nat.le_of_ble_eq_true rfl), (Nat.le_of_ble_eq_true rfl)⟩) (pv_rw hK hPc22 hDc22 hfs22 (q := (RX5, TX5, 5)) rfl rfl) rfl rfl hl13.1 rfl (lv_room (Nat.le_of_ble_eq_true rfl)) dL_town_486 ⟨(Nat.le_of_ble_eq_true rfl), (Nat.le_of_ble_eq_true rfl)⟩) hP20 hD20 hS20 hA [] [0] rfl (by decide) (fun r_22 w_22 H23 locs23 hq_22 hP23 hD23 hS23 => ?_)
              clear hP20 hD20 hS20 hPc22 hDc22 hfs22 hI
              obtain ⟨hr_22, hI⟩ := hq_22
              have hr_22 : r_22 = sumM mm 3 12 := hr_22
              subst hr_22
              have hP23 : va_P D vwCl (fl [w_22]) _ := hP23
              have hD23 : va_D A (fl [w_22]) := hD23
              refine lv_icmp_ne (tgt := 534) hx hb dL_town_489 (by decide) (fun c24 => absurd c24 (fun q => q rfl)) (fun c24 => ?_)
              refine lv_iload hx hb dL_town_492 (lv_at hl13 4 rfl) ?_
              refine lv_aload_n hx hb dL_town_494 rfl (lv_at hl13 0 rfl) ?_
              refine lv_iconst (v := nI 4) hx hb dL_town_495 (by decide) ?_
              obtain ⟨fs25, hfs25⟩ := XINV.recv hI
              have hPc25 : va_P D vwCl (fl [w_22]) _ := flP_sub hP23 [0] rfl
              have hDc25 : va_D A (fl [w_22]) := flD_sub hD23 [0] (by decide) rfl
              refine cl_i (br := []) (va_runV (As := [.int (nI 4)]) (rest := [.int (sumM mm 4 12)]) ⟨hx, hb, hml, hown, hts⟩ (e_X5_count l D T hI 4 (by omega) _) (mkV hts okX5_count kw_349 kw_350 kw_351 ⟨rfl, rfl, (Nat.le_of_ble_eq_true rfl), (Nat.le_of_ble_eq_true rfl)⟩) (pv_rw hK hPc25 hDc25 hfs25 (q := (RX5, TX5, 5)) rfl rfl) rfl rfl hl13.1 rfl (lv_room (Nat.le_of_ble_eq_true rfl)) dL_town_496 ⟨(Nat.le_of_ble_eq_true rfl), (Nat.le_of_ble_eq_true rfl)⟩) hP23 hD23 hS23 hA [] [0] rfl (by decide) (fun r_25 w_25 H26 locs26 hq_25 hP26 hD26 hS26 => ?_)
              clear hP23 hD23 hS23 hPc25 hDc25 hfs25 hI
              obtain ⟨hr_25, hI⟩ := hq_25
              have hr_25 : r_25 = sumM mm 4 12 := hr_25
              subst hr_25
              have hP26 : va_P D vwCl (fl [w_25]) _ := hP26
              have hD26 : va_D A (fl [w_25]) := hD26
              refine lv_icmp_ne (tgt := 534) hx hb dL_town_499 (by decide) (fun c27 => absurd c27 (fun q => q rfl)) (fun c27 => ?_)
              refine lv_iload hx hb dL_town_502 (lv_at hl13 6 rfl) ?_
              refine lv_aload_n hx hb dL_town_504 rfl (lv_at hl13 0 rfl) ?_
              refine lv_bipush (v := nI 6) hx hb dL_town_505 (by decide) ?_
              obtain ⟨fs28, hfs28⟩ := XINV.recv hI
              have hPc28 : va_P D vwCl (fl [w_25]) _ := flP_sub hP26 [0] rfl
              have hDc28 : va_D A (fl [w_25]) := flD_sub hD26 [0] (by decide) rfl
              refine cl_i (br := []) (va_runV (As := [.int (nI 6)]) (rest := [.int (nI (rdT mm 3))]) ⟨hx, hb, hml, hown, hts⟩ (e_X5_count l D T hI 6 (by omega) _) (mkV hts okX5_count kw_349 kw_350 kw_351 ⟨rfl, rfl, (Nat.le_of_ble_eq_true rfl), (Nat.le_of_ble_eq_true rfl)⟩) (pv_rw hK hPc28 hDc28 hfs28 (q := (RX5, TX5, 5)) rfl rfl) rfl rfl hl13.1 rfl (lv_room (Nat.le_of_ble_eq_true rfl)) dL_town_507 ⟨(Nat.le_of_ble_eq_true rfl), (Nat.le_of_ble_eq_true rfl)⟩) hP26 hD26 hS26 hA [] [0] rfl (by decide) (fun r_28 w_28 H29 locs29 hq_28 hP29 hD29 hS29 => ?_)
              clear hP26 hD26 hS26 hPc28 hDc28 hfs28 hI
              obtain ⟨hr_28, hI⟩ := hq_28
              have hr_28 : r_28 = inR mm := hr_28
              subst hr_28
              have hP29 : va_P D vwCl (fl [w_28]) _ := hP29
              have hD29 : va_D A (fl [w_28]) := hD29
              refine tp_i (y := nI (rdT mm 3)) (inR_rd hS) ?_
              refine n_icmp_ne (tgt := 534) hx hb (by omega) (by omega) dL_town_510 (by decide) (fun c30 => absurd c30 (by omega)) (fun c30 => ?_)
              refine lv_aload_n hx hb dL_town_513 rfl (lv_at hl13 0 rfl) ?_
              obtain ⟨fs31, hfs31⟩ := XINV.recv hI
              have hPc31 : va_P D vwCl (fl [w_28]) _ := flP_sub hP29 [0] rfl
              refine cr_d (va_runV (As := []) (rest := []) ⟨hx, hb, hml, hown, hts⟩ (d_X5_cleanShare l D T hI) (mkV hts okX5_cleanShare kw_430 kw_431 kw_432 ⟨rfl, rfl, (Nat.le_of_ble_eq_true rfl), (Nat.le_of_ble_eq_true rfl)⟩) (pv_ro hK hPc31 hfs31 (q := (RX5, TX5, 5)) rfl rfl) rfl rfl hl13.1 rfl (lv_room (Nat.le_of_ble_eq_true rfl)) dL_town_514 ⟨(Nat.le_of_ble_eq_true rfl), (Nat.le_of_ble_eq_true rfl)⟩) hP29 hS29 (fun r_31 H32 locs32 hqx hP32 hS32 => ?_)
              have hD32 := hD29
              clear hP29 hS29 hPc31 hD29
              subst hqx
              refine lv_bipush (v := nI 12) hx hb dL_town_517 (by decide) ?_
              refine lv_iload_n hx hb dL_town_519 rfl (lv_at hl13 2 rfl) ?_
              refine lv_isub hx hb dL_town_520 ?_
              refine tp_i (y := nI (12 - (brNM mm 12))) (pk_sub (by omega)) ?_
              refine lv_i2d hx hb dL_town_521 ?_
              refine lv_ldc2d (v := 4622945017495814144) hx hb hown (hts _ kw_435) dL_town_522 ?_
              refine lv_ddiv hx hb dL_town_525 (shareD_ok _ (by omega)) ?_
              refine lv_dcmp hx hb dL_town_526 ?_
              refine tp_i (y := nI 0) (shareD_nn _ (by omega)) ?_
              refine n_if_ne (tgt := 534) hx hb (by omega) dL_town_527 (by decide) (fun c33 => absurd c33 (by decide)) (fun c33 => ?_)
              refine lv_iconst (v := nI 1) hx hb dL_town_530 (by decide) ?_
              refine lv_goto (tgt := 535) hx hb dL_town_531 (by decide) ?_
              refine ret_z (b := true) rfl hTG (Nat.le_refl _) (Nat.le_refl _) hx hb hr hlocks (w_28) hP32 hD32 hS32 [0] rfl (by decide) dL_town_535 ?_
              exact ⟨rfl, hI⟩
            · skip
              refine lv_iload hx hb dL_town_289 (lv_at hl13 5 rfl) ?_
              refine n_if_eq (tgt := 460) hx hb (by omega) dL_town_291 (by decide) (fun c34 => absurd c34 (by decide)) (fun c34 => ?_)
              obtain ⟨y, hy⟩ : ∃ y, y = (laI mm (fun _ => 0) 3).2 c := ⟨_, rfl⟩
              have hW : WTS2 mm c y := by rw [hy]; exact waits_2 hS _ (by omega)
              have hlen := (rd_len hS (show c < 3 by omega)).1
              refine lv_aload_n hx hb dL_town_294 rfl (lv_at hl13 0 rfl) ?_
              refine lv_iload hx hb dL_town_295 (lv_at hl13 7 rfl) ?_
              refine lv_iconst (v := nI 0) hx hb dL_town_297 (by decide) ?_
              obtain ⟨fs35, hfs35⟩ := XINV.recv hI
              have hPc35 : va_P D vwCl (fl [w1]) _ := flP_sub hP13 [0] rfl
              have hDc35 : va_D A (fl [w1]) := flD_sub hD13 [0] (by decide) rfl
              refine cl_i (br := []) (va_runV (As := [.int (nI c), .int (nI 0)]) (rest := []) ⟨hx, hb, hml, hown, hts⟩ (e_X5_round l D T hI c 0 (by omega) (by omega) _) (mkV hts okX5_round kw_419 kw_420 kw_421 ⟨rfl, rfl, (Nat.le_of_ble_eq_true rfl), (Nat.le_of_ble_eq_true rfl)⟩) (pv_rw hK hPc35 hDc35 hfs35 (q := (RX5, TX5, 5)) rfl rfl) rfl rfl hl13.1 rfl (lv_room (Nat.le_of_ble_eq_true rfl)) dL_town_298 ⟨(Nat.le_of_ble_eq_true rfl), (Nat.le_of_ble_eq_true rfl)⟩) hP13 hD13 hS13 hA [] [0] rfl (by decide) (fun r_35 w_35 H36 locs36 hq_35 hP36 hD36 hS36 => ?_)
              clear hP13 hD13 hS13 hPc35 hDc35 hfs35 hI
              obtain ⟨hr_35, hI⟩ := hq_35
              have hr_35 : r_35 = rdV mm c 0 := hr_35
              subst hr_35
              have hP36 : va_P D vwCl (fl [w_35]) _ := hP36
              have hD36 : va_D A (fl [w_35]) := hD36
              refine tp_i (y := frM mm c) (rd_0 hS (by omega)) ?_
              refine lv_istore (lv' := [(8, .int (frM mm c)), (0, .ref xa), (1, .int (sumM mm 0 12)), (2, .int (nI (brNM mm 12))), (3, .int (sumM mm 3 12)), (4, .int (sumM mm 4 12)), (5, .int (nI 1)), (6, .int (nI (rdT mm c))), (7, .int (nI c))]) hx hb dL_town_301 hl13 (by decide) rfl (fun ls37 hl37 => ?_)
              clear hl13
              refine lv_aload_n hx hb dL_town_303 rfl (lv_at hl37 1 rfl) ?_
              refine lv_iload hx hb dL_town_304 (lv_at hl37 8 rfl) ?_
              obtain ⟨fs38, hfs38⟩ := XINV.recv hI
              have hPc38 : va_P D vwCl (fl [w_35]) _ := flP_sub hP36 [0] rfl
              have hDc38 : va_D A (fl [w_35]) := flD_sub hD36 [0] (by decide) rfl
              refine cl_i (br := []) (va_runV (As := [.int (nI c)]) (rest := []) ⟨hx, hb, hml, hown, hts⟩ (e_X5_waits l D T hI c (by omega) _) (mkV hts okX5_waits kw_425 kw_426 kw_427 ⟨rfl, rfl, (Nat.le_of_ble_eq_true rfl), (Nat.le_of_ble_eq_true rfl)⟩) (pv_rw hK hPc38 hDc38 hfs38 (q := (RX5, TX5, 5)) rfl rfl) rfl rfl hl37.1 rfl (lv_room (Nat.le_of_ble_eq_true rfl)) dL_town_306 ⟨(Nat.le_of_ble_eq_true rfl), (Nat.le_of_ble_eq_true rfl)⟩) hP36 hD36 hS36 hA [] [0] rfl (by decide) (fun r_38 w_38 H39 locs39 hq_38 hP39 hD39 hS39 => ?_)
              clear hP36 hD36 hS36 hPc38 hDc38 hfs38 hI
              obtain ⟨hr_38, hI⟩ := hq_38
              have hr_38 : r_38 = (laI mm (fun _ => 0) 3).2 c := hr_38
              subst hr_38
              have hP39 : va_P D vwCl (fl [w_38]) _ := hP39
              have hD39 : va_D A (fl [w_38]) := hD39
              refine tp_i (y := y) (hy.symm) ?_
              refine lv_istore (lv' := [(9, .int y), (8, .int (frM mm c)), (0, .ref xa), (1, .int (sumM mm 0 12)), (2, .int (nI (brNM mm 12))), (3, .int (sumM mm 3 12)), (4, .int (sumM mm 4 12)), (5, .int (nI 1)), (6, .int (nI (rdT mm c))), (7, .int (nI c))]) hx hb dL_town_309 hl37 (by decide) rfl (fun ls40 hl40 => ?_)
              clear hl37
              refine lv_iconst (v := nI 0) hx hb dL_town_311 (by decide) ?_
              refine lv_istore (lv' := [(10, .int (nI 0)), (9, .int y), (8, .int (frM mm c)), (0, .ref xa), (1, .int (sumM mm 0 12)), (2, .int (nI (brNM mm 12))), (3, .int (sumM mm 3 12)), (4, .int (sumM mm 4 12)), (5, .int (nI 1)), (6, .int (nI (rdT mm c))), (7, .int (nI c))]) hx hb dL_town_312 hl40 (by decide) rfl (fun ls41 hl41 => ?_)
              clear hl40
              have loop314 : ∀ (n_ : Nat) (n : Nat) (w1 : va_W), (n ≤ rdL mm c) → (XN T xa w1 mm past kp) → (rdL mm c - n) < n_ → ∀ (H : Heap) (locs : List Loc), va_P D vwCl (fl [w1]) H → va_D A (fl [w1]) → va_S A sX.heap H locs → ∀ ls : Array Slot, lv_has ls 11 [(0, .ref xa), (1, .int (sumM mm 0 12)), (2, .int (nI (brNM mm 12))), (3, .int (sumM mm 3 12)), (4, .int (sumM mm 4 12)), (5, .int (nI 1)), (6, .int (nI (rdT mm c))), (7, .int (nI c)), (8, .int (frM mm c)), (9, .int y), (10, .int (nI n))] → W pX l eX (rmD 9 0 0) sX mX ([.ref xa] : List Value).toArray bX mtX cX H locs 0 0 TG (F0 mX 314 ls []) := by
                intro n_
                induction n_ with
                | zero => intro n w1 hn hI hmu_ ; exact absurd hmu_ (Nat.not_lt_zero _)
                | succ n_ ih314 =>
                  intro n w1 hn hI hmu_314 H43 locs43 hP43 hD43 hS43 ls43 hl43
                  by_cases hj : n < rdL mm c
                  · skip
                    obtain ⟨t0, ht0, et0⟩ := rd_in hS (show c < 3 by omega) hj
                    refine lv_aload_n hx hb dL_town_314 rfl (lv_at hl43 0 rfl) ?_
                    refine lv_iload hx hb dL_town_315 (lv_at hl43 7 rfl) ?_
                    refine lv_iload hx hb dL_town_317 (lv_at hl43 10 rfl) ?_
                    obtain ⟨fs44, hfs44⟩ := XINV.recv hI
                    have hPc44 : va_P D vwCl (fl [w1]) _ := flP_sub hP43 [0] rfl
                    have hDc44 : va_D A (fl [w1]) := flD_sub hD43 [0] (by decide) rfl
                    refine cl_i (br := []) (va_runV (As := [.int (nI c), .int (nI n)]) (rest := []) ⟨hx, hb, hml, hown, hts⟩ (e_X5_round l D T hI c n (by omega) (by omega) _) (mkV hts okX5_round kw_419 kw_420 kw_421 ⟨rfl, rfl, (Nat.le_of_ble_eq_true rfl), (Nat.le_of_ble_eq_true rfl)⟩) (pv_rw hK hPc44 hDc44 hfs44 (q := (RX5, TX5, 5)) rfl rfl) rfl rfl hl43.1 rfl (lv_room (Nat.le_of_ble_eq_true rfl)) dL_town_319 ⟨(Nat.le_of_ble_eq_true rfl), (Nat.le_of_ble_eq_true rfl)⟩) hP43 hD43 hS43 hA [] [0] rfl (by decide) (fun r_44 w_44 H45 locs45 hq_44 hP45 hD45 hS45 => ?_)
                    clear hP43 hD43 hS43 hPc44 hDc44 hfs44 hI
                    obtain ⟨hr_44, hI⟩ := hq_44
                    have hr_44 : r_44 = rdV mm c n := hr_44
                    subst hr_44
                    have hP45 : va_P D vwCl (fl [w_44]) _ := hP45
                    have hD45 : va_D A (fl [w_44]) := hD45
                    refine tp_i (y := nI t0) (et0) ?_
                    refine n_if_lt hx hb (by omega) dL_town_322 331 (by decide) ?_
                    refine lv_iinc (v := nI (n + 1)) (lv' := [(10, .int (nI (n + 1))), (0, .ref xa), (1, .int (sumM mm 0 12)), (2, .int (nI (brNM mm 12))), (3, .int (sumM mm 3 12)), (4, .int (sumM mm 4 12)), (5, .int (nI 1)), (6, .int (nI (rdT mm c))), (7, .int (nI c)), (8, .int (frM mm c)), (9, .int y)]) hx hb dL_town_325 hl43 (k := 10) rfl (nI_add n 1) (by decide) rfl (fun ls46 hl46 => ?_)
                    clear hl43
                    refine lv_goto (tgt := 314) hx hb dL_town_328 (by decide) ?_
                    exact ih314 (n + 1) w_44 (by omega) (hI) (by omega) _ _ hP45 hD45 hS45 _ (lv_sub hl46 [1, 2, 3, 4, 5, 6, 7, 8, 9, 10, 0] rfl)
                  · skip
                    have hn2 : n = rdL mm c := by omega
                    subst hn2
                    refine lv_aload_n hx hb dL_town_314 rfl (lv_at hl43 0 rfl) ?_
                    refine lv_iload hx hb dL_town_315 (lv_at hl43 7 rfl) ?_
                    refine lv_iload hx hb dL_town_317 (lv_at hl43 10 rfl) ?_
                    obtain ⟨fs47, hfs47⟩ := XINV.recv hI
                    have hPc47 : va_P D vwCl (fl [w1]) _ := flP_sub hP43 [0] rfl
                    have hDc47 : va_D A (fl [w1]) := flD_sub hD43 [0] (by decide) rfl
                    refine cl_i (br := []) (va_runV (As := [.int (nI c), .int (nI (rdL mm c))]) (rest := []) ⟨hx, hb, hml, hown, hts⟩ (e_X5_round l D T hI c (rdL mm c) (by omega) (by omega) _) (mkV hts okX5_round kw_419 kw_420 kw_421 ⟨rfl, rfl, (Nat.le_of_ble_eq_true rfl), (Nat.le_of_ble_eq_true rfl)⟩) (pv_rw hK hPc47 hDc47 hfs47 (q := (RX5, TX5, 5)) rfl rfl) rfl rfl hl43.1 rfl (lv_room (Nat.le_of_ble_eq_true rfl)) dL_town_319 ⟨(Nat.le_of_ble_eq_true rfl), (Nat.le_of_ble_eq_true rfl)⟩) hP43 hD43 hS43 hA [] [0] rfl (by decide) (fun r_47 w_47 H48 locs48 hq_47 hP48 hD48 hS48 => ?_)
                    clear hP43 hD43 hS43 hPc47 hDc47 hfs47 hI
                    obtain ⟨hr_47, hI⟩ := hq_47
                    have hr_47 : r_47 = rdV mm c (rdL mm c) := hr_47
                    subst hr_47
                    have hP48 : va_P D vwCl (fl [w_47]) _ := hP48
                    have hD48 : va_D A (fl [w_47]) := hD48
                    refine tp_i (y := (-1)) (rd_out hj) ?_
                    refine lv_if_lt (tgt := 331) hx hb dL_town_322 (by decide) (fun c49 => ?_) (fun c49 => absurd (by decide) c49)
                    refine lv_iload hx hb dL_town_331 (lv_at hl43 6 rfl) ?_
                    refine lv_iload hx hb dL_town_333 (lv_at hl43 10 rfl) ?_
                    refine lv_iadd hx hb dL_town_335 ?_
                    refine tp_i (y := nI (rdT mm c + (rdL mm c))) (nI_add _ _) ?_
                    refine lv_istore (lv' := [(6, .int (nI (rdT mm c + (rdL mm c)))), (0, .ref xa), (1, .int (sumM mm 0 12)), (2, .int (nI (brNM mm 12))), (3, .int (sumM mm 3 12)), (4, .int (sumM mm 4 12)), (5, .int (nI 1)), (7, .int (nI c)), (8, .int (frM mm c)), (9, .int y), (10, .int (nI (rdL mm c)))]) hx hb dL_town_336 hl43 (by decide) rfl (fun ls50 hl50 => ?_)
                    clear hl43
                    refine lv_iload hx hb dL_town_338 (lv_at hl50 10 rfl) ?_
                    refine lv_bipush (v := nI 8) hx hb dL_town_340 (by decide) ?_
                    refine n_icmp_gt (tgt := 451) hx hb (by omega) (by omega) dL_town_342 (by decide) (fun c51 => absurd c51 (by omega)) (fun c51 => ?_)
                    rcases hW with ⟨hf, rfl⟩ | ⟨t, ht, hf, (rfl | ⟨rfl, hc0, hfk⟩ | ⟨rfl, hc0, hfk⟩ | rfl | ⟨rfl, hsr, ht0, hbr⟩)⟩
                    · skip
                      rw [hf] at hl50
                      refine lv_iload hx hb dL_town_345 (lv_at hl50 9 rfl) ?_
                      refine lv_iconst (v := (-1)) hx hb dL_town_347 (by decide) ?_
                      refine lv_icmp_ne (tgt := 355) hx hb dL_town_348 (by decide) (fun c52 => absurd c52 (fun q => q rfl)) (fun c52 => ?_)
                      refine lv_iconst (v := nI 1) hx hb dL_town_351 (by decide) ?_
                      refine lv_goto (tgt := 356) hx hb dL_town_352 (by decide) ?_
                      refine lv_iload hx hb dL_town_356 (lv_at hl50 8 rfl) ?_
                      refine lv_iconst (v := (-1)) hx hb dL_town_358 (by decide) ?_
                      refine lv_icmp_ne (tgt := 366) hx hb dL_town_359 (by decide) (fun c53 => absurd c53 (fun q => q rfl)) (fun c53 => ?_)
                      refine lv_iconst (v := nI 1) hx hb dL_town_362 (by decide) ?_
                      refine lv_goto (tgt := 367) hx hb dL_town_363 (by decide) ?_
                      refine n_icmp_ne (tgt := 451) hx hb (by omega) (by omega) dL_town_367 (by decide) (fun c54 => absurd c54 (by decide)) (fun c54 => ?_)
                      refine lv_iload hx hb dL_town_370 (lv_at hl50 7 rfl) ?_
                      refine n_if_gt (tgt := 381) hx hb (by omega) dL_town_372 (by decide) (fun c_372 => ?_) (fun c_372 => ?_)
                      · skip
                        refine lv_iload hx hb dL_town_381 (lv_at hl50 9 rfl) ?_
                        refine lv_iconst (v := nI 3) hx hb dL_town_383 (by decide) ?_
                        refine lv_icmp_gt (tgt := 451) hx hb dL_town_384 (by decide) (fun c56 => absurd c56 (by decide)) (fun c56 => ?_)
                        refine lv_iload hx hb dL_town_387 (lv_at hl50 9 rfl) ?_
                        refine lv_iconst (v := nI 3) hx hb dL_town_389 (by decide) ?_
                        refine lv_icmp_ne (tgt := 419) hx hb dL_town_390 (by decide) (fun c57 => ?_) (fun c57 => absurd c57 (by decide))
                        refine lv_iload hx hb dL_town_419 (lv_at hl50 9 rfl) ?_
                        refine lv_iconst (v := nI 1) hx hb dL_town_421 (by decide) ?_
                        refine lv_icmp_ne (tgt := 447) hx hb dL_town_422 (by decide) (fun c58 => ?_) (fun c58 => absurd c58 (by decide))
                        refine lv_iconst (v := nI 1) hx hb dL_town_447 (by decide) ?_
                        refine lv_goto (tgt := 452) hx hb dL_town_448 (by decide) ?_
                        refine lv_istore (lv' := [(5, .int (nI 1)), (6, .int (nI (rdT mm c + (rdL mm c)))), (0, .ref xa), (1, .int (sumM mm 0 12)), (2, .int (nI (brNM mm 12))), (3, .int (sumM mm 3 12)), (4, .int (sumM mm 4 12)), (7, .int (nI c)), (8, .int (-1)), (9, .int (-1)), (10, .int (nI (rdL mm c)))]) hx hb dL_town_452 hl50 (by decide) rfl (fun ls59 hl59 => ?_)
                        clear hl50
                        refine lv_iinc (v := nI (c + 1)) (lv' := [(7, .int (nI (c + 1))), (5, .int (nI 1)), (6, .int (nI (rdT mm c + (rdL mm c)))), (0, .ref xa), (1, .int (sumM mm 0 12)), (2, .int (nI (brNM mm 12))), (3, .int (sumM mm 3 12)), (4, .int (sumM mm 4 12)), (8, .int (-1)), (9, .int (-1)), (10, .int (nI (rdL mm c)))]) hx hb dL_town_454 hl59 (k := 7) rfl (nI_add c 1) (by decide) rfl (fun ls60 hl60 => ?_)
                        clear hl59
                        refine lv_goto (tgt := 283) hx hb dL_town_457 (by decide) ?_
                        exact ih283 (c + 1) w_47 (by omega) (hI) (by omega) _ _ hP48 hD48 hS48 _ (lv_sub hl60 [3, 4, 5, 6, 7, 1, 2, 0] rfl)
                      · skip
                        refine lv_iload hx hb dL_town_375 (lv_at hl50 9 rfl) ?_
                        refine lv_iconst (v := nI 1) hx hb dL_town_377 (by decide) ?_
                        refine lv_icmp_eq (tgt := 451) hx hb dL_town_378 (by decide) (fun c61 => absurd c61 (by decide)) (fun c61 => ?_)
                        refine lv_iload hx hb dL_town_381 (lv_at hl50 9 rfl) ?_
                        refine lv_iconst (v := nI 3) hx hb dL_town_383 (by decide) ?_
                        refine lv_icmp_gt (tgt := 451) hx hb dL_town_384 (by decide) (fun c62 => absurd c62 (by decide)) (fun c62 => ?_)
                        refine lv_iload hx hb dL_town_387 (lv_at hl50 9 rfl) ?_
                        refine lv_iconst (v := nI 3) hx hb dL_town_389 (by decide) ?_
                        refine lv_icmp_ne (tgt := 419) hx hb dL_town_390 (by decide) (fun c63 => ?_) (fun c63 => absurd c63 (by decide))
                        refine lv_iload hx hb dL_town_419 (lv_at hl50 9 rfl) ?_
                        refine lv_iconst (v := nI 1) hx hb dL_town_421 (by decide) ?_
                        refine lv_icmp_ne (tgt := 447) hx hb dL_town_422 (by decide) (fun c64 => ?_) (fun c64 => absurd c64 (by decide))
                        refine lv_iconst (v := nI 1) hx hb dL_town_447 (by decide) ?_
                        refine lv_goto (tgt := 452) hx hb dL_town_448 (by decide) ?_
                        refine lv_istore (lv' := [(5, .int (nI 1)), (6, .int (nI (rdT mm c + (rdL mm c)))), (0, .ref xa), (1, .int (sumM mm 0 12)), (2, .int (nI (brNM mm 12))), (3, .int (sumM mm 3 12)), (4, .int (sumM mm 4 12)), (7, .int (nI c)), (8, .int (-1)), (9, .int (-1)), (10, .int (nI (rdL mm c)))]) hx hb dL_town_452 hl50 (by decide) rfl (fun ls65 hl65 => ?_)
                        clear hl50
                        refine lv_iinc (v := nI (c + 1)) (lv' := [(7, .int (nI (c + 1))), (5, .int (nI 1)), (6, .int (nI (rdT mm c + (rdL mm c)))), (0, .ref xa), (1, .int (sumM mm 0 12)), (2, .int (nI (brNM mm 12))), (3, .int (sumM mm 3 12)), (4, .int (sumM mm 4 12)), (8, .int (-1)), (9, .int (-1)), (10, .int (nI (rdL mm c)))]) hx hb dL_town_454 hl65 (k := 7) rfl (nI_add c 1) (by decide) rfl (fun ls66 hl66 => ?_)
                        clear hl65
                        refine lv_goto (tgt := 283) hx hb dL_town_457 (by decide) ?_
                        exact ih283 (c + 1) w_47 (by omega) (hI) (by omega) _ _ hP48 hD48 hS48 _ (lv_sub hl66 [3, 4, 5, 6, 7, 1, 2, 0] rfl)
                    · skip
                      rw [hf] at hl50
                      refine lv_iload hx hb dL_town_345 (lv_at hl50 9 rfl) ?_
                      refine lv_iconst (v := (-1)) hx hb dL_town_347 (by decide) ?_
                      refine lv_icmp_ne (tgt := 355) hx hb dL_town_348 (by decide) (fun c67 => ?_) (fun c67 => absurd c67 (by decide))
                      refine lv_iconst (v := nI 0) hx hb dL_town_355 (by decide) ?_
                      refine lv_iload hx hb dL_town_356 (lv_at hl50 8 rfl) ?_
                      refine lv_iconst (v := (-1)) hx hb dL_town_358 (by decide) ?_
                      refine lv_icmp_ne (tgt := 366) hx hb dL_town_359 (by decide) (fun c68 => ?_) (fun c68 => absurd c68 (nI_nm1 (by omega)))
                      refine lv_iconst (v := nI 0) hx hb dL_town_366 (by decide) ?_
                      refine n_icmp_ne (tgt := 451) hx hb (by omega) (by omega) dL_town_367 (by decide) (fun c69 => absurd c69 (by decide)) (fun c69 => ?_)
                      refine lv_iload hx hb dL_town_370 (lv_at hl50 7 rfl) ?_
                      refine n_if_gt (tgt := 381) hx hb (by omega) dL_town_372 (by decide) (fun c_372 => ?_) (fun c_372 => ?_)
                      · skip
                        refine lv_iload hx hb dL_town_381 (lv_at hl50 9 rfl) ?_
                        refine lv_iconst (v := nI 3) hx hb dL_town_383 (by decide) ?_
                        refine n_icmp_gt (tgt := 451) hx hb (by omega) (by omega) dL_town_384 (by decide) (fun c71 => absurd c71 (by omega)) (fun c71 => ?_)
                        refine lv_iload hx hb dL_town_387 (lv_at hl50 9 rfl) ?_
                        refine lv_iconst (v := nI 3) hx hb dL_town_389 (by decide) ?_
                        refine n_icmp_ne (tgt := 419) hx hb (by omega) (by omega) dL_town_390 (by decide) (fun c72 => ?_) (fun c72 => absurd c72 (by decide))
                        refine lv_iload hx hb dL_town_419 (lv_at hl50 9 rfl) ?_
                        refine lv_iconst (v := nI 1) hx hb dL_town_421 (by decide) ?_
                        refine n_icmp_ne (tgt := 447) hx hb (by omega) (by omega) dL_town_422 (by decide) (fun c73 => ?_) (fun c73 => absurd c73 (by decide))
                        refine lv_iconst (v := nI 1) hx hb dL_town_447 (by decide) ?_
                        refine lv_goto (tgt := 452) hx hb dL_town_448 (by decide) ?_
                        refine lv_istore (lv' := [(5, .int (nI 1)), (6, .int (nI (rdT mm c + (rdL mm c)))), (0, .ref xa), (1, .int (sumM mm 0 12)), (2, .int (nI (brNM mm 12))), (3, .int (sumM mm 3 12)), (4, .int (sumM mm 4 12)), (7, .int (nI c)), (8, .int (nI t)), (9, .int (nI 0)), (10, .int (nI (rdL mm c)))]) hx hb dL_town_452 hl50 (by decide) rfl (fun ls74 hl74 => ?_)
                        clear hl50
                        refine lv_iinc (v := nI (c + 1)) (lv' := [(7, .int (nI (c + 1))), (5, .int (nI 1)), (6, .int (nI (rdT mm c + (rdL mm c)))), (0, .ref xa), (1, .int (sumM mm 0 12)), (2, .int (nI (brNM mm 12))), (3, .int (sumM mm 3 12)), (4, .int (sumM mm 4 12)), (8, .int (nI t)), (9, .int (nI 0)), (10, .int (nI (rdL mm c)))]) hx hb dL_town_454 hl74 (k := 7) rfl (nI_add c 1) (by decide) rfl (fun ls75 hl75 => ?_)
                        clear hl74
                        refine lv_goto (tgt := 283) hx hb dL_town_457 (by decide) ?_
                        exact ih283 (c + 1) w_47 (by omega) (hI) (by omega) _ _ hP48 hD48 hS48 _ (lv_sub hl75 [3, 4, 5, 6, 7, 1, 2, 0] rfl)
                      · skip
                        refine lv_iload hx hb dL_town_375 (lv_at hl50 9 rfl) ?_
                        refine lv_iconst (v := nI 1) hx hb dL_town_377 (by decide) ?_
                        refine n_icmp_eq (tgt := 451) hx hb (by omega) (by omega) dL_town_378 (by decide) (fun c76 => absurd c76 (by decide)) (fun c76 => ?_)
                        refine lv_iload hx hb dL_town_381 (lv_at hl50 9 rfl) ?_
                        refine lv_iconst (v := nI 3) hx hb dL_town_383 (by decide) ?_
                        refine n_icmp_gt (tgt := 451) hx hb (by omega) (by omega) dL_town_384 (by decide) (fun c77 => absurd c77 (by omega)) (fun c77 => ?_)
                        refine lv_iload hx hb dL_town_387 (lv_at hl50 9 rfl) ?_
                        refine lv_iconst (v := nI 3) hx hb dL_town_389 (by decide) ?_
                        refine n_icmp_ne (tgt := 419) hx hb (by omega) (by omega) dL_town_390 (by decide) (fun c78 => ?_) (fun c78 => absurd c78 (by decide))
                        refine lv_iload hx hb dL_town_419 (lv_at hl50 9 rfl) ?_
                        refine lv_iconst (v := nI 1) hx hb dL_town_421 (by decide) ?_
                        refine n_icmp_ne (tgt := 447) hx hb (by omega) (by omega) dL_town_422 (by decide) (fun c79 => ?_) (fun c79 => absurd c79 (by decide))
                        refine lv_iconst (v := nI 1) hx hb dL_town_447 (by decide) ?_
                        refine lv_goto (tgt := 452) hx hb dL_town_448 (by decide) ?_
                        refine lv_istore (lv' := [(5, .int (nI 1)), (6, .int (nI (rdT mm c + (rdL mm c)))), (0, .ref xa), (1, .int (sumM mm 0 12)), (2, .int (nI (brNM mm 12))), (3, .int (sumM mm 3 12)), (4, .int (sumM mm 4 12)), (7, .int (nI c)), (8, .int (nI t)), (9, .int (nI 0)), (10, .int (nI (rdL mm c)))]) hx hb dL_town_452 hl50 (by decide) rfl (fun ls80 hl80 => ?_)
                        clear hl50
                        refine lv_iinc (v := nI (c + 1)) (lv' := [(7, .int (nI (c + 1))), (5, .int (nI 1)), (6, .int (nI (rdT mm c + (rdL mm c)))), (0, .ref xa), (1, .int (sumM mm 0 12)), (2, .int (nI (brNM mm 12))), (3, .int (sumM mm 3 12)), (4, .int (sumM mm 4 12)), (8, .int (nI t)), (9, .int (nI 0)), (10, .int (nI (rdL mm c)))]) hx hb dL_town_454 hl80 (k := 7) rfl (nI_add c 1) (by decide) rfl (fun ls81 hl81 => ?_)
                        clear hl80
                        refine lv_goto (tgt := 283) hx hb dL_town_457 (by decide) ?_
                        exact ih283 (c + 1) w_47 (by omega) (hI) (by omega) _ _ hP48 hD48 hS48 _ (lv_sub hl81 [3, 4, 5, 6, 7, 1, 2, 0] rfl)
                    · skip
                      rw [hf] at hl50
                      refine lv_iload hx hb dL_town_345 (lv_at hl50 9 rfl) ?_
                      refine lv_iconst (v := (-1)) hx hb dL_town_347 (by decide) ?_
                      refine lv_icmp_ne (tgt := 355) hx hb dL_town_348 (by decide) (fun c82 => ?_) (fun c82 => absurd c82 (by decide))
                      refine lv_iconst (v := nI 0) hx hb dL_town_355 (by decide) ?_
                      refine lv_iload hx hb dL_town_356 (lv_at hl50 8 rfl) ?_
                      refine lv_iconst (v := (-1)) hx hb dL_town_358 (by decide) ?_
                      refine lv_icmp_ne (tgt := 366) hx hb dL_town_359 (by decide) (fun c83 => ?_) (fun c83 => absurd c83 (nI_nm1 (by omega)))
                      refine lv_iconst (v := nI 0) hx hb dL_town_366 (by decide) ?_
                      refine n_icmp_ne (tgt := 451) hx hb (by omega) (by omega) dL_town_367 (by decide) (fun c84 => absurd c84 (by decide)) (fun c84 => ?_)
                      refine lv_iload hx hb dL_town_370 (lv_at hl50 7 rfl) ?_
                      refine n_if_gt (tgt := 381) hx hb (by omega) dL_town_372 (by decide) (fun c85 => ?_) (fun c85 => absurd (by omega) c85)
                      refine lv_iload hx hb dL_town_381 (lv_at hl50 9 rfl) ?_
                      refine lv_iconst (v := nI 3) hx hb dL_town_383 (by decide) ?_
                      refine n_icmp_gt (tgt := 451) hx hb (by omega) (by omega) dL_town_384 (by decide) (fun c86 => absurd c86 (by omega)) (fun c86 => ?_)
                      refine lv_iload hx hb dL_town_387 (lv_at hl50 9 rfl) ?_
                      refine lv_iconst (v := nI 3) hx hb dL_town_389 (by decide) ?_
                      refine n_icmp_ne (tgt := 419) hx hb (by omega) (by omega) dL_town_390 (by decide) (fun c87 => ?_) (fun c87 => absurd c87 (by decide))
                      refine lv_iload hx hb dL_town_419 (lv_at hl50 9 rfl) ?_
                      refine lv_iconst (v := nI 1) hx hb dL_town_421 (by decide) ?_
                      refine n_icmp_ne (tgt := 447) hx hb (by omega) (by omega) dL_town_422 (by decide) (fun c88 => absurd c88 (by decide)) (fun c88 => ?_)
                      refine lv_aload_n hx hb dL_town_425 rfl (lv_at hl50 1 rfl) ?_
                      refine lv_iconst (v := nI 0) hx hb dL_town_426 (by decide) ?_
                      refine lv_iconst (v := nI 0) hx hb dL_town_427 (by decide) ?_
                      obtain ⟨fs89, hfs89⟩ := XINV.recv hI
                      have hPc89 : va_P D vwCl (fl [w_47]) _ := flP_sub hP48 [0] rfl
                      have hDc89 : va_D A (fl [w_47]) := flD_sub hD48 [0] (by decide) rfl
                      refine cl_i (br := []) (va_runV (As := [.int (nI 0), .int (nI 0)]) (rest := []) ⟨hx, hb, hml, hown, hts⟩ (e_X5_round l D T hI 0 0 (by omega) (by omega) _) (mkV hts okX5_round kw_419 kw_420 kw_421 ⟨rfl, rfl, (Nat.le_of_ble_eq_true rfl), (Nat.le_of_ble_eq_true rfl)⟩) (pv_rw hK hPc89 hDc89 hfs89 (q := (RX5, TX5, 5)) rfl rfl) rfl rfl hl50.1 rfl (lv_room (Nat.le_of_ble_eq_true rfl)) dL_town_428 ⟨(Nat.le_of_ble_eq_true rfl), (Nat.le_of_ble_eq_true rfl)⟩) hP48 hD48 hS48 hA [] [0] rfl (by decide) (fun r_89 w_89 H90 locs90 hq_89 hP90 hD90 hS90 => ?_)
                      clear hP48 hD48 hS48 hPc89 hDc89 hfs89 hI
                      obtain ⟨hr_89, hI⟩ := hq_89
                      have hr_89 : r_89 = rdV mm 0 0 := hr_89
                      subst hr_89
                      have hP90 : va_P D vwCl (fl [w_89]) _ := hP90
                      have hD90 : va_D A (fl [w_89]) := hD90
                      refine tp_i (y := frM mm 0) (rd_0 hS (by omega)) ?_
                      refine lv_iload hx hb dL_town_431 (lv_at hl50 8 rfl) ?_
                      refine lv_icmp_eq (tgt := 447) hx hb dL_town_433 (by decide) (fun c91 => ?_) (fun c91 => absurd (hfk) c91)
                      refine lv_iconst (v := nI 1) hx hb dL_town_447 (by decide) ?_
                      refine lv_goto (tgt := 452) hx hb dL_town_448 (by decide) ?_
                      refine lv_istore (lv' := [(5, .int (nI 1)), (6, .int (nI (rdT mm c + (rdL mm c)))), (0, .ref xa), (1, .int (sumM mm 0 12)), (2, .int (nI (brNM mm 12))), (3, .int (sumM mm 3 12)), (4, .int (sumM mm 4 12)), (7, .int (nI c)), (8, .int (nI t)), (9, .int (nI 1)), (10, .int (nI (rdL mm c)))]) hx hb dL_town_452 hl50 (by decide) rfl (fun ls92 hl92 => ?_)
                      clear hl50
                      refine lv_iinc (v := nI (c + 1)) (lv' := [(7, .int (nI (c + 1))), (5, .int (nI 1)), (6, .int (nI (rdT mm c + (rdL mm c)))), (0, .ref xa), (1, .int (sumM mm 0 12)), (2, .int (nI (brNM mm 12))), (3, .int (sumM mm 3 12)), (4, .int (sumM mm 4 12)), (8, .int (nI t)), (9, .int (nI 1)), (10, .int (nI (rdL mm c)))]) hx hb dL_town_454 hl92 (k := 7) rfl (nI_add c 1) (by decide) rfl (fun ls93 hl93 => ?_)
                      clear hl92
                      refine lv_goto (tgt := 283) hx hb dL_town_457 (by decide) ?_
                      exact ih283 (c + 1) w_89 (by omega) (hI) (by omega) _ _ hP90 hD90 hS90 _ (lv_sub hl93 [3, 4, 5, 6, 7, 1, 2, 0] rfl)
                    · skip
                      rw [hf] at hl50
                      refine lv_iload hx hb dL_town_345 (lv_at hl50 9 rfl) ?_
                      refine lv_iconst (v := (-1)) hx hb dL_town_347 (by decide) ?_
                      refine lv_icmp_ne (tgt := 355) hx hb dL_town_348 (by decide) (fun c94 => ?_) (fun c94 => absurd c94 (by decide))
                      refine lv_iconst (v := nI 0) hx hb dL_town_355 (by decide) ?_
                      refine lv_iload hx hb dL_town_356 (lv_at hl50 8 rfl) ?_
                      refine lv_iconst (v := (-1)) hx hb dL_town_358 (by decide) ?_
                      refine lv_icmp_ne (tgt := 366) hx hb dL_town_359 (by decide) (fun c95 => ?_) (fun c95 => absurd c95 (nI_nm1 (by omega)))
                      refine lv_iconst (v := nI 0) hx hb dL_town_366 (by decide) ?_
                      refine n_icmp_ne (tgt := 451) hx hb (by omega) (by omega) dL_town_367 (by decide) (fun c96 => absurd c96 (by decide)) (fun c96 => ?_)
                      refine lv_iload hx hb dL_town_370 (lv_at hl50 7 rfl) ?_
                      refine n_if_gt (tgt := 381) hx hb (by omega) dL_town_372 (by decide) (fun c97 => ?_) (fun c97 => absurd (by omega) c97)
                      refine lv_iload hx hb dL_town_381 (lv_at hl50 9 rfl) ?_
                      refine lv_iconst (v := nI 3) hx hb dL_town_383 (by decide) ?_
                      refine n_icmp_gt (tgt := 451) hx hb (by omega) (by omega) dL_town_384 (by decide) (fun c98 => absurd c98 (by omega)) (fun c98 => ?_)
                      refine lv_iload hx hb dL_town_387 (lv_at hl50 9 rfl) ?_
                      refine lv_iconst (v := nI 3) hx hb dL_town_389 (by decide) ?_
                      refine n_icmp_ne (tgt := 419) hx hb (by omega) (by omega) dL_town_390 (by decide) (fun c99 => ?_) (fun c99 => absurd c99 (by decide))
                      refine lv_iload hx hb dL_town_419 (lv_at hl50 9 rfl) ?_
                      refine lv_iconst (v := nI 1) hx hb dL_town_421 (by decide) ?_
                      refine n_icmp_ne (tgt := 447) hx hb (by omega) (by omega) dL_town_422 (by decide) (fun c100 => absurd c100 (by decide)) (fun c100 => ?_)
                      refine lv_aload_n hx hb dL_town_425 rfl (lv_at hl50 1 rfl) ?_
                      refine lv_iconst (v := nI 0) hx hb dL_town_426 (by decide) ?_
                      refine lv_iconst (v := nI 0) hx hb dL_town_427 (by decide) ?_
                      obtain ⟨fs101, hfs101⟩ := XINV.recv hI
                      have hPc101 : va_P D vwCl (fl [w_47]) _ := flP_sub hP48 [0] rfl
                      have hDc101 : va_D A (fl [w_47]) := flD_sub hD48 [0] (by decide) rfl
                      refine cl_i (br := []) (va_runV (As := [.int (nI 0), .int (nI 0)]) (rest := []) ⟨hx, hb, hml, hown, hts⟩ (e_X5_round l D T hI 0 0 (by omega) (by omega) _) (mkV hts okX5_round kw_419 kw_420 kw_421 ⟨rfl, rfl, (Nat.le_of_ble_eq_true rfl), (Nat.le_of_ble_eq_true rfl)⟩) (pv_rw hK hPc101 hDc101 hfs101 (q := (RX5, TX5, 5)) rfl rfl) rfl rfl hl50.1 rfl (lv_room (Nat.le_of_ble_eq_true rfl)) dL_town_428 ⟨(Nat.le_of_ble_eq_true rfl), (Nat.le_of_ble_eq_true rfl)⟩) hP48 hD48 hS48 hA [] [0] rfl (by decide) (fun r_101 w_101 H102 locs102 hq_101 hP102 hD102 hS102 => ?_)
                      clear hP48 hD48 hS48 hPc101 hDc101 hfs101 hI
                      obtain ⟨hr_101, hI⟩ := hq_101
                      have hr_101 : r_101 = rdV mm 0 0 := hr_101
                      subst hr_101
                      have hP102 : va_P D vwCl (fl [w_101]) _ := hP102
                      have hD102 : va_D A (fl [w_101]) := hD102
                      refine tp_i (y := frM mm 0) (rd_0 hS (by omega)) ?_
                      refine lv_iload hx hb dL_town_431 (lv_at hl50 8 rfl) ?_
                      refine lv_icmp_eq (tgt := 447) hx hb dL_town_433 (by decide) (fun c_433 => ?_) (fun c_433 => ?_)
                      · skip
                        refine lv_iconst (v := nI 1) hx hb dL_town_447 (by decide) ?_
                        refine lv_goto (tgt := 452) hx hb dL_town_448 (by decide) ?_
                        refine lv_istore (lv' := [(5, .int (nI 1)), (6, .int (nI (rdT mm c + (rdL mm c)))), (0, .ref xa), (1, .int (sumM mm 0 12)), (2, .int (nI (brNM mm 12))), (3, .int (sumM mm 3 12)), (4, .int (sumM mm 4 12)), (7, .int (nI c)), (8, .int (nI t)), (9, .int (nI 1)), (10, .int (nI (rdL mm c)))]) hx hb dL_town_452 hl50 (by decide) rfl (fun ls104 hl104 => ?_)
                        clear hl50
                        refine lv_iinc (v := nI (c + 1)) (lv' := [(7, .int (nI (c + 1))), (5, .int (nI 1)), (6, .int (nI (rdT mm c + (rdL mm c)))), (0, .ref xa), (1, .int (sumM mm 0 12)), (2, .int (nI (brNM mm 12))), (3, .int (sumM mm 3 12)), (4, .int (sumM mm 4 12)), (8, .int (nI t)), (9, .int (nI 1)), (10, .int (nI (rdL mm c)))]) hx hb dL_town_454 hl104 (k := 7) rfl (nI_add c 1) (by decide) rfl (fun ls105 hl105 => ?_)
                        clear hl104
                        refine lv_goto (tgt := 283) hx hb dL_town_457 (by decide) ?_
                        exact ih283 (c + 1) w_101 (by omega) (hI) (by omega) _ _ hP102 hD102 hS102 _ (lv_sub hl105 [3, 4, 5, 6, 7, 1, 2, 0] rfl)
                      · skip
                        refine lv_aload_n hx hb dL_town_436 rfl (lv_at hl50 1 rfl) ?_
                        refine lv_iconst (v := nI 1) hx hb dL_town_437 (by decide) ?_
                        refine lv_iconst (v := nI 0) hx hb dL_town_438 (by decide) ?_
                        obtain ⟨fs106, hfs106⟩ := XINV.recv hI
                        have hPc106 : va_P D vwCl (fl [w_101]) _ := flP_sub hP102 [0] rfl
                        have hDc106 : va_D A (fl [w_101]) := flD_sub hD102 [0] (by decide) rfl
                        refine cl_i (br := []) (va_runV (As := [.int (nI 1), .int (nI 0)]) (rest := []) ⟨hx, hb, hml, hown, hts⟩ (e_X5_round l D T hI 1 0 (by omega) (by omega) _) (mkV hts okX5_round kw_419 kw_420 kw_421 ⟨rfl, rfl, (Nat.le_of_ble_eq_true rfl), (Nat.le_of_ble_eq_true rfl)⟩) (pv_rw hK hPc106 hDc106 hfs106 (q := (RX5, TX5, 5)) rfl rfl) rfl rfl hl50.1 rfl (lv_room (Nat.le_of_ble_eq_true rfl)) dL_town_439 ⟨(Nat.le_of_ble_eq_true rfl), (Nat.le_of_ble_eq_true rfl)⟩) hP102 hD102 hS102 hA [] [0] rfl (by decide) (fun r_106 w_106 H107 locs107 hq_106 hP107 hD107 hS107 => ?_)
                        clear hP102 hD102 hS102 hPc106 hDc106 hfs106 hI
                        obtain ⟨hr_106, hI⟩ := hq_106
                        have hr_106 : r_106 = rdV mm 1 0 := hr_106
                        subst hr_106
                        have hP107 : va_P D vwCl (fl [w_106]) _ := hP107
                        have hD107 : va_D A (fl [w_106]) := hD107
                        refine tp_i (y := frM mm 1) (rd_0 hS (by omega)) ?_
                        refine lv_iload hx hb dL_town_442 (lv_at hl50 8 rfl) ?_
                        refine lv_icmp_ne (tgt := 451) hx hb dL_town_444 (by decide) (fun c108 => absurd c108 (fun q => q hfk)) (fun c108 => ?_)
                        refine lv_iconst (v := nI 1) hx hb dL_town_447 (by decide) ?_
                        refine lv_goto (tgt := 452) hx hb dL_town_448 (by decide) ?_
                        refine lv_istore (lv' := [(5, .int (nI 1)), (6, .int (nI (rdT mm c + (rdL mm c)))), (0, .ref xa), (1, .int (sumM mm 0 12)), (2, .int (nI (brNM mm 12))), (3, .int (sumM mm 3 12)), (4, .int (sumM mm 4 12)), (7, .int (nI c)), (8, .int (nI t)), (9, .int (nI 1)), (10, .int (nI (rdL mm c)))]) hx hb dL_town_452 hl50 (by decide) rfl (fun ls109 hl109 => ?_)
                        clear hl50
                        refine lv_iinc (v := nI (c + 1)) (lv' := [(7, .int (nI (c + 1))), (5, .int (nI 1)), (6, .int (nI (rdT mm c + (rdL mm c)))), (0, .ref xa), (1, .int (sumM mm 0 12)), (2, .int (nI (brNM mm 12))), (3, .int (sumM mm 3 12)), (4, .int (sumM mm 4 12)), (8, .int (nI t)), (9, .int (nI 1)), (10, .int (nI (rdL mm c)))]) hx hb dL_town_454 hl109 (k := 7) rfl (nI_add c 1) (by decide) rfl (fun ls110 hl110 => ?_)
                        clear hl109
                        refine lv_goto (tgt := 283) hx hb dL_town_457 (by decide) ?_
                        exact ih283 (c + 1) w_106 (by omega) (hI) (by omega) _ _ hP107 hD107 hS107 _ (lv_sub hl110 [3, 4, 5, 6, 7, 1, 2, 0] rfl)
                    · skip
                      rw [hf] at hl50
                      refine lv_iload hx hb dL_town_345 (lv_at hl50 9 rfl) ?_
                      refine lv_iconst (v := (-1)) hx hb dL_town_347 (by decide) ?_
                      refine lv_icmp_ne (tgt := 355) hx hb dL_town_348 (by decide) (fun c111 => ?_) (fun c111 => absurd c111 (by decide))
                      refine lv_iconst (v := nI 0) hx hb dL_town_355 (by decide) ?_
                      refine lv_iload hx hb dL_town_356 (lv_at hl50 8 rfl) ?_
                      refine lv_iconst (v := (-1)) hx hb dL_town_358 (by decide) ?_
                      refine lv_icmp_ne (tgt := 366) hx hb dL_town_359 (by decide) (fun c112 => ?_) (fun c112 => absurd c112 (nI_nm1 (by omega)))
                      refine lv_iconst (v := nI 0) hx hb dL_town_366 (by decide) ?_
                      refine n_icmp_ne (tgt := 451) hx hb (by omega) (by omega) dL_town_367 (by decide) (fun c113 => absurd c113 (by decide)) (fun c113 => ?_)
                      refine lv_iload hx hb dL_town_370 (lv_at hl50 7 rfl) ?_
                      refine n_if_gt (tgt := 381) hx hb (by omega) dL_town_372 (by decide) (fun c_372 => ?_) (fun c_372 => ?_)
                      · skip
                        refine lv_iload hx hb dL_town_381 (lv_at hl50 9 rfl) ?_
                        refine lv_iconst (v := nI 3) hx hb dL_town_383 (by decide) ?_
                        refine n_icmp_gt (tgt := 451) hx hb (by omega) (by omega) dL_town_384 (by decide) (fun c115 => absurd c115 (by omega)) (fun c115 => ?_)
                        refine lv_iload hx hb dL_town_387 (lv_at hl50 9 rfl) ?_
                        refine lv_iconst (v := nI 3) hx hb dL_town_389 (by decide) ?_
                        refine n_icmp_ne (tgt := 419) hx hb (by omega) (by omega) dL_town_390 (by decide) (fun c116 => ?_) (fun c116 => absurd c116 (by decide))
                        refine lv_iload hx hb dL_town_419 (lv_at hl50 9 rfl) ?_
                        refine lv_iconst (v := nI 1) hx hb dL_town_421 (by decide) ?_
                        refine n_icmp_ne (tgt := 447) hx hb (by omega) (by omega) dL_town_422 (by decide) (fun c117 => ?_) (fun c117 => absurd c117 (by decide))
                        refine lv_iconst (v := nI 1) hx hb dL_town_447 (by decide) ?_
                        refine lv_goto (tgt := 452) hx hb dL_town_448 (by decide) ?_
                        refine lv_istore (lv' := [(5, .int (nI 1)), (6, .int (nI (rdT mm c + (rdL mm c)))), (0, .ref xa), (1, .int (sumM mm 0 12)), (2, .int (nI (brNM mm 12))), (3, .int (sumM mm 3 12)), (4, .int (sumM mm 4 12)), (7, .int (nI c)), (8, .int (nI t)), (9, .int (nI 2)), (10, .int (nI (rdL mm c)))]) hx hb dL_town_452 hl50 (by decide) rfl (fun ls118 hl118 => ?_)
                        clear hl50
                        refine lv_iinc (v := nI (c + 1)) (lv' := [(7, .int (nI (c + 1))), (5, .int (nI 1)), (6, .int (nI (rdT mm c + (rdL mm c)))), (0, .ref xa), (1, .int (sumM mm 0 12)), (2, .int (nI (brNM mm 12))), (3, .int (sumM mm 3 12)), (4, .int (sumM mm 4 12)), (8, .int (nI t)), (9, .int (nI 2)), (10, .int (nI (rdL mm c)))]) hx hb dL_town_454 hl118 (k := 7) rfl (nI_add c 1) (by decide) rfl (fun ls119 hl119 => ?_)
                        clear hl118
                        refine lv_goto (tgt := 283) hx hb dL_town_457 (by decide) ?_
                        exact ih283 (c + 1) w_47 (by omega) (hI) (by omega) _ _ hP48 hD48 hS48 _ (lv_sub hl119 [3, 4, 5, 6, 7, 1, 2, 0] rfl)
                      · skip
                        refine lv_iload hx hb dL_town_375 (lv_at hl50 9 rfl) ?_
                        refine lv_iconst (v := nI 1) hx hb dL_town_377 (by decide) ?_
                        refine n_icmp_eq (tgt := 451) hx hb (by omega) (by omega) dL_town_378 (by decide) (fun c120 => absurd c120 (by decide)) (fun c120 => ?_)
                        refine lv_iload hx hb dL_town_381 (lv_at hl50 9 rfl) ?_
                        refine lv_iconst (v := nI 3) hx hb dL_town_383 (by decide) ?_
                        refine n_icmp_gt (tgt := 451) hx hb (by omega) (by omega) dL_town_384 (by decide) (fun c121 => absurd c121 (by omega)) (fun c121 => ?_)
                        refine lv_iload hx hb dL_town_387 (lv_at hl50 9 rfl) ?_
                        refine lv_iconst (v := nI 3) hx hb dL_town_389 (by decide) ?_
                        refine n_icmp_ne (tgt := 419) hx hb (by omega) (by omega) dL_town_390 (by decide) (fun c122 => ?_) (fun c122 => absurd c122 (by decide))
                        refine lv_iload hx hb dL_town_419 (lv_at hl50 9 rfl) ?_
                        refine lv_iconst (v := nI 1) hx hb dL_town_421 (by decide) ?_
                        refine n_icmp_ne (tgt := 447) hx hb (by omega) (by omega) dL_town_422 (by decide) (fun c123 => ?_) (fun c123 => absurd c123 (by decide))
                        refine lv_iconst (v := nI 1) hx hb dL_town_447 (by decide) ?_
                        refine lv_goto (tgt := 452) hx hb dL_town_448 (by decide) ?_
                        refine lv_istore (lv' := [(5, .int (nI 1)), (6, .int (nI (rdT mm c + (rdL mm c)))), (0, .ref xa), (1, .int (sumM mm 0 12)), (2, .int (nI (brNM mm 12))), (3, .int (sumM mm 3 12)), (4, .int (sumM mm 4 12)), (7, .int (nI c)), (8, .int (nI t)), (9, .int (nI 2)), (10, .int (nI (rdL mm c)))]) hx hb dL_town_452 hl50 (by decide) rfl (fun ls124 hl124 => ?_)
                        clear hl50
                        refine lv_iinc (v := nI (c + 1)) (lv' := [(7, .int (nI (c + 1))), (5, .int (nI 1)), (6, .int (nI (rdT mm c + (rdL mm c)))), (0, .ref xa), (1, .int (sumM mm 0 12)), (2, .int (nI (brNM mm 12))), (3, .int (sumM mm 3 12)), (4, .int (sumM mm 4 12)), (8, .int (nI t)), (9, .int (nI 2)), (10, .int (nI (rdL mm c)))]) hx hb dL_town_454 hl124 (k := 7) rfl (nI_add c 1) (by decide) rfl (fun ls125 hl125 => ?_)
                        clear hl124
                        refine lv_goto (tgt := 283) hx hb dL_town_457 (by decide) ?_
                        exact ih283 (c + 1) w_47 (by omega) (hI) (by omega) _ _ hP48 hD48 hS48 _ (lv_sub hl125 [3, 4, 5, 6, 7, 1, 2, 0] rfl)
                    · skip
                      rw [hf] at hl50
                      refine lv_iload hx hb dL_town_345 (lv_at hl50 9 rfl) ?_
                      refine lv_iconst (v := (-1)) hx hb dL_town_347 (by decide) ?_
                      refine lv_icmp_ne (tgt := 355) hx hb dL_town_348 (by decide) (fun c126 => ?_) (fun c126 => absurd c126 (by decide))
                      refine lv_iconst (v := nI 0) hx hb dL_town_355 (by decide) ?_
                      refine lv_iload hx hb dL_town_356 (lv_at hl50 8 rfl) ?_
                      refine lv_iconst (v := (-1)) hx hb dL_town_358 (by decide) ?_
                      refine lv_icmp_ne (tgt := 366) hx hb dL_town_359 (by decide) (fun c127 => ?_) (fun c127 => absurd c127 (nI_nm1 (by omega)))
                      refine lv_iconst (v := nI 0) hx hb dL_town_366 (by decide) ?_
                      refine n_icmp_ne (tgt := 451) hx hb (by omega) (by omega) dL_town_367 (by decide) (fun c128 => absurd c128 (by decide)) (fun c128 => ?_)
                      refine lv_iload hx hb dL_town_370 (lv_at hl50 7 rfl) ?_
                      refine n_if_gt (tgt := 381) hx hb (by omega) dL_town_372 (by decide) (fun c_372 => ?_) (fun c_372 => ?_)
                      · skip
                        refine lv_iload hx hb dL_town_381 (lv_at hl50 9 rfl) ?_
                        refine lv_iconst (v := nI 3) hx hb dL_town_383 (by decide) ?_
                        refine n_icmp_gt (tgt := 451) hx hb (by omega) (by omega) dL_town_384 (by decide) (fun c130 => absurd c130 (by omega)) (fun c130 => ?_)
                        refine lv_iload hx hb dL_town_387 (lv_at hl50 9 rfl) ?_
                        refine lv_iconst (v := nI 3) hx hb dL_town_389 (by decide) ?_
                        refine n_icmp_ne (tgt := 419) hx hb (by omega) (by omega) dL_town_390 (by decide) (fun c131 => absurd c131 (by decide)) (fun c131 => ?_)
                        refine lv_aload_n hx hb dL_town_393 rfl (lv_at hl50 1 rfl) ?_
                        refine lv_iload hx hb dL_town_394 (lv_at hl50 8 rfl) ?_
                        refine lv_iconst (v := nI 4) hx hb dL_town_396 (by decide) ?_
                        obtain ⟨fs132, hfs132⟩ := XINV.recv hI
                        have hPc132 : va_P D vwCl (fl [w_47]) _ := flP_sub hP48 [0] rfl
                        have hDc132 : va_D A (fl [w_47]) := flD_sub hD48 [0] (by decide) rfl
                        refine cl_i (br := []) (va_runV (As := [.int (nI t), .int (nI 4)]) (rest := []) ⟨hx, hb, hml, hown, hts⟩ (e_X5_street l D T hI t 4 (by omega) (by omega) _) (mkV hts okX5_street kw_407 kw_408 kw_409 ⟨rfl, rfl, (Nat.le_of_ble_eq_true rfl), (Nat.le_of_ble_eq_true rfl)⟩) (pv_rw hK hPc132 hDc132 hfs132 (q := (RX5, TX5, 5)) rfl rfl) rfl rfl hl50.1 rfl (lv_room (Nat.le_of_ble_eq_true rfl)) dL_town_397 ⟨(Nat.le_of_ble_eq_true rfl), (Nat.le_of_ble_eq_true rfl)⟩) hP48 hD48 hS48 hA [] [0] rfl (by decide) (fun r_132 w_132 H133 locs133 hq_132 hP133 hD133 hS133 => ?_)
                        clear hP48 hD48 hS48 hPc132 hDc132 hfs132 hI
                        obtain ⟨hr_132, hI⟩ := hq_132
                        have hr_132 : r_132 = srcM mm t := hr_132
                        subst hr_132
                        have hP133 : va_P D vwCl (fl [w_132]) _ := hP133
                        have hD133 : va_D A (fl [w_132]) := hD133
                        refine tp_i (y := nI (t - 1)) (hsr) ?_
                        refine n_if_lt hx hb (by omega) dL_town_400 451 (by decide) ?_
                        refine lv_aload_n hx hb dL_town_403 rfl (lv_at hl50 1 rfl) ?_
                        refine lv_aload_n hx hb dL_town_404 rfl (lv_at hl50 1 rfl) ?_
                        refine lv_iload hx hb dL_town_405 (lv_at hl50 8 rfl) ?_
                        refine lv_iconst (v := nI 4) hx hb dL_town_407 (by decide) ?_
                        obtain ⟨fs134, hfs134⟩ := XINV.recv hI
                        have hPc134 : va_P D vwCl (fl [w_132]) _ := flP_sub hP133 [0] rfl
                        have hDc134 : va_D A (fl [w_132]) := flD_sub hD133 [0] (by decide) rfl
                        refine cl_i (br := []) (va_runV (As := [.int (nI t), .int (nI 4)]) (rest := [.ref xa]) ⟨hx, hb, hml, hown, hts⟩ (e_X5_street l D T hI t 4 (by omega) (by omega) _) (mkV hts okX5_street kw_407 kw_408 kw_409 ⟨rfl, rfl, (Nat.le_of_ble_eq_true rfl), (Nat.le_of_ble_eq_true rfl)⟩) (pv_rw hK hPc134 hDc134 hfs134 (q := (RX5, TX5, 5)) rfl rfl) rfl rfl hl50.1 rfl (lv_room (Nat.le_of_ble_eq_true rfl)) dL_town_408 ⟨(Nat.le_of_ble_eq_true rfl), (Nat.le_of_ble_eq_true rfl)⟩) hP133 hD133 hS133 hA [] [0] rfl (by decide) (fun r_134 w_134 H135 locs135 hq_134 hP135 hD135 hS135 => ?_)
                        clear hP133 hD133 hS133 hPc134 hDc134 hfs134 hI
                        obtain ⟨hr_134, hI⟩ := hq_134
                        have hr_134 : r_134 = srcM mm t := hr_134
                        subst hr_134
                        have hP135 : va_P D vwCl (fl [w_134]) _ := hP135
                        have hD135 : va_D A (fl [w_134]) := hD135
                        refine tp_i (y := nI (t - 1)) (hsr) ?_
                        refine lv_iconst (v := nI 2) hx hb dL_town_411 (by decide) ?_
                        obtain ⟨fs136, hfs136⟩ := XINV.recv hI
                        have hPc136 : va_P D vwCl (fl [w_134]) _ := flP_sub hP135 [0] rfl
                        have hDc136 : va_D A (fl [w_134]) := flD_sub hD135 [0] (by decide) rfl
                        refine cl_i (br := []) (va_runV (As := [.int (nI (t - 1)), .int (nI 2)]) (rest := []) ⟨hx, hb, hml, hown, hts⟩ (e_X5_street l D T hI (t - 1) 2 (by omega) (by omega) _) (mkV hts okX5_street kw_407 kw_408 kw_409 ⟨rfl, rfl, (Nat.le_of_ble_eq_true rfl), (Nat.le_of_ble_eq_true rfl)⟩) (pv_rw hK hPc136 hDc136 hfs136 (q := (RX5, TX5, 5)) rfl rfl) rfl rfl hl50.1 rfl (lv_room (Nat.le_of_ble_eq_true rfl)) dL_town_412 ⟨(Nat.le_of_ble_eq_true rfl), (Nat.le_of_ble_eq_true rfl)⟩) hP135 hD135 hS135 hA [] [0] rfl (by decide) (fun r_136 w_136 H137 locs137 hq_136 hP137 hD137 hS137 => ?_)
                        clear hP135 hD135 hS135 hPc136 hDc136 hfs136 hI
                        obtain ⟨hr_136, hI⟩ := hq_136
                        have hr_136 : r_136 = bI (brM mm (t - 1)) := hr_136
                        subst hr_136
                        have hP137 : va_P D vwCl (fl [w_136]) _ := hP137
                        have hD137 : va_D A (fl [w_136]) := hD137
                        refine tp_i (y := nI 1) (by rw [hbr]; rfl) ?_
                        refine lv_iconst (v := nI 1) hx hb dL_town_415 (by decide) ?_
                        refine n_icmp_ne (tgt := 451) hx hb (by omega) (by omega) dL_town_416 (by decide) (fun c138 => absurd c138 (by decide)) (fun c138 => ?_)
                        refine lv_iload hx hb dL_town_419 (lv_at hl50 9 rfl) ?_
                        refine lv_iconst (v := nI 1) hx hb dL_town_421 (by decide) ?_
                        refine n_icmp_ne (tgt := 447) hx hb (by omega) (by omega) dL_town_422 (by decide) (fun c139 => ?_) (fun c139 => absurd c139 (by decide))
                        refine lv_iconst (v := nI 1) hx hb dL_town_447 (by decide) ?_
                        refine lv_goto (tgt := 452) hx hb dL_town_448 (by decide) ?_
                        refine lv_istore (lv' := [(5, .int (nI 1)), (6, .int (nI (rdT mm c + (rdL mm c)))), (0, .ref xa), (1, .int (sumM mm 0 12)), (2, .int (nI (brNM mm 12))), (3, .int (sumM mm 3 12)), (4, .int (sumM mm 4 12)), (7, .int (nI c)), (8, .int (nI t)), (9, .int (nI 3)), (10, .int (nI (rdL mm c)))]) hx hb dL_town_452 hl50 (by decide) rfl (fun ls140 hl140 => ?_)
                        clear hl50
                        refine lv_iinc (v := nI (c + 1)) (lv' := [(7, .int (nI (c + 1))), (5, .int (nI 1)), (6, .int (nI (rdT mm c + (rdL mm c)))), (0, .ref xa), (1, .int (sumM mm 0 12)), (2, .int (nI (brNM mm 12))), (3, .int (sumM mm 3 12)), (4, .int (sumM mm 4 12)), (8, .int (nI t)), (9, .int (nI 3)), (10, .int (nI (rdL mm c)))]) hx hb dL_town_454 hl140 (k := 7) rfl (nI_add c 1) (by decide) rfl (fun ls141 hl141 => ?_)
                        clear hl140
                        refine lv_goto (tgt := 283) hx hb dL_town_457 (by decide) ?_
                        exact ih283 (c + 1) w_136 (by omega) (hI) (by omega) _ _ hP137 hD137 hS137 _ (lv_sub hl141 [3, 4, 5, 6, 7, 1, 2, 0] rfl)
                      · skip
                        refine lv_iload hx hb dL_town_375 (lv_at hl50 9 rfl) ?_
                        refine lv_iconst (v := nI 1) hx hb dL_town_377 (by decide) ?_
                        refine n_icmp_eq (tgt := 451) hx hb (by omega) (by omega) dL_town_378 (by decide) (fun c142 => absurd c142 (by decide)) (fun c142 => ?_)
                        refine lv_iload hx hb dL_town_381 (lv_at hl50 9 rfl) ?_
                        refine lv_iconst (v := nI 3) hx hb dL_town_383 (by decide) ?_
                        refine n_icmp_gt (tgt := 451) hx hb (by omega) (by omega) dL_town_384 (by decide) (fun c143 => absurd c143 (by omega)) (fun c143 => ?_)
                        refine lv_iload hx hb dL_town_387 (lv_at hl50 9 rfl) ?_
                        refine lv_iconst (v := nI 3) hx hb dL_town_389 (by decide) ?_
                        refine n_icmp_ne (tgt := 419) hx hb (by omega) (by omega) dL_town_390 (by decide) (fun c144 => absurd c144 (by decide)) (fun c144 => ?_)
                        refine lv_aload_n hx hb dL_town_393 rfl (lv_at hl50 1 rfl) ?_
                        refine lv_iload hx hb dL_town_394 (lv_at hl50 8 rfl) ?_
                        refine lv_iconst (v := nI 4) hx hb dL_town_396 (by decide) ?_
                        obtain ⟨fs145, hfs145⟩ := XINV.recv hI
                        have hPc145 : va_P D vwCl (fl [w_47]) _ := flP_sub hP48 [0] rfl
                        have hDc145 : va_D A (fl [w_47]) := flD_sub hD48 [0] (by decide) rfl
                        refine cl_i (br := []) (va_runV (As := [.int (nI t), .int (nI 4)]) (rest := []) ⟨hx, hb, hml, hown, hts⟩ (e_X5_street l D T hI t 4 (by omega) (by omega) _) (mkV hts okX5_street kw_407 kw_408 kw_409 ⟨rfl, rfl, (Nat.le_of_ble_eq_true rfl), (Nat.le_of_ble_eq_true rfl)⟩) (pv_rw hK hPc145 hDc145 hfs145 (q := (RX5, TX5, 5)) rfl rfl) rfl rfl hl50.1 rfl (lv_room (Nat.le_of_ble_eq_true rfl)) dL_town_397 ⟨(Nat.le_of_ble_eq_true rfl), (Nat.le_of_ble_eq_true rfl)⟩) hP48 hD48 hS48 hA [] [0] rfl (by decide) (fun r_145 w_145 H146 locs146 hq_145 hP146 hD146 hS146 => ?_)
                        clear hP48 hD48 hS48 hPc145 hDc145 hfs145 hI
                        obtain ⟨hr_145, hI⟩ := hq_145
                        have hr_145 : r_145 = srcM mm t := hr_145
                        subst hr_145
                        have hP146 : va_P D vwCl (fl [w_145]) _ := hP146
                        have hD146 : va_D A (fl [w_145]) := hD146
                        refine tp_i (y := nI (t - 1)) (hsr) ?_
                        refine n_if_lt hx hb (by omega) dL_town_400 451 (by decide) ?_
                        refine lv_aload_n hx hb dL_town_403 rfl (lv_at hl50 1 rfl) ?_
                        refine lv_aload_n hx hb dL_town_404 rfl (lv_at hl50 1 rfl) ?_
                        refine lv_iload hx hb dL_town_405 (lv_at hl50 8 rfl) ?_
                        refine lv_iconst (v := nI 4) hx hb dL_town_407 (by decide) ?_
                        obtain ⟨fs147, hfs147⟩ := XINV.recv hI
                        have hPc147 : va_P D vwCl (fl [w_145]) _ := flP_sub hP146 [0] rfl
                        have hDc147 : va_D A (fl [w_145]) := flD_sub hD146 [0] (by decide) rfl
                        refine cl_i (br := []) (va_runV (As := [.int (nI t), .int (nI 4)]) (rest := [.ref xa]) ⟨hx, hb, hml, hown, hts⟩ (e_X5_street l D T hI t 4 (by omega) (by omega) _) (mkV hts okX5_street kw_407 kw_408 kw_409 ⟨rfl, rfl, (Nat.le_of_ble_eq_true rfl), (Nat.le_of_ble_eq_true rfl)⟩) (pv_rw hK hPc147 hDc147 hfs147 (q := (RX5, TX5, 5)) rfl rfl) rfl rfl hl50.1 rfl (lv_room (Nat.le_of_ble_eq_true rfl)) dL_town_408 ⟨(Nat.le_of_ble_eq_true rfl), (Nat.le_of_ble_eq_true rfl)⟩) hP146 hD146 hS146 hA [] [0] rfl (by decide) (fun r_147 w_147 H148 locs148 hq_147 hP148 hD148 hS148 => ?_)
                        clear hP146 hD146 hS146 hPc147 hDc147 hfs147 hI
                        obtain ⟨hr_147, hI⟩ := hq_147
                        have hr_147 : r_147 = srcM mm t := hr_147
                        subst hr_147
                        have hP148 : va_P D vwCl (fl [w_147]) _ := hP148
                        have hD148 : va_D A (fl [w_147]) := hD148
                        refine tp_i (y := nI (t - 1)) (hsr) ?_
                        refine lv_iconst (v := nI 2) hx hb dL_town_411 (by decide) ?_
                        obtain ⟨fs149, hfs149⟩ := XINV.recv hI
                        have hPc149 : va_P D vwCl (fl [w_147]) _ := flP_sub hP148 [0] rfl
                        have hDc149 : va_D A (fl [w_147]) := flD_sub hD148 [0] (by decide) rfl
                        refine cl_i (br := []) (va_runV (As := [.int (nI (t - 1)), .int (nI 2)]) (rest := []) ⟨hx, hb, hml, hown, hts⟩ (e_X5_street l D T hI (t - 1) 2 (by omega) (by omega) _) (mkV hts okX5_street kw_407 kw_408 kw_409 ⟨rfl, rfl, (Nat.le_of_ble_eq_true rfl), (Nat.le_of_ble_eq_true rfl)⟩) (pv_rw hK hPc149 hDc149 hfs149 (q := (RX5, TX5, 5)) rfl rfl) rfl rfl hl50.1 rfl (lv_room (Nat.le_of_ble_eq_true rfl)) dL_town_412 ⟨(Nat.le_of_ble_eq_true rfl), (Nat.le_of_ble_eq_true rfl)⟩) hP148 hD148 hS148 hA [] [0] rfl (by decide) (fun r_149 w_149 H150 locs150 hq_149 hP150 hD150 hS150 => ?_)
                        clear hP148 hD148 hS148 hPc149 hDc149 hfs149 hI
                        obtain ⟨hr_149, hI⟩ := hq_149
                        have hr_149 : r_149 = bI (brM mm (t - 1)) := hr_149
                        subst hr_149
                        have hP150 : va_P D vwCl (fl [w_149]) _ := hP150
                        have hD150 : va_D A (fl [w_149]) := hD150
                        refine tp_i (y := nI 1) (by rw [hbr]; rfl) ?_
                        refine lv_iconst (v := nI 1) hx hb dL_town_415 (by decide) ?_
                        refine n_icmp_ne (tgt := 451) hx hb (by omega) (by omega) dL_town_416 (by decide) (fun c151 => absurd c151 (by decide)) (fun c151 => ?_)
                        refine lv_iload hx hb dL_town_419 (lv_at hl50 9 rfl) ?_
                        refine lv_iconst (v := nI 1) hx hb dL_town_421 (by decide) ?_
                        refine n_icmp_ne (tgt := 447) hx hb (by omega) (by omega) dL_town_422 (by decide) (fun c152 => ?_) (fun c152 => absurd c152 (by decide))
                        refine lv_iconst (v := nI 1) hx hb dL_town_447 (by decide) ?_
                        refine lv_goto (tgt := 452) hx hb dL_town_448 (by decide) ?_
                        refine lv_istore (lv' := [(5, .int (nI 1)), (6, .int (nI (rdT mm c + (rdL mm c)))), (0, .ref xa), (1, .int (sumM mm 0 12)), (2, .int (nI (brNM mm 12))), (3, .int (sumM mm 3 12)), (4, .int (sumM mm 4 12)), (7, .int (nI c)), (8, .int (nI t)), (9, .int (nI 3)), (10, .int (nI (rdL mm c)))]) hx hb dL_town_452 hl50 (by decide) rfl (fun ls153 hl153 => ?_)
                        clear hl50
                        refine lv_iinc (v := nI (c + 1)) (lv' := [(7, .int (nI (c + 1))), (5, .int (nI 1)), (6, .int (nI (rdT mm c + (rdL mm c)))), (0, .ref xa), (1, .int (sumM mm 0 12)), (2, .int (nI (brNM mm 12))), (3, .int (sumM mm 3 12)), (4, .int (sumM mm 4 12)), (8, .int (nI t)), (9, .int (nI 3)), (10, .int (nI (rdL mm c)))]) hx hb dL_town_454 hl153 (k := 7) rfl (nI_add c 1) (by decide) rfl (fun ls154 hl154 => ?_)
                        clear hl153
                        refine lv_goto (tgt := 283) hx hb dL_town_457 (by decide) ?_
                        exact ih283 (c + 1) w_149 (by omega) (hI) (by omega) _ _ hP150 hD150 hS150 _ (lv_sub hl154 [3, 4, 5, 6, 7, 1, 2, 0] rfl)
              exact loop314 ((rdL mm c - 0) + 1) 0 w_38 (by omega) (hI) (Nat.lt_succ_self _) _ _ hP39 hD39 hS39 _ (lv_sub hl41 [3, 4, 5, 6, 7, 8, 9, 10, 2, 1, 0] rfl)
        exact loop283 ((3 - 0) + 1) 0 w1 (by omega) (hI) (Nat.lt_succ_self _) _ _ hP8 hD8 hS8 _ (lv_sub hl11 [2, 3, 4, 5, 6, 7, 1, 0] rfl)
      · skip
        refine lv_iload hx hb dL_town_22 (lv_at hl8 5 rfl) ?_
        refine n_if_eq (tgt := 277) hx hb (by omega) dL_town_24 (by decide) (fun c155 => absurd c155 (by decide)) (fun c155 => ?_)
        obtain ⟨d, hd, ed⟩ := hR.dirt (show k < 12 by omega)
        obtain ⟨p0, hp0, ep0⟩ := pr_r hR (nI 0) (show k < 12 by omega)
        obtain ⟨a7, ha7, ea7⟩ := hR.openH (show k < 12 by omega)
        rw [if_neg (Nat.not_lt_zero _)] at ha7
        refine lv_aload_n hx hb dL_town_27 rfl (lv_at hl8 0 rfl) ?_
        refine lv_iload hx hb dL_town_28 (lv_at hl8 6 rfl) ?_
        refine lv_iconst (v := nI 4) hx hb dL_town_30 (by decide) ?_
        obtain ⟨fs156, hfs156⟩ := XINV.recv hI
        have hPc156 : va_P D vwCl (fl [w1]) _ := flP_sub hP8 [0] rfl
        have hDc156 : va_D A (fl [w1]) := flD_sub hD8 [0] (by decide) rfl
        refine cl_i (br := []) (va_runV (As := [.int (nI k), .int (nI 4)]) (rest := []) ⟨hx, hb, hml, hown, hts⟩ (e_X5_street l D T hI k 4 (by omega) (by omega) _) (mkV hts okX5_street kw_407 kw_408 kw_409 ⟨rfl, rfl, (Nat.le_of_ble_eq_true rfl), (Nat.le_of_ble_eq_true rfl)⟩) (pv_rw hK hPc156 hDc156 hfs156 (q := (RX5, TX5, 5)) rfl rfl) rfl rfl hl8.1 rfl (lv_room (Nat.le_of_ble_eq_true rfl)) dL_town_31 ⟨(Nat.le_of_ble_eq_true rfl), (Nat.le_of_ble_eq_true rfl)⟩) hP8 hD8 hS8 hA [] [0] rfl (by decide) (fun r_156 w_156 H157 locs157 hq_156 hP157 hD157 hS157 => ?_)
        clear hP8 hD8 hS8 hPc156 hDc156 hfs156 hI
        obtain ⟨hr_156, hI⟩ := hq_156
        have hr_156 : r_156 = srcM mm k := hr_156
        subst hr_156
        have hP157 : va_P D vwCl (fl [w_156]) _ := hP157
        have hD157 : va_D A (fl [w_156]) := hD157
        refine lv_istore (lv' := [(7, .int (srcM mm k)), (0, .ref xa), (1, .int (sumM mm 0 k)), (2, .int (nI (brNM mm k))), (3, .int (sumM mm 3 k)), (4, .int (sumM mm 4 k)), (5, .int (nI 1)), (6, .int (nI k))]) hx hb dL_town_34 hl8 (by decide) rfl (fun ls158 hl158 => ?_)
        clear hl8
        refine lv_iload_n hx hb dL_town_36 rfl (lv_at hl158 2 rfl) ?_
        refine lv_aload_n hx hb dL_town_37 rfl (lv_at hl158 1 rfl) ?_
        refine lv_iload hx hb dL_town_38 (lv_at hl158 7 rfl) ?_
        refine lv_iconst (v := nI 0) hx hb dL_town_40 (by decide) ?_
        obtain ⟨fs159, hfs159⟩ := XINV.recv hI
        have hPc159 : va_P D vwCl (fl [w_156]) _ := flP_sub hP157 [0] rfl
        have hDc159 : va_D A (fl [w_156]) := flD_sub hD157 [0] (by decide) rfl
        refine cl_i (br := []) (va_runV (As := [.int (nI k), .int (nI 0)]) (rest := [.int (sumM mm 0 k)]) ⟨hx, hb, hml, hown, hts⟩ (e_X5_street l D T hI k 0 (by omega) (by omega) _) (mkV hts okX5_street kw_407 kw_408 kw_409 ⟨rfl, rfl, (Nat.le_of_ble_eq_true rfl), (Nat.le_of_ble_eq_true rfl)⟩) (pv_rw hK hPc159 hDc159 hfs159 (q := (RX5, TX5, 5)) rfl rfl) rfl rfl hl158.1 rfl (lv_room (Nat.le_of_ble_eq_true rfl)) dL_town_41 ⟨(Nat.le_of_ble_eq_true rfl), (Nat.le_of_ble_eq_true rfl)⟩) hP157 hD157 hS157 hA [] [0] rfl (by decide) (fun r_159 w_159 H160 locs160 hq_159 hP160 hD160 hS160 => ?_)
        clear hP157 hD157 hS157 hPc159 hDc159 hfs159 hI
        obtain ⟨hr_159, hI⟩ := hq_159
        have hr_159 : r_159 = mm (12 + 6 * k) := hr_159
        subst hr_159
        have hP160 : va_P D vwCl (fl [w_159]) _ := hP160
        have hD160 : va_D A (fl [w_159]) := hD160
        refine lv_iadd hx hb dL_town_44 ?_
        refine tp_i (y := sumM mm 0 (k + 1)) (rfl) ?_
        refine lv_istore_n (lv' := [(1, .int (sumM mm 0 (k + 1))), (7, .int (srcM mm k)), (0, .ref xa), (2, .int (nI (brNM mm k))), (3, .int (sumM mm 3 k)), (4, .int (sumM mm 4 k)), (5, .int (nI 1)), (6, .int (nI k))]) hx hb dL_town_45 rfl hl158 (by decide) rfl (fun ls161 hl161 => ?_)
        clear hl158
        refine lv_iload_n hx hb dL_town_46 rfl (lv_at hl161 3 rfl) ?_
        refine lv_aload_n hx hb dL_town_47 rfl (lv_at hl161 2 rfl) ?_
        refine lv_iload hx hb dL_town_48 (lv_at hl161 7 rfl) ?_
        refine lv_iconst (v := nI 2) hx hb dL_town_50 (by decide) ?_
        obtain ⟨fs162, hfs162⟩ := XINV.recv hI
        have hPc162 : va_P D vwCl (fl [w_159]) _ := flP_sub hP160 [0] rfl
        have hDc162 : va_D A (fl [w_159]) := flD_sub hD160 [0] (by decide) rfl
        refine cl_i (br := []) (va_runV (As := [.int (nI k), .int (nI 2)]) (rest := [.int (nI (brNM mm k))]) ⟨hx, hb, hml, hown, hts⟩ (e_X5_street l D T hI k 2 (by omega) (by omega) _) (mkV hts okX5_street kw_407 kw_408 kw_409 ⟨rfl, rfl, (Nat.le_of_ble_eq_true rfl), (Nat.le_of_ble_eq_true rfl)⟩) (pv_rw hK hPc162 hDc162 hfs162 (q := (RX5, TX5, 5)) rfl rfl) rfl rfl hl161.1 rfl (lv_room (Nat.le_of_ble_eq_true rfl)) dL_town_51 ⟨(Nat.le_of_ble_eq_true rfl), (Nat.le_of_ble_eq_true rfl)⟩) hP160 hD160 hS160 hA [] [0] rfl (by decide) (fun r_162 w_162 H163 locs163 hq_162 hP163 hD163 hS163 => ?_)
        clear hP160 hD160 hS160 hPc162 hDc162 hfs162 hI
        obtain ⟨hr_162, hI⟩ := hq_162
        have hr_162 : r_162 = bI (brM mm k) := hr_162
        subst hr_162
        have hP163 : va_P D vwCl (fl [w_162]) _ := hP163
        have hD163 : va_D A (fl [w_162]) := hD163
        refine lv_iadd hx hb dL_town_54 ?_
        refine tp_i (y := nI (brNM mm (k + 1))) (brn_s mm k) ?_
        refine lv_istore_n (lv' := [(2, .int (nI (brNM mm (k + 1)))), (1, .int (sumM mm 0 (k + 1))), (7, .int (srcM mm k)), (0, .ref xa), (3, .int (sumM mm 3 k)), (4, .int (sumM mm 4 k)), (5, .int (nI 1)), (6, .int (nI k))]) hx hb dL_town_55 rfl hl161 (by decide) rfl (fun ls164 hl164 => ?_)
        clear hl161
        refine lv_iload_n hx hb dL_town_56 rfl (lv_at hl164 4 rfl) ?_
        refine lv_aload_n hx hb dL_town_57 rfl (lv_at hl164 3 rfl) ?_
        refine lv_iload hx hb dL_town_58 (lv_at hl164 7 rfl) ?_
        refine lv_iconst (v := nI 5) hx hb dL_town_60 (by decide) ?_
        obtain ⟨fs165, hfs165⟩ := XINV.recv hI
        have hPc165 : va_P D vwCl (fl [w_162]) _ := flP_sub hP163 [0] rfl
        have hDc165 : va_D A (fl [w_162]) := flD_sub hD163 [0] (by decide) rfl
        refine cl_i (br := []) (va_runV (As := [.int (nI k), .int (nI 5)]) (rest := [.int (sumM mm 3 k)]) ⟨hx, hb, hml, hown, hts⟩ (e_X5_street l D T hI k 5 (by omega) (by omega) _) (mkV hts okX5_street kw_407 kw_408 kw_409 ⟨rfl, rfl, (Nat.le_of_ble_eq_true rfl), (Nat.le_of_ble_eq_true rfl)⟩) (pv_rw hK hPc165 hDc165 hfs165 (q := (RX5, TX5, 5)) rfl rfl) rfl rfl hl164.1 rfl (lv_room (Nat.le_of_ble_eq_true rfl)) dL_town_61 ⟨(Nat.le_of_ble_eq_true rfl), (Nat.le_of_ble_eq_true rfl)⟩) hP163 hD163 hS163 hA [] [0] rfl (by decide) (fun r_165 w_165 H166 locs166 hq_165 hP166 hD166 hS166 => ?_)
        clear hP163 hD163 hS163 hPc165 hDc165 hfs165 hI
        obtain ⟨hr_165, hI⟩ := hq_165
        have hr_165 : r_165 = mm (12 + 6 * k + 3) := hr_165
        subst hr_165
        have hP166 : va_P D vwCl (fl [w_165]) _ := hP166
        have hD166 : va_D A (fl [w_165]) := hD166
        refine lv_iadd hx hb dL_town_64 ?_
        refine tp_i (y := sumM mm 3 (k + 1)) (rfl) ?_
        refine lv_istore_n (lv' := [(3, .int (sumM mm 3 (k + 1))), (2, .int (nI (brNM mm (k + 1)))), (1, .int (sumM mm 0 (k + 1))), (7, .int (srcM mm k)), (0, .ref xa), (4, .int (sumM mm 4 k)), (5, .int (nI 1)), (6, .int (nI k))]) hx hb dL_town_65 rfl hl164 (by decide) rfl (fun ls167 hl167 => ?_)
        clear hl164
        refine lv_iload hx hb dL_town_66 (lv_at hl167 5 rfl) ?_
        refine lv_aload_n hx hb dL_town_68 rfl (lv_at hl167 4 rfl) ?_
        refine lv_iload hx hb dL_town_69 (lv_at hl167 7 rfl) ?_
        refine lv_bipush (v := nI 6) hx hb dL_town_71 (by decide) ?_
        obtain ⟨fs168, hfs168⟩ := XINV.recv hI
        have hPc168 : va_P D vwCl (fl [w_165]) _ := flP_sub hP166 [0] rfl
        have hDc168 : va_D A (fl [w_165]) := flD_sub hD166 [0] (by decide) rfl
        refine cl_i (br := []) (va_runV (As := [.int (nI k), .int (nI 6)]) (rest := [.int (sumM mm 4 k)]) ⟨hx, hb, hml, hown, hts⟩ (e_X5_street l D T hI k 6 (by omega) (by omega) _) (mkV hts okX5_street kw_407 kw_408 kw_409 ⟨rfl, rfl, (Nat.le_of_ble_eq_true rfl), (Nat.le_of_ble_eq_true rfl)⟩) (pv_rw hK hPc168 hDc168 hfs168 (q := (RX5, TX5, 5)) rfl rfl) rfl rfl hl167.1 rfl (lv_room (Nat.le_of_ble_eq_true rfl)) dL_town_73 ⟨(Nat.le_of_ble_eq_true rfl), (Nat.le_of_ble_eq_true rfl)⟩) hP166 hD166 hS166 hA [] [0] rfl (by decide) (fun r_168 w_168 H169 locs169 hq_168 hP169 hD169 hS169 => ?_)
        clear hP166 hD166 hS166 hPc168 hDc168 hfs168 hI
        obtain ⟨hr_168, hI⟩ := hq_168
        have hr_168 : r_168 = mm (12 + 6 * k + 4) := hr_168
        subst hr_168
        have hP169 : va_P D vwCl (fl [w_168]) _ := hP169
        have hD169 : va_D A (fl [w_168]) := hD169
        refine lv_iadd hx hb dL_town_76 ?_
        refine tp_i (y := sumM mm 4 (k + 1)) (rfl) ?_
        refine lv_istore (lv' := [(4, .int (sumM mm 4 (k + 1))), (3, .int (sumM mm 3 (k + 1))), (2, .int (nI (brNM mm (k + 1)))), (1, .int (sumM mm 0 (k + 1))), (7, .int (srcM mm k)), (0, .ref xa), (5, .int (nI 1)), (6, .int (nI k))]) hx hb dL_town_77 hl167 (by decide) rfl (fun ls170 hl170 => ?_)
        clear hl167
        refine lv_aload_n hx hb dL_town_79 rfl (lv_at hl170 5 rfl) ?_
        refine lv_iload hx hb dL_town_80 (lv_at hl170 7 rfl) ?_
        refine lv_iconst (v := nI 0) hx hb dL_town_82 (by decide) ?_
        obtain ⟨fs171, hfs171⟩ := XINV.recv hI
        have hPc171 : va_P D vwCl (fl [w_168]) _ := flP_sub hP169 [0] rfl
        have hDc171 : va_D A (fl [w_168]) := flD_sub hD169 [0] (by decide) rfl
        refine cl_i (br := []) (va_runV (As := [.int (nI k), .int (nI 0)]) (rest := []) ⟨hx, hb, hml, hown, hts⟩ (e_X5_street l D T hI k 0 (by omega) (by omega) _) (mkV hts okX5_street kw_407 kw_408 kw_409 ⟨rfl, rfl, (Nat.le_of_ble_eq_true rfl), (Nat.le_of_ble_eq_true rfl)⟩) (pv_rw hK hPc171 hDc171 hfs171 (q := (RX5, TX5, 5)) rfl rfl) rfl rfl hl170.1 rfl (lv_room (Nat.le_of_ble_eq_true rfl)) dL_town_83 ⟨(Nat.le_of_ble_eq_true rfl), (Nat.le_of_ble_eq_true rfl)⟩) hP169 hD169 hS169 hA [] [0] rfl (by decide) (fun r_171 w_171 H172 locs172 hq_171 hP172 hD172 hS172 => ?_)
        clear hP169 hD169 hS169 hPc171 hDc171 hfs171 hI
        obtain ⟨hr_171, hI⟩ := hq_171
        have hr_171 : r_171 = mm (12 + 6 * k) := hr_171
        subst hr_171
        have hP172 : va_P D vwCl (fl [w_171]) _ := hP172
        have hD172 : va_D A (fl [w_171]) := hD172
        refine tp_i (y := nI d) (ed) ?_
        refine n_if_lt hx hb (by omega) dL_town_86 268 (by decide) ?_
        refine lv_aload_n hx hb dL_town_89 rfl (lv_at hl170 5 rfl) ?_
        refine lv_iload hx hb dL_town_90 (lv_at hl170 7 rfl) ?_
        refine lv_iconst (v := nI 0) hx hb dL_town_92 (by decide) ?_
        obtain ⟨fs173, hfs173⟩ := XINV.recv hI
        have hPc173 : va_P D vwCl (fl [w_171]) _ := flP_sub hP172 [0] rfl
        have hDc173 : va_D A (fl [w_171]) := flD_sub hD172 [0] (by decide) rfl
        refine cl_i (br := []) (va_runV (As := [.int (nI k), .int (nI 0)]) (rest := []) ⟨hx, hb, hml, hown, hts⟩ (e_X5_street l D T hI k 0 (by omega) (by omega) _) (mkV hts okX5_street kw_407 kw_408 kw_409 ⟨rfl, rfl, (Nat.le_of_ble_eq_true rfl), (Nat.le_of_ble_eq_true rfl)⟩) (pv_rw hK hPc173 hDc173 hfs173 (q := (RX5, TX5, 5)) rfl rfl) rfl rfl hl170.1 rfl (lv_room (Nat.le_of_ble_eq_true rfl)) dL_town_93 ⟨(Nat.le_of_ble_eq_true rfl), (Nat.le_of_ble_eq_true rfl)⟩) hP172 hD172 hS172 hA [] [0] rfl (by decide) (fun r_173 w_173 H174 locs174 hq_173 hP174 hD174 hS174 => ?_)
        clear hP172 hD172 hS172 hPc173 hDc173 hfs173 hI
        obtain ⟨hr_173, hI⟩ := hq_173
        have hr_173 : r_173 = mm (12 + 6 * k) := hr_173
        subst hr_173
        have hP174 : va_P D vwCl (fl [w_173]) _ := hP174
        have hD174 : va_D A (fl [w_173]) := hD174
        refine tp_i (y := nI d) (ed) ?_
        refine lv_sipush (v := nI 999) hx hb dL_town_96 (by decide) ?_
        refine n_icmp_gt (tgt := 268) hx hb (by omega) (by omega) dL_town_99 (by decide) (fun c175 => absurd c175 (by omega)) (fun c175 => ?_)
        cases hbr : brM mm k
        · skip
          refine lv_aload_n hx hb dL_town_102 rfl (lv_at hl170 5 rfl) ?_
          refine lv_iload hx hb dL_town_103 (lv_at hl170 7 rfl) ?_
          refine lv_iconst (v := nI 2) hx hb dL_town_105 (by decide) ?_
          obtain ⟨fs176, hfs176⟩ := XINV.recv hI
          have hPc176 : va_P D vwCl (fl [w_173]) _ := flP_sub hP174 [0] rfl
          have hDc176 : va_D A (fl [w_173]) := flD_sub hD174 [0] (by decide) rfl
          refine cl_i (br := []) (va_runV (As := [.int (nI k), .int (nI 2)]) (rest := []) ⟨hx, hb, hml, hown, hts⟩ (e_X5_street l D T hI k 2 (by omega) (by omega) _) (mkV hts okX5_street kw_407 kw_408 kw_409 ⟨rfl, rfl, (Nat.le_of_ble_eq_true rfl), (Nat.le_of_ble_eq_true rfl)⟩) (pv_rw hK hPc176 hDc176 hfs176 (q := (RX5, TX5, 5)) rfl rfl) rfl rfl hl170.1 rfl (lv_room (Nat.le_of_ble_eq_true rfl)) dL_town_106 ⟨(Nat.le_of_ble_eq_true rfl), (Nat.le_of_ble_eq_true rfl)⟩) hP174 hD174 hS174 hA [] [0] rfl (by decide) (fun r_176 w_176 H177 locs177 hq_176 hP177 hD177 hS177 => ?_)
          clear hP174 hD174 hS174 hPc176 hDc176 hfs176 hI
          obtain ⟨hr_176, hI⟩ := hq_176
          have hr_176 : r_176 = bI (brM mm k) := hr_176
          subst hr_176
          have hP177 : va_P D vwCl (fl [w_176]) _ := hP177
          have hD177 : va_D A (fl [w_176]) := hD177
          refine tp_i (y := nI 0) (by rw [hbr]; rfl) ?_
          refine lv_iconst (v := nI 1) hx hb dL_town_109 (by decide) ?_
          refine n_icmp_ne (tgt := 117) hx hb (by omega) (by omega) dL_town_110 (by decide) (fun c178 => ?_) (fun c178 => absurd c178 (by decide))
          refine lv_iconst (v := nI 0) hx hb dL_town_117 (by decide) ?_
          refine lv_aload_n hx hb dL_town_118 rfl (lv_at hl170 5 rfl) ?_
          refine lv_iload hx hb dL_town_119 (lv_at hl170 7 rfl) ?_
          refine lv_iconst (v := nI 0) hx hb dL_town_121 (by decide) ?_
          obtain ⟨fs179, hfs179⟩ := XINV.recv hI
          have hPc179 : va_P D vwCl (fl [w_176]) _ := flP_sub hP177 [0] rfl
          have hDc179 : va_D A (fl [w_176]) := flD_sub hD177 [0] (by decide) rfl
          refine cl_i (br := []) (va_runV (As := [.int (nI k), .int (nI 0)]) (rest := [.int (nI 0)]) ⟨hx, hb, hml, hown, hts⟩ (e_X5_street l D T hI k 0 (by omega) (by omega) _) (mkV hts okX5_street kw_407 kw_408 kw_409 ⟨rfl, rfl, (Nat.le_of_ble_eq_true rfl), (Nat.le_of_ble_eq_true rfl)⟩) (pv_rw hK hPc179 hDc179 hfs179 (q := (RX5, TX5, 5)) rfl rfl) rfl rfl hl170.1 rfl (lv_room (Nat.le_of_ble_eq_true rfl)) dL_town_122 ⟨(Nat.le_of_ble_eq_true rfl), (Nat.le_of_ble_eq_true rfl)⟩) hP177 hD177 hS177 hA [] [0] rfl (by decide) (fun r_179 w_179 H180 locs180 hq_179 hP180 hD180 hS180 => ?_)
          clear hP177 hD177 hS177 hPc179 hDc179 hfs179 hI
          obtain ⟨hr_179, hI⟩ := hq_179
          have hr_179 : r_179 = mm (12 + 6 * k) := hr_179
          subst hr_179
          have hP180 : va_P D vwCl (fl [w_179]) _ := hP180
          have hD180 : va_D A (fl [w_179]) := hD180
          refine tp_i (y := nI d) (ed) ?_
          refine lv_aload_n hx hb dL_town_125 rfl (lv_at hl170 5 rfl) ?_
          refine lv_iconst (v := nI 0) hx hb dL_town_126 (by decide) ?_
          obtain ⟨fs181, hfs181⟩ := XINV.recv hI
          have hPc181 : va_P D vwCl (fl [w_179]) _ := flP_sub hP180 [0] rfl
          have hDc181 : va_D A (fl [w_179]) := flD_sub hD180 [0] (by decide) rfl
          refine cl_i (br := []) (va_runV (As := [.int (nI 0)]) (rest := [.int (nI d), .int (nI 0)]) ⟨hx, hb, hml, hown, hts⟩ (e_X5_setting l D T hI 0 (by omega) _) (mkV hts okX5_setting kw_363 kw_364 kw_365 ⟨rfl, rfl, (Nat.le_of_ble_eq_true rfl), (Nat.le_of_ble_eq_true rfl)⟩) (pv_rw hK hPc181 hDc181 hfs181 (q := (RX5, TX5, 5)) rfl rfl) rfl rfl hl170.1 rfl (lv_room (Nat.le_of_ble_eq_true rfl)) dL_town_127 ⟨(Nat.le_of_ble_eq_true rfl), (Nat.le_of_ble_eq_true rfl)⟩) hP180 hD180 hS180 hA [] [0] rfl (by decide) (fun r_181 w_181 H182 locs182 hq_181 hP182 hD182 hS182 => ?_)
          clear hP180 hD180 hS180 hPc181 hDc181 hfs181 hI
          obtain ⟨hr_181, hI⟩ := hq_181
          have hr_181 : r_181 = mm 0 := hr_181
          subst hr_181
          have hP182 : va_P D vwCl (fl [w_181]) _ := hP182
          have hD182 : va_D A (fl [w_181]) := hD182
          refine tp_i (y := nI a0) (ea0) ?_
          refine n_icmp_le (tgt := 137) hx hb (by omega) (by omega) dL_town_130 (by decide) (fun c183 => ?_) (fun c183 => absurd (brm_f hbr ed ea0 (by omega)) c183)
          refine lv_iconst (v := nI 0) hx hb dL_town_137 (by decide) ?_
          refine n_icmp_ne (tgt := 268) hx hb (by omega) (by omega) dL_town_138 (by decide) (fun c184 => absurd c184 (by decide)) (fun c184 => ?_)
          refine lv_aload_n hx hb dL_town_141 rfl (lv_at hl170 5 rfl) ?_
          refine lv_iload hx hb dL_town_142 (lv_at hl170 7 rfl) ?_
          refine lv_iconst (v := nI 3) hx hb dL_town_144 (by decide) ?_
          obtain ⟨fs185, hfs185⟩ := XINV.recv hI
          have hPc185 : va_P D vwCl (fl [w_181]) _ := flP_sub hP182 [0] rfl
          have hDc185 : va_D A (fl [w_181]) := flD_sub hD182 [0] (by decide) rfl
          refine cl_i (br := []) (va_runV (As := [.int (nI k), .int (nI 3)]) (rest := []) ⟨hx, hb, hml, hown, hts⟩ (e_X5_street l D T hI k 3 (by omega) (by omega) _) (mkV hts okX5_street kw_407 kw_408 kw_409 ⟨rfl, rfl, (Nat.le_of_ble_eq_true rfl), (Nat.le_of_ble_eq_true rfl)⟩) (pv_rw hK hPc185 hDc185 hfs185 (q := (RX5, TX5, 5)) rfl rfl) rfl rfl hl170.1 rfl (lv_room (Nat.le_of_ble_eq_true rfl)) dL_town_145 ⟨(Nat.le_of_ble_eq_true rfl), (Nat.le_of_ble_eq_true rfl)⟩) hP182 hD182 hS182 hA [] [0] rfl (by decide) (fun r_185 w_185 H186 locs186 hq_185 hP186 hD186 hS186 => ?_)
          clear hP182 hD182 hS182 hPc185 hDc185 hfs185 hI
          obtain ⟨hr_185, hI⟩ := hq_185
          have hr_185 : r_185 = prM mm (nI 0) k := hr_185
          subst hr_185
          have hP186 : va_P D vwCl (fl [w_185]) _ := hP186
          have hD186 : va_D A (fl [w_185]) := hD186
          refine tp_i (y := nI p0) (ep0) ?_
          refine n_if_lt hx hb (by omega) dL_town_148 268 (by decide) ?_
          rcases src4 mm k with ⟨hsr, hk0, h4⟩ | ⟨hsr, hk0, h4⟩ | ⟨hsr, hk0, h4⟩ | ⟨hsr, hk0, h4⟩
          · skip
            rw [hsr] at hl170
            refine lv_iload hx hb dL_town_151 (lv_at hl170 4 rfl) ?_
            refine lv_iload hx hb dL_town_153 (lv_at hl170 7 rfl) ?_
            refine lv_iconst (v := nI 1) hx hb dL_town_155 (by decide) ?_
            refine lv_isub hx hb dL_town_156 ?_
            refine tp_i (y := nI (k - 1)) (pk_sub (by omega)) ?_
            refine n_icmp_ne (tgt := 165) hx hb (by omega) (by omega) dL_town_157 (by decide) (fun c187 => absurd c187 (by omega)) (fun c187 => ?_)
            refine lv_iload hx hb dL_town_160 (lv_at hl170 7 rfl) ?_
            refine n_if_gt (tgt := 178) hx hb (by omega) dL_town_162 (by decide) (fun c188 => ?_) (fun c188 => absurd (by omega) c188)
            refine lv_iload hx hb dL_town_178 (lv_at hl170 7 rfl) ?_
            refine lv_iconst (v := nI 4) hx hb dL_town_180 (by decide) ?_
            refine lv_irem hx hb dL_town_181 (by decide) ?_
            refine tp_i (y := nI (k % 4)) (pk_rem (by omega) (by omega) (by omega)) ?_
            refine n_if_eq (tgt := 204) hx hb (by omega) dL_town_182 (by decide) (fun c189 => absurd c189 (by omega)) (fun c189 => ?_)
            refine lv_aload_n hx hb dL_town_185 rfl (lv_at hl170 5 rfl) ?_
            refine lv_iload hx hb dL_town_186 (lv_at hl170 7 rfl) ?_
            refine lv_iconst (v := nI 3) hx hb dL_town_188 (by decide) ?_
            obtain ⟨fs190, hfs190⟩ := XINV.recv hI
            have hPc190 : va_P D vwCl (fl [w_185]) _ := flP_sub hP186 [0] rfl
            have hDc190 : va_D A (fl [w_185]) := flD_sub hD186 [0] (by decide) rfl
            refine cl_i (br := []) (va_runV (As := [.int (nI k), .int (nI 3)]) (rest := []) ⟨hx, hb, hml, hown, hts⟩ (e_X5_street l D T hI k 3 (by omega) (by omega) _) (mkV hts okX5_street kw_407 kw_408 kw_409 ⟨rfl, rfl, (Nat.le_of_ble_eq_true rfl), (Nat.le_of_ble_eq_true rfl)⟩) (pv_rw hK hPc190 hDc190 hfs190 (q := (RX5, TX5, 5)) rfl rfl) rfl rfl hl170.1 rfl (lv_room (Nat.le_of_ble_eq_true rfl)) dL_town_189 ⟨(Nat.le_of_ble_eq_true rfl), (Nat.le_of_ble_eq_true rfl)⟩) hP186 hD186 hS186 hA [] [0] rfl (by decide) (fun r_190 w_190 H191 locs191 hq_190 hP191 hD191 hS191 => ?_)
            clear hP186 hD186 hS186 hPc190 hDc190 hfs190 hI
            obtain ⟨hr_190, hI⟩ := hq_190
            have hr_190 : r_190 = prM mm (nI 0) k := hr_190
            subst hr_190
            have hP191 : va_P D vwCl (fl [w_190]) _ := hP191
            have hD191 : va_D A (fl [w_190]) := hD191
            refine lv_aload_n hx hb dL_town_192 rfl (lv_at hl170 5 rfl) ?_
            refine lv_iload hx hb dL_town_193 (lv_at hl170 7 rfl) ?_
            refine lv_iconst (v := nI 1) hx hb dL_town_195 (by decide) ?_
            refine lv_isub hx hb dL_town_196 ?_
            refine tp_i (y := nI (k - 1)) (pk_sub (by omega)) ?_
            refine lv_iconst (v := nI 3) hx hb dL_town_197 (by decide) ?_
            obtain ⟨fs192, hfs192⟩ := XINV.recv hI
            have hPc192 : va_P D vwCl (fl [w_190]) _ := flP_sub hP191 [0] rfl
            have hDc192 : va_D A (fl [w_190]) := flD_sub hD191 [0] (by decide) rfl
            refine cl_i (br := []) (va_runV (As := [.int (nI (k - 1)), .int (nI 3)]) (rest := [.int (prM mm (nI 0) k)]) ⟨hx, hb, hml, hown, hts⟩ (e_X5_street l D T hI (k - 1) 3 (by omega) (by omega) _) (mkV hts okX5_street kw_407 kw_408 kw_409 ⟨rfl, rfl, (Nat.le_of_ble_eq_true rfl), (Nat.le_of_ble_eq_true rfl)⟩) (pv_rw hK hPc192 hDc192 hfs192 (q := (RX5, TX5, 5)) rfl rfl) rfl rfl hl170.1 rfl (lv_room (Nat.le_of_ble_eq_true rfl)) dL_town_198 ⟨(Nat.le_of_ble_eq_true rfl), (Nat.le_of_ble_eq_true rfl)⟩) hP191 hD191 hS191 hA [] [0] rfl (by decide) (fun r_192 w_192 H193 locs193 hq_192 hP193 hD193 hS193 => ?_)
            clear hP191 hD191 hS191 hPc192 hDc192 hfs192 hI
            obtain ⟨hr_192, hI⟩ := hq_192
            have hr_192 : r_192 = prM mm (nI 0) (k - 1) := hr_192
            subst hr_192
            have hP193 : va_P D vwCl (fl [w_192]) _ := hP193
            have hD193 : va_D A (fl [w_192]) := hD193
            refine lv_icmp_gt (tgt := 268) hx hb dL_town_201 (by decide) (fun c194 => absurd c194 (Int32.not_lt.mpr (pr_down hR (by omega) h4))) (fun c194 => ?_)
            refine lv_iload hx hb dL_town_204 (lv_at hl170 4 rfl) ?_
            refine lv_iconst (v := (-1)) hx hb dL_town_206 (by decide) ?_
            refine lv_icmp_eq (tgt := 227) hx hb dL_town_207 (by decide) (fun c195 => absurd c195 (nI_nm1 (by omega))) (fun c195 => ?_)
            refine lv_aload_n hx hb dL_town_210 rfl (lv_at hl170 5 rfl) ?_
            refine lv_iload hx hb dL_town_211 (lv_at hl170 7 rfl) ?_
            refine lv_iconst (v := nI 3) hx hb dL_town_213 (by decide) ?_
            obtain ⟨fs196, hfs196⟩ := XINV.recv hI
            have hPc196 : va_P D vwCl (fl [w_192]) _ := flP_sub hP193 [0] rfl
            have hDc196 : va_D A (fl [w_192]) := flD_sub hD193 [0] (by decide) rfl
            refine cl_i (br := []) (va_runV (As := [.int (nI k), .int (nI 3)]) (rest := []) ⟨hx, hb, hml, hown, hts⟩ (e_X5_street l D T hI k 3 (by omega) (by omega) _) (mkV hts okX5_street kw_407 kw_408 kw_409 ⟨rfl, rfl, (Nat.le_of_ble_eq_true rfl), (Nat.le_of_ble_eq_true rfl)⟩) (pv_rw hK hPc196 hDc196 hfs196 (q := (RX5, TX5, 5)) rfl rfl) rfl rfl hl170.1 rfl (lv_room (Nat.le_of_ble_eq_true rfl)) dL_town_214 ⟨(Nat.le_of_ble_eq_true rfl), (Nat.le_of_ble_eq_true rfl)⟩) hP193 hD193 hS193 hA [] [0] rfl (by decide) (fun r_196 w_196 H197 locs197 hq_196 hP197 hD197 hS197 => ?_)
            clear hP193 hD193 hS193 hPc196 hDc196 hfs196 hI
            obtain ⟨hr_196, hI⟩ := hq_196
            have hr_196 : r_196 = prM mm (nI 0) k := hr_196
            subst hr_196
            have hP197 : va_P D vwCl (fl [w_196]) _ := hP197
            have hD197 : va_D A (fl [w_196]) := hD197
            refine lv_aload_n hx hb dL_town_217 rfl (lv_at hl170 5 rfl) ?_
            refine lv_iload hx hb dL_town_218 (lv_at hl170 4 rfl) ?_
            refine lv_iconst (v := nI 3) hx hb dL_town_220 (by decide) ?_
            obtain ⟨fs198, hfs198⟩ := XINV.recv hI
            have hPc198 : va_P D vwCl (fl [w_196]) _ := flP_sub hP197 [0] rfl
            have hDc198 : va_D A (fl [w_196]) := flD_sub hD197 [0] (by decide) rfl
            refine cl_i (br := []) (va_runV (As := [.int (nI (k - 1)), .int (nI 3)]) (rest := [.int (prM mm (nI 0) k)]) ⟨hx, hb, hml, hown, hts⟩ (e_X5_street l D T hI (k - 1) 3 (by omega) (by omega) _) (mkV hts okX5_street kw_407 kw_408 kw_409 ⟨rfl, rfl, (Nat.le_of_ble_eq_true rfl), (Nat.le_of_ble_eq_true rfl)⟩) (pv_rw hK hPc198 hDc198 hfs198 (q := (RX5, TX5, 5)) rfl rfl) rfl rfl hl170.1 rfl (lv_room (Nat.le_of_ble_eq_true rfl)) dL_town_221 ⟨(Nat.le_of_ble_eq_true rfl), (Nat.le_of_ble_eq_true rfl)⟩) hP197 hD197 hS197 hA [] [0] rfl (by decide) (fun r_198 w_198 H199 locs199 hq_198 hP199 hD199 hS199 => ?_)
            clear hP197 hD197 hS197 hPc198 hDc198 hfs198 hI
            obtain ⟨hr_198, hI⟩ := hq_198
            have hr_198 : r_198 = prM mm (nI 0) (k - 1) := hr_198
            subst hr_198
            have hP199 : va_P D vwCl (fl [w_198]) _ := hP199
            have hD199 : va_D A (fl [w_198]) := hD199
            refine lv_icmp_gt (tgt := 268) hx hb dL_town_224 (by decide) (fun c200 => absurd c200 (Int32.not_lt.mpr (pr_src hR (by omega) (by omega) hsr))) (fun c200 => ?_)
            refine lv_aload_n hx hb dL_town_227 rfl (lv_at hl170 5 rfl) ?_
            refine lv_iload hx hb dL_town_228 (lv_at hl170 7 rfl) ?_
            refine lv_bipush (v := nI 7) hx hb dL_town_230 (by decide) ?_
            obtain ⟨fs201, hfs201⟩ := XINV.recv hI
            have hPc201 : va_P D vwCl (fl [w_198]) _ := flP_sub hP199 [0] rfl
            have hDc201 : va_D A (fl [w_198]) := flD_sub hD199 [0] (by decide) rfl
            refine cl_i (br := []) (va_runV (As := [.int (nI k), .int (nI 7)]) (rest := []) ⟨hx, hb, hml, hown, hts⟩ (e_X5_street l D T hI k 7 (by omega) (by omega) _) (mkV hts okX5_street kw_407 kw_408 kw_409 ⟨rfl, rfl, (Nat.le_of_ble_eq_true rfl), (Nat.le_of_ble_eq_true rfl)⟩) (pv_rw hK hPc201 hDc201 hfs201 (q := (RX5, TX5, 5)) rfl rfl) rfl rfl hl170.1 rfl (lv_room (Nat.le_of_ble_eq_true rfl)) dL_town_232 ⟨(Nat.le_of_ble_eq_true rfl), (Nat.le_of_ble_eq_true rfl)⟩) hP199 hD199 hS199 hA [] [0] rfl (by decide) (fun r_201 w_201 H202 locs202 hq_201 hP202 hD202 hS202 => ?_)
            clear hP199 hD199 hS199 hPc201 hDc201 hfs201 hI
            obtain ⟨hr_201, hI⟩ := hq_201
            have hr_201 : r_201 = mm (12 + 6 * k + 5) := hr_201
            subst hr_201
            have hP202 : va_P D vwCl (fl [w_201]) _ := hP202
            have hD202 : va_D A (fl [w_201]) := hD202
            refine tp_i (y := nI a7) (ea7) ?_
            refine lv_aload_n hx hb dL_town_235 rfl (lv_at hl170 5 rfl) ?_
            refine lv_iconst (v := nI 0) hx hb dL_town_236 (by decide) ?_
            obtain ⟨fs203, hfs203⟩ := XINV.recv hI
            have hPc203 : va_P D vwCl (fl [w_201]) _ := flP_sub hP202 [0] rfl
            have hDc203 : va_D A (fl [w_201]) := flD_sub hD202 [0] (by decide) rfl
            refine cl_i (br := []) (va_runV (As := [.int (nI 0)]) (rest := [.int (nI a7)]) ⟨hx, hb, hml, hown, hts⟩ (e_X5_count l D T hI 0 (by omega) _) (mkV hts okX5_count kw_349 kw_350 kw_351 ⟨rfl, rfl, (Nat.le_of_ble_eq_true rfl), (Nat.le_of_ble_eq_true rfl)⟩) (pv_rw hK hPc203 hDc203 hfs203 (q := (RX5, TX5, 5)) rfl rfl) rfl rfl hl170.1 rfl (lv_room (Nat.le_of_ble_eq_true rfl)) dL_town_237 ⟨(Nat.le_of_ble_eq_true rfl), (Nat.le_of_ble_eq_true rfl)⟩) hP202 hD202 hS202 hA [] [0] rfl (by decide) (fun r_203 w_203 H204 locs204 hq_203 hP204 hD204 hS204 => ?_)
            clear hP202 hD202 hS202 hPc203 hDc203 hfs203 hI
            obtain ⟨hr_203, hI⟩ := hq_203
            have hr_203 : r_203 = mm 9 := hr_203
            subst hr_203
            have hP204 : va_P D vwCl (fl [w_203]) _ := hP204
            have hD204 : va_D A (fl [w_203]) := hD204
            refine tp_i (y := nI h) (hR.hours) ?_
            refine n_icmp_gt (tgt := 268) hx hb (by omega) (by omega) dL_town_240 (by decide) (fun c205 => absurd c205 (by omega)) (fun c205 => ?_)
            rcases ls_r mm k 100 0 with hls | ⟨q0, hq0, hls⟩
            · skip
              refine lv_aload_n hx hb dL_town_243 rfl (lv_at hl170 5 rfl) ?_
              refine lv_iload hx hb dL_town_244 (lv_at hl170 7 rfl) ?_
              obtain ⟨fs206, hfs206⟩ := XINV.recv hI
              have hPc206 : va_P D vwCl (fl [w_203]) _ := flP_sub hP204 [0] rfl
              have hDc206 : va_D A (fl [w_203]) := flD_sub hD204 [0] (by decide) rfl
              refine cl_i (br := []) (va_runV (As := [.int (nI k)]) (rest := []) ⟨hx, hb, hml, hown, hts⟩ (e_X5_leastPressure l D T hI k (by omega) _) (mkV hts okX5_leastPressure kw_415 kw_416 kw_417 ⟨rfl, rfl, (Nat.le_of_ble_eq_true rfl), (Nat.le_of_ble_eq_true rfl)⟩) (pv_rw hK hPc206 hDc206 hfs206 (q := (RX5, TX5, 5)) rfl rfl) rfl rfl hl170.1 rfl (lv_room (Nat.le_of_ble_eq_true rfl)) dL_town_246 ⟨(Nat.le_of_ble_eq_true rfl), (Nat.le_of_ble_eq_true rfl)⟩) hP204 hD204 hS204 hA [] [0] rfl (by decide) (fun r_206 w_206 H207 locs207 hq_206 hP207 hD207 hS207 => ?_)
              clear hP204 hD204 hS204 hPc206 hDc206 hfs206 hI
              obtain ⟨hr_206, hI⟩ := hq_206
              have hr_206 : r_206 = lsG mm k 0 100 := hr_206
              subst hr_206
              have hP207 : va_P D vwCl (fl [w_206]) _ := hP207
              have hD207 : va_D A (fl [w_206]) := hD207
              refine tp_i (y := (-1)) (hls) ?_
              refine lv_iconst (v := (-1)) hx hb dL_town_249 (by decide) ?_
              refine lv_icmp_lt (tgt := 268) hx hb dL_town_250 (by decide) (fun c208 => absurd c208 (by decide)) (fun c208 => ?_)
              refine lv_aload_n hx hb dL_town_253 rfl (lv_at hl170 5 rfl) ?_
              refine lv_iload hx hb dL_town_254 (lv_at hl170 7 rfl) ?_
              obtain ⟨fs209, hfs209⟩ := XINV.recv hI
              have hPc209 : va_P D vwCl (fl [w_206]) _ := flP_sub hP207 [0] rfl
              have hDc209 : va_D A (fl [w_206]) := flD_sub hD207 [0] (by decide) rfl
              refine cl_i (br := []) (va_runV (As := [.int (nI k)]) (rest := []) ⟨hx, hb, hml, hown, hts⟩ (e_X5_leastPressure l D T hI k (by omega) _) (mkV hts okX5_leastPressure kw_415 kw_416 kw_417 ⟨rfl, rfl, (Nat.le_of_ble_eq_true rfl), (Nat.le_of_ble_eq_true rfl)⟩) (pv_rw hK hPc209 hDc209 hfs209 (q := (RX5, TX5, 5)) rfl rfl) rfl rfl hl170.1 rfl (lv_room (Nat.le_of_ble_eq_true rfl)) dL_town_256 ⟨(Nat.le_of_ble_eq_true rfl), (Nat.le_of_ble_eq_true rfl)⟩) hP207 hD207 hS207 hA [] [0] rfl (by decide) (fun r_209 w_209 H210 locs210 hq_209 hP210 hD210 hS210 => ?_)
              clear hP207 hD207 hS207 hPc209 hDc209 hfs209 hI
              obtain ⟨hr_209, hI⟩ := hq_209
              have hr_209 : r_209 = lsG mm k 0 100 := hr_209
              subst hr_209
              have hP210 : va_P D vwCl (fl [w_209]) _ := hP210
              have hD210 : va_D A (fl [w_209]) := hD210
              refine tp_i (y := (-1)) (hls) ?_
              refine lv_bipush (v := nI 99) hx hb dL_town_259 (by decide) ?_
              refine lv_icmp_gt (tgt := 268) hx hb dL_town_261 (by decide) (fun c211 => absurd c211 (by decide)) (fun c211 => ?_)
              refine lv_iconst (v := nI 1) hx hb dL_town_264 (by decide) ?_
              refine lv_goto (tgt := 269) hx hb dL_town_265 (by decide) ?_
              refine lv_istore (lv' := [(5, .int (nI 1)), (4, .int (sumM mm 4 (k + 1))), (3, .int (sumM mm 3 (k + 1))), (2, .int (nI (brNM mm (k + 1)))), (1, .int (sumM mm 0 (k + 1))), (7, .int (nI (k - 1))), (0, .ref xa), (6, .int (nI k))]) hx hb dL_town_269 hl170 (by decide) rfl (fun ls212 hl212 => ?_)
              clear hl170
              refine lv_iinc (v := nI (k + 1)) (lv' := [(6, .int (nI (k + 1))), (5, .int (nI 1)), (4, .int (sumM mm 4 (k + 1))), (3, .int (sumM mm 3 (k + 1))), (2, .int (nI (brNM mm (k + 1)))), (1, .int (sumM mm 0 (k + 1))), (7, .int (nI (k - 1))), (0, .ref xa)]) hx hb dL_town_271 hl212 (k := 7) rfl (nI_add k 1) (by decide) rfl (fun ls213 hl213 => ?_)
              clear hl212
              refine lv_goto (tgt := 15) hx hb dL_town_274 (by decide) ?_
              exact ih15 (k + 1) w_209 (by omega) (hI) (by omega) _ _ hP210 hD210 hS210 _ (lv_sub hl213 [7, 5, 4, 3, 2, 1, 0] rfl)
            · skip
              refine lv_aload_n hx hb dL_town_243 rfl (lv_at hl170 5 rfl) ?_
              refine lv_iload hx hb dL_town_244 (lv_at hl170 7 rfl) ?_
              obtain ⟨fs214, hfs214⟩ := XINV.recv hI
              have hPc214 : va_P D vwCl (fl [w_203]) _ := flP_sub hP204 [0] rfl
              have hDc214 : va_D A (fl [w_203]) := flD_sub hD204 [0] (by decide) rfl
              refine cl_i (br := []) (va_runV (As := [.int (nI k)]) (rest := []) ⟨hx, hb, hml, hown, hts⟩ (e_X5_leastPressure l D T hI k (by omega) _) (mkV hts okX5_leastPressure kw_415 kw_416 kw_417 ⟨rfl, rfl, (Nat.le_of_ble_eq_true rfl), (Nat.le_of_ble_eq_true rfl)⟩) (pv_rw hK hPc214 hDc214 hfs214 (q := (RX5, TX5, 5)) rfl rfl) rfl rfl hl170.1 rfl (lv_room (Nat.le_of_ble_eq_true rfl)) dL_town_246 ⟨(Nat.le_of_ble_eq_true rfl), (Nat.le_of_ble_eq_true rfl)⟩) hP204 hD204 hS204 hA [] [0] rfl (by decide) (fun r_214 w_214 H215 locs215 hq_214 hP215 hD215 hS215 => ?_)
              clear hP204 hD204 hS204 hPc214 hDc214 hfs214 hI
              obtain ⟨hr_214, hI⟩ := hq_214
              have hr_214 : r_214 = lsG mm k 0 100 := hr_214
              subst hr_214
              have hP215 : va_P D vwCl (fl [w_214]) _ := hP215
              have hD215 : va_D A (fl [w_214]) := hD215
              refine tp_i (y := nI q0) (hls) ?_
              refine lv_iconst (v := (-1)) hx hb dL_town_249 (by decide) ?_
              refine lv_icmp_lt (tgt := 268) hx hb dL_town_250 (by decide) (fun c216 => absurd c216 (n_m1 (by omega))) (fun c216 => ?_)
              refine lv_aload_n hx hb dL_town_253 rfl (lv_at hl170 5 rfl) ?_
              refine lv_iload hx hb dL_town_254 (lv_at hl170 7 rfl) ?_
              obtain ⟨fs217, hfs217⟩ := XINV.recv hI
              have hPc217 : va_P D vwCl (fl [w_214]) _ := flP_sub hP215 [0] rfl
              have hDc217 : va_D A (fl [w_214]) := flD_sub hD215 [0] (by decide) rfl
              refine cl_i (br := []) (va_runV (As := [.int (nI k)]) (rest := []) ⟨hx, hb, hml, hown, hts⟩ (e_X5_leastPressure l D T hI k (by omega) _) (mkV hts okX5_leastPressure kw_415 kw_416 kw_417 ⟨rfl, rfl, (Nat.le_of_ble_eq_true rfl), (Nat.le_of_ble_eq_true rfl)⟩) (pv_rw hK hPc217 hDc217 hfs217 (q := (RX5, TX5, 5)) rfl rfl) rfl rfl hl170.1 rfl (lv_room (Nat.le_of_ble_eq_true rfl)) dL_town_256 ⟨(Nat.le_of_ble_eq_true rfl), (Nat.le_of_ble_eq_true rfl)⟩) hP215 hD215 hS215 hA [] [0] rfl (by decide) (fun r_217 w_217 H218 locs218 hq_217 hP218 hD218 hS218 => ?_)
              clear hP215 hD215 hS215 hPc217 hDc217 hfs217 hI
              obtain ⟨hr_217, hI⟩ := hq_217
              have hr_217 : r_217 = lsG mm k 0 100 := hr_217
              subst hr_217
              have hP218 : va_P D vwCl (fl [w_217]) _ := hP218
              have hD218 : va_D A (fl [w_217]) := hD218
              refine tp_i (y := nI q0) (hls) ?_
              refine lv_bipush (v := nI 99) hx hb dL_town_259 (by decide) ?_
              refine n_icmp_gt (tgt := 268) hx hb (by omega) (by omega) dL_town_261 (by decide) (fun c219 => absurd c219 (by omega)) (fun c219 => ?_)
              refine lv_iconst (v := nI 1) hx hb dL_town_264 (by decide) ?_
              refine lv_goto (tgt := 269) hx hb dL_town_265 (by decide) ?_
              refine lv_istore (lv' := [(5, .int (nI 1)), (4, .int (sumM mm 4 (k + 1))), (3, .int (sumM mm 3 (k + 1))), (2, .int (nI (brNM mm (k + 1)))), (1, .int (sumM mm 0 (k + 1))), (7, .int (nI (k - 1))), (0, .ref xa), (6, .int (nI k))]) hx hb dL_town_269 hl170 (by decide) rfl (fun ls220 hl220 => ?_)
              clear hl170
              refine lv_iinc (v := nI (k + 1)) (lv' := [(6, .int (nI (k + 1))), (5, .int (nI 1)), (4, .int (sumM mm 4 (k + 1))), (3, .int (sumM mm 3 (k + 1))), (2, .int (nI (brNM mm (k + 1)))), (1, .int (sumM mm 0 (k + 1))), (7, .int (nI (k - 1))), (0, .ref xa)]) hx hb dL_town_271 hl220 (k := 7) rfl (nI_add k 1) (by decide) rfl (fun ls221 hl221 => ?_)
              clear hl220
              refine lv_goto (tgt := 15) hx hb dL_town_274 (by decide) ?_
              exact ih15 (k + 1) w_217 (by omega) (hI) (by omega) _ _ hP218 hD218 hS218 _ (lv_sub hl221 [7, 5, 4, 3, 2, 1, 0] rfl)
          · skip
            rw [hsr] at hl170
            refine lv_iload hx hb dL_town_151 (lv_at hl170 4 rfl) ?_
            refine lv_iload hx hb dL_town_153 (lv_at hl170 7 rfl) ?_
            refine lv_iconst (v := nI 1) hx hb dL_town_155 (by decide) ?_
            refine lv_isub hx hb dL_town_156 ?_
            refine lv_icmp_ne (tgt := 165) hx hb dL_town_157 (by decide) (fun c222 => absurd c222 (fun q => q (by rw [hk0]; decide))) (fun c222 => ?_)
            refine lv_iload hx hb dL_town_160 (lv_at hl170 7 rfl) ?_
            refine n_if_gt (tgt := 178) hx hb (by omega) dL_town_162 (by decide) (fun c223 => absurd c223 (by omega)) (fun c223 => ?_)
            refine lv_iload hx hb dL_town_165 (lv_at hl170 4 rfl) ?_
            refine lv_iconst (v := (-1)) hx hb dL_town_167 (by decide) ?_
            refine lv_icmp_ne (tgt := 268) hx hb dL_town_168 (by decide) (fun c224 => absurd c224 (fun q => q rfl)) (fun c224 => ?_)
            refine lv_iload hx hb dL_town_171 (lv_at hl170 7 rfl) ?_
            refine lv_iconst (v := nI 4) hx hb dL_town_173 (by decide) ?_
            refine lv_irem hx hb dL_town_174 (by decide) ?_
            refine tp_i (y := nI (k % 4)) (pk_rem (by omega) (by omega) (by omega)) ?_
            refine n_if_ne (tgt := 268) hx hb (by omega) dL_town_175 (by decide) (fun c225 => absurd c225 (by omega)) (fun c225 => ?_)
            refine lv_iload hx hb dL_town_178 (lv_at hl170 7 rfl) ?_
            refine lv_iconst (v := nI 4) hx hb dL_town_180 (by decide) ?_
            refine lv_irem hx hb dL_town_181 (by decide) ?_
            refine tp_i (y := nI (k % 4)) (pk_rem (by omega) (by omega) (by omega)) ?_
            refine n_if_eq (tgt := 204) hx hb (by omega) dL_town_182 (by decide) (fun c226 => ?_) (fun c226 => absurd (by omega) c226)
            refine lv_iload hx hb dL_town_204 (lv_at hl170 4 rfl) ?_
            refine lv_iconst (v := (-1)) hx hb dL_town_206 (by decide) ?_
            refine lv_icmp_eq (tgt := 227) hx hb dL_town_207 (by decide) (fun c227 => ?_) (fun c227 => absurd (rfl) c227)
            refine lv_aload_n hx hb dL_town_227 rfl (lv_at hl170 5 rfl) ?_
            refine lv_iload hx hb dL_town_228 (lv_at hl170 7 rfl) ?_
            refine lv_bipush (v := nI 7) hx hb dL_town_230 (by decide) ?_
            obtain ⟨fs228, hfs228⟩ := XINV.recv hI
            have hPc228 : va_P D vwCl (fl [w_185]) _ := flP_sub hP186 [0] rfl
            have hDc228 : va_D A (fl [w_185]) := flD_sub hD186 [0] (by decide) rfl
            refine cl_i (br := []) (va_runV (As := [.int (nI k), .int (nI 7)]) (rest := []) ⟨hx, hb, hml, hown, hts⟩ (e_X5_street l D T hI k 7 (by omega) (by omega) _) (mkV hts okX5_street kw_407 kw_408 kw_409 ⟨rfl, rfl, (Nat.le_of_ble_eq_true rfl), (Nat.le_of_ble_eq_true rfl)⟩) (pv_rw hK hPc228 hDc228 hfs228 (q := (RX5, TX5, 5)) rfl rfl) rfl rfl hl170.1 rfl (lv_room (Nat.le_of_ble_eq_true rfl)) dL_town_232 ⟨(Nat.le_of_ble_eq_true rfl), (Nat.le_of_ble_eq_true rfl)⟩) hP186 hD186 hS186 hA [] [0] rfl (by decide) (fun r_228 w_228 H229 locs229 hq_228 hP229 hD229 hS229 => ?_)
            clear hP186 hD186 hS186 hPc228 hDc228 hfs228 hI
            obtain ⟨hr_228, hI⟩ := hq_228
            have hr_228 : r_228 = mm (12 + 6 * k + 5) := hr_228
            subst hr_228
            have hP229 : va_P D vwCl (fl [w_228]) _ := hP229
            have hD229 : va_D A (fl [w_228]) := hD229
            refine tp_i (y := nI a7) (ea7) ?_
            refine lv_aload_n hx hb dL_town_235 rfl (lv_at hl170 5 rfl) ?_
            refine lv_iconst (v := nI 0) hx hb dL_town_236 (by decide) ?_
            obtain ⟨fs230, hfs230⟩ := XINV.recv hI
            have hPc230 : va_P D vwCl (fl [w_228]) _ := flP_sub hP229 [0] rfl
            have hDc230 : va_D A (fl [w_228]) := flD_sub hD229 [0] (by decide) rfl
            refine cl_i (br := []) (va_runV (As := [.int (nI 0)]) (rest := [.int (nI a7)]) ⟨hx, hb, hml, hown, hts⟩ (e_X5_count l D T hI 0 (by omega) _) (mkV hts okX5_count kw_349 kw_350 kw_351 ⟨rfl, rfl, (Nat.le_of_ble_eq_true rfl), (Nat.le_of_ble_eq_true rfl)⟩) (pv_rw hK hPc230 hDc230 hfs230 (q := (RX5, TX5, 5)) rfl rfl) rfl rfl hl170.1 rfl (lv_room (Nat.le_of_ble_eq_true rfl)) dL_town_237 ⟨(Nat.le_of_ble_eq_true rfl), (Nat.le_of_ble_eq_true rfl)⟩) hP229 hD229 hS229 hA [] [0] rfl (by decide) (fun r_230 w_230 H231 locs231 hq_230 hP231 hD231 hS231 => ?_)
            clear hP229 hD229 hS229 hPc230 hDc230 hfs230 hI
            obtain ⟨hr_230, hI⟩ := hq_230
            have hr_230 : r_230 = mm 9 := hr_230
            subst hr_230
            have hP231 : va_P D vwCl (fl [w_230]) _ := hP231
            have hD231 : va_D A (fl [w_230]) := hD231
            refine tp_i (y := nI h) (hR.hours) ?_
            refine n_icmp_gt (tgt := 268) hx hb (by omega) (by omega) dL_town_240 (by decide) (fun c232 => absurd c232 (by omega)) (fun c232 => ?_)
            rcases ls_r mm k 100 0 with hls | ⟨q0, hq0, hls⟩
            · skip
              refine lv_aload_n hx hb dL_town_243 rfl (lv_at hl170 5 rfl) ?_
              refine lv_iload hx hb dL_town_244 (lv_at hl170 7 rfl) ?_
              obtain ⟨fs233, hfs233⟩ := XINV.recv hI
              have hPc233 : va_P D vwCl (fl [w_230]) _ := flP_sub hP231 [0] rfl
              have hDc233 : va_D A (fl [w_230]) := flD_sub hD231 [0] (by decide) rfl
              refine cl_i (br := []) (va_runV (As := [.int (nI k)]) (rest := []) ⟨hx, hb, hml, hown, hts⟩ (e_X5_leastPressure l D T hI k (by omega) _) (mkV hts okX5_leastPressure kw_415 kw_416 kw_417 ⟨rfl, rfl, (Nat.le_of_ble_eq_true rfl), (Nat.le_of_ble_eq_true rfl)⟩) (pv_rw hK hPc233 hDc233 hfs233 (q := (RX5, TX5, 5)) rfl rfl) rfl rfl hl170.1 rfl (lv_room (Nat.le_of_ble_eq_true rfl)) dL_town_246 ⟨(Nat.le_of_ble_eq_true rfl), (Nat.le_of_ble_eq_true rfl)⟩) hP231 hD231 hS231 hA [] [0] rfl (by decide) (fun r_233 w_233 H234 locs234 hq_233 hP234 hD234 hS234 => ?_)
              clear hP231 hD231 hS231 hPc233 hDc233 hfs233 hI
              obtain ⟨hr_233, hI⟩ := hq_233
              have hr_233 : r_233 = lsG mm k 0 100 := hr_233
              subst hr_233
              have hP234 : va_P D vwCl (fl [w_233]) _ := hP234
              have hD234 : va_D A (fl [w_233]) := hD234
              refine tp_i (y := (-1)) (hls) ?_
              refine lv_iconst (v := (-1)) hx hb dL_town_249 (by decide) ?_
              refine lv_icmp_lt (tgt := 268) hx hb dL_town_250 (by decide) (fun c235 => absurd c235 (by decide)) (fun c235 => ?_)
              refine lv_aload_n hx hb dL_town_253 rfl (lv_at hl170 5 rfl) ?_
              refine lv_iload hx hb dL_town_254 (lv_at hl170 7 rfl) ?_
              obtain ⟨fs236, hfs236⟩ := XINV.recv hI
              have hPc236 : va_P D vwCl (fl [w_233]) _ := flP_sub hP234 [0] rfl
              have hDc236 : va_D A (fl [w_233]) := flD_sub hD234 [0] (by decide) rfl
              refine cl_i (br := []) (va_runV (As := [.int (nI k)]) (rest := []) ⟨hx, hb, hml, hown, hts⟩ (e_X5_leastPressure l D T hI k (by omega) _) (mkV hts okX5_leastPressure kw_415 kw_416 kw_417 ⟨rfl, rfl, (Nat.le_of_ble_eq_true rfl), (Nat.le_of_ble_eq_true rfl)⟩) (pv_rw hK hPc236 hDc236 hfs236 (q := (RX5, TX5, 5)) rfl rfl) rfl rfl hl170.1 rfl (lv_room (Nat.le_of_ble_eq_true rfl)) dL_town_256 ⟨(Nat.le_of_ble_eq_true rfl), (Nat.le_of_ble_eq_true rfl)⟩) hP234 hD234 hS234 hA [] [0] rfl (by decide) (fun r_236 w_236 H237 locs237 hq_236 hP237 hD237 hS237 => ?_)
              clear hP234 hD234 hS234 hPc236 hDc236 hfs236 hI
              obtain ⟨hr_236, hI⟩ := hq_236
              have hr_236 : r_236 = lsG mm k 0 100 := hr_236
              subst hr_236
              have hP237 : va_P D vwCl (fl [w_236]) _ := hP237
              have hD237 : va_D A (fl [w_236]) := hD237
              refine tp_i (y := (-1)) (hls) ?_
              refine lv_bipush (v := nI 99) hx hb dL_town_259 (by decide) ?_
              refine lv_icmp_gt (tgt := 268) hx hb dL_town_261 (by decide) (fun c238 => absurd c238 (by decide)) (fun c238 => ?_)
              refine lv_iconst (v := nI 1) hx hb dL_town_264 (by decide) ?_
              refine lv_goto (tgt := 269) hx hb dL_town_265 (by decide) ?_
              refine lv_istore (lv' := [(5, .int (nI 1)), (4, .int (sumM mm 4 (k + 1))), (3, .int (sumM mm 3 (k + 1))), (2, .int (nI (brNM mm (k + 1)))), (1, .int (sumM mm 0 (k + 1))), (7, .int (-1)), (0, .ref xa), (6, .int (nI k))]) hx hb dL_town_269 hl170 (by decide) rfl (fun ls239 hl239 => ?_)
              clear hl170
              refine lv_iinc (v := nI (k + 1)) (lv' := [(6, .int (nI (k + 1))), (5, .int (nI 1)), (4, .int (sumM mm 4 (k + 1))), (3, .int (sumM mm 3 (k + 1))), (2, .int (nI (brNM mm (k + 1)))), (1, .int (sumM mm 0 (k + 1))), (7, .int (-1)), (0, .ref xa)]) hx hb dL_town_271 hl239 (k := 7) rfl (nI_add k 1) (by decide) rfl (fun ls240 hl240 => ?_)
              clear hl239
              refine lv_goto (tgt := 15) hx hb dL_town_274 (by decide) ?_
              exact ih15 (k + 1) w_236 (by omega) (hI) (by omega) _ _ hP237 hD237 hS237 _ (lv_sub hl240 [7, 5, 4, 3, 2, 1, 0] rfl)
            · skip
              refine lv_aload_n hx hb dL_town_243 rfl (lv_at hl170 5 rfl) ?_
              refine lv_iload hx hb dL_town_244 (lv_at hl170 7 rfl) ?_
              obtain ⟨fs241, hfs241⟩ := XINV.recv hI
              have hPc241 : va_P D vwCl (fl [w_230]) _ := flP_sub hP231 [0] rfl
              have hDc241 : va_D A (fl [w_230]) := flD_sub hD231 [0] (by decide) rfl
              refine cl_i (br := []) (va_runV (As := [.int (nI k)]) (rest := []) ⟨hx, hb, hml, hown, hts⟩ (e_X5_leastPressure l D T hI k (by omega) _) (mkV hts okX5_leastPressure kw_415 kw_416 kw_417 ⟨rfl, rfl, (Nat.le_of_ble_eq_true rfl), (Nat.le_of_ble_eq_true rfl)⟩) (pv_rw hK hPc241 hDc241 hfs241 (q := (RX5, TX5, 5)) rfl rfl) rfl rfl hl170.1 rfl (lv_room (Nat.le_of_ble_eq_true rfl)) dL_town_246 ⟨(Nat.le_of_ble_eq_true rfl), (Nat.le_of_ble_eq_true rfl)⟩) hP231 hD231 hS231 hA [] [0] rfl (by decide) (fun r_241 w_241 H242 locs242 hq_241 hP242 hD242 hS242 => ?_)
              clear hP231 hD231 hS231 hPc241 hDc241 hfs241 hI
              obtain ⟨hr_241, hI⟩ := hq_241
              have hr_241 : r_241 = lsG mm k 0 100 := hr_241
              subst hr_241
              have hP242 : va_P D vwCl (fl [w_241]) _ := hP242
              have hD242 : va_D A (fl [w_241]) := hD242
              refine tp_i (y := nI q0) (hls) ?_
              refine lv_iconst (v := (-1)) hx hb dL_town_249 (by decide) ?_
              refine lv_icmp_lt (tgt := 268) hx hb dL_town_250 (by decide) (fun c243 => absurd c243 (n_m1 (by omega))) (fun c243 => ?_)
              refine lv_aload_n hx hb dL_town_253 rfl (lv_at hl170 5 rfl) ?_
              refine lv_iload hx hb dL_town_254 (lv_at hl170 7 rfl) ?_
              obtain ⟨fs244, hfs244⟩ := XINV.recv hI
              have hPc244 : va_P D vwCl (fl [w_241]) _ := flP_sub hP242 [0] rfl
              have hDc244 : va_D A (fl [w_241]) := flD_sub hD242 [0] (by decide) rfl
              refine cl_i (br := []) (va_runV (As := [.int (nI k)]) (rest := []) ⟨hx, hb, hml, hown, hts⟩ (e_X5_leastPressure l D T hI k (by omega) _) (mkV hts okX5_leastPressure kw_415 kw_416 kw_417 ⟨rfl, rfl, (Nat.le_of_ble_eq_true rfl), (Nat.le_of_ble_eq_true rfl)⟩) (pv_rw hK hPc244 hDc244 hfs244 (q := (RX5, TX5, 5)) rfl rfl) rfl rfl hl170.1 rfl (lv_room (Nat.le_of_ble_eq_true rfl)) dL_town_256 ⟨(Nat.le_of_ble_eq_true rfl), (Nat.le_of_ble_eq_true rfl)⟩) hP242 hD242 hS242 hA [] [0] rfl (by decide) (fun r_244 w_244 H245 locs245 hq_244 hP245 hD245 hS245 => ?_)
              clear hP242 hD242 hS242 hPc244 hDc244 hfs244 hI
              obtain ⟨hr_244, hI⟩ := hq_244
              have hr_244 : r_244 = lsG mm k 0 100 := hr_244
              subst hr_244
              have hP245 : va_P D vwCl (fl [w_244]) _ := hP245
              have hD245 : va_D A (fl [w_244]) := hD245
              refine tp_i (y := nI q0) (hls) ?_
              refine lv_bipush (v := nI 99) hx hb dL_town_259 (by decide) ?_
              refine n_icmp_gt (tgt := 268) hx hb (by omega) (by omega) dL_town_261 (by decide) (fun c246 => absurd c246 (by omega)) (fun c246 => ?_)
              refine lv_iconst (v := nI 1) hx hb dL_town_264 (by decide) ?_
              refine lv_goto (tgt := 269) hx hb dL_town_265 (by decide) ?_
              refine lv_istore (lv' := [(5, .int (nI 1)), (4, .int (sumM mm 4 (k + 1))), (3, .int (sumM mm 3 (k + 1))), (2, .int (nI (brNM mm (k + 1)))), (1, .int (sumM mm 0 (k + 1))), (7, .int (-1)), (0, .ref xa), (6, .int (nI k))]) hx hb dL_town_269 hl170 (by decide) rfl (fun ls247 hl247 => ?_)
              clear hl170
              refine lv_iinc (v := nI (k + 1)) (lv' := [(6, .int (nI (k + 1))), (5, .int (nI 1)), (4, .int (sumM mm 4 (k + 1))), (3, .int (sumM mm 3 (k + 1))), (2, .int (nI (brNM mm (k + 1)))), (1, .int (sumM mm 0 (k + 1))), (7, .int (-1)), (0, .ref xa)]) hx hb dL_town_271 hl247 (k := 7) rfl (nI_add k 1) (by decide) rfl (fun ls248 hl248 => ?_)
              clear hl247
              refine lv_goto (tgt := 15) hx hb dL_town_274 (by decide) ?_
              exact ih15 (k + 1) w_244 (by omega) (hI) (by omega) _ _ hP245 hD245 hS245 _ (lv_sub hl248 [7, 5, 4, 3, 2, 1, 0] rfl)
          · skip
            rw [hsr] at hl170
            refine lv_iload hx hb dL_town_151 (lv_at hl170 4 rfl) ?_
            refine lv_iload hx hb dL_town_153 (lv_at hl170 7 rfl) ?_
            refine lv_iconst (v := nI 1) hx hb dL_town_155 (by decide) ?_
            refine lv_isub hx hb dL_town_156 ?_
            refine tp_i (y := nI (k - 1)) (pk_sub (by omega)) ?_
            refine lv_icmp_ne (tgt := 165) hx hb dL_town_157 (by decide) (fun c249 => ?_) (fun c249 => absurd c249 (fun q => nI_nm1 (by omega) q.symm))
            refine lv_iload hx hb dL_town_165 (lv_at hl170 4 rfl) ?_
            refine lv_iconst (v := (-1)) hx hb dL_town_167 (by decide) ?_
            refine lv_icmp_ne (tgt := 268) hx hb dL_town_168 (by decide) (fun c250 => absurd c250 (fun q => q rfl)) (fun c250 => ?_)
            refine lv_iload hx hb dL_town_171 (lv_at hl170 7 rfl) ?_
            refine lv_iconst (v := nI 4) hx hb dL_town_173 (by decide) ?_
            refine lv_irem hx hb dL_town_174 (by decide) ?_
            refine tp_i (y := nI (k % 4)) (pk_rem (by omega) (by omega) (by omega)) ?_
            refine n_if_ne (tgt := 268) hx hb (by omega) dL_town_175 (by decide) (fun c251 => absurd c251 (by omega)) (fun c251 => ?_)
            refine lv_iload hx hb dL_town_178 (lv_at hl170 7 rfl) ?_
            refine lv_iconst (v := nI 4) hx hb dL_town_180 (by decide) ?_
            refine lv_irem hx hb dL_town_181 (by decide) ?_
            refine tp_i (y := nI (k % 4)) (pk_rem (by omega) (by omega) (by omega)) ?_
            refine n_if_eq (tgt := 204) hx hb (by omega) dL_town_182 (by decide) (fun c252 => ?_) (fun c252 => absurd (by omega) c252)
            refine lv_iload hx hb dL_town_204 (lv_at hl170 4 rfl) ?_
            refine lv_iconst (v := (-1)) hx hb dL_town_206 (by decide) ?_
            refine lv_icmp_eq (tgt := 227) hx hb dL_town_207 (by decide) (fun c253 => ?_) (fun c253 => absurd (rfl) c253)
            refine lv_aload_n hx hb dL_town_227 rfl (lv_at hl170 5 rfl) ?_
            refine lv_iload hx hb dL_town_228 (lv_at hl170 7 rfl) ?_
            refine lv_bipush (v := nI 7) hx hb dL_town_230 (by decide) ?_
            obtain ⟨fs254, hfs254⟩ := XINV.recv hI
            have hPc254 : va_P D vwCl (fl [w_185]) _ := flP_sub hP186 [0] rfl
            have hDc254 : va_D A (fl [w_185]) := flD_sub hD186 [0] (by decide) rfl
            refine cl_i (br := []) (va_runV (As := [.int (nI k), .int (nI 7)]) (rest := []) ⟨hx, hb, hml, hown, hts⟩ (e_X5_street l D T hI k 7 (by omega) (by omega) _) (mkV hts okX5_street kw_407 kw_408 kw_409 ⟨rfl, rfl, (Nat.le_of_ble_eq_true rfl), (Nat.le_of_ble_eq_true rfl)⟩) (pv_rw hK hPc254 hDc254 hfs254 (q := (RX5, TX5, 5)) rfl rfl) rfl rfl hl170.1 rfl (lv_room (Nat.le_of_ble_eq_true rfl)) dL_town_232 ⟨(Nat.le_of_ble_eq_true rfl), (Nat.le_of_ble_eq_true rfl)⟩) hP186 hD186 hS186 hA [] [0] rfl (by decide) (fun r_254 w_254 H255 locs255 hq_254 hP255 hD255 hS255 => ?_)
            clear hP186 hD186 hS186 hPc254 hDc254 hfs254 hI
            obtain ⟨hr_254, hI⟩ := hq_254
            have hr_254 : r_254 = mm (12 + 6 * k + 5) := hr_254
            subst hr_254
            have hP255 : va_P D vwCl (fl [w_254]) _ := hP255
            have hD255 : va_D A (fl [w_254]) := hD255
            refine tp_i (y := nI a7) (ea7) ?_
            refine lv_aload_n hx hb dL_town_235 rfl (lv_at hl170 5 rfl) ?_
            refine lv_iconst (v := nI 0) hx hb dL_town_236 (by decide) ?_
            obtain ⟨fs256, hfs256⟩ := XINV.recv hI
            have hPc256 : va_P D vwCl (fl [w_254]) _ := flP_sub hP255 [0] rfl
            have hDc256 : va_D A (fl [w_254]) := flD_sub hD255 [0] (by decide) rfl
            refine cl_i (br := []) (va_runV (As := [.int (nI 0)]) (rest := [.int (nI a7)]) ⟨hx, hb, hml, hown, hts⟩ (e_X5_count l D T hI 0 (by omega) _) (mkV hts okX5_count kw_349 kw_350 kw_351 ⟨rfl, rfl, (Nat.le_of_ble_eq_true rfl), (Nat.le_of_ble_eq_true rfl)⟩) (pv_rw hK hPc256 hDc256 hfs256 (q := (RX5, TX5, 5)) rfl rfl) rfl rfl hl170.1 rfl (lv_room (Nat.le_of_ble_eq_true rfl)) dL_town_237 ⟨(Nat.le_of_ble_eq_true rfl), (Nat.le_of_ble_eq_true rfl)⟩) hP255 hD255 hS255 hA [] [0] rfl (by decide) (fun r_256 w_256 H257 locs257 hq_256 hP257 hD257 hS257 => ?_)
            clear hP255 hD255 hS255 hPc256 hDc256 hfs256 hI
            obtain ⟨hr_256, hI⟩ := hq_256
            have hr_256 : r_256 = mm 9 := hr_256
            subst hr_256
            have hP257 : va_P D vwCl (fl [w_256]) _ := hP257
            have hD257 : va_D A (fl [w_256]) := hD257
            refine tp_i (y := nI h) (hR.hours) ?_
            refine n_icmp_gt (tgt := 268) hx hb (by omega) (by omega) dL_town_240 (by decide) (fun c258 => absurd c258 (by omega)) (fun c258 => ?_)
            rcases ls_r mm k 100 0 with hls | ⟨q0, hq0, hls⟩
            · skip
              refine lv_aload_n hx hb dL_town_243 rfl (lv_at hl170 5 rfl) ?_
              refine lv_iload hx hb dL_town_244 (lv_at hl170 7 rfl) ?_
              obtain ⟨fs259, hfs259⟩ := XINV.recv hI
              have hPc259 : va_P D vwCl (fl [w_256]) _ := flP_sub hP257 [0] rfl
              have hDc259 : va_D A (fl [w_256]) := flD_sub hD257 [0] (by decide) rfl
              refine cl_i (br := []) (va_runV (As := [.int (nI k)]) (rest := []) ⟨hx, hb, hml, hown, hts⟩ (e_X5_leastPressure l D T hI k (by omega) _) (mkV hts okX5_leastPressure kw_415 kw_416 kw_417 ⟨rfl, rfl, (Nat.le_of_ble_eq_true rfl), (Nat.le_of_ble_eq_true rfl)⟩) (pv_rw hK hPc259 hDc259 hfs259 (q := (RX5, TX5, 5)) rfl rfl) rfl rfl hl170.1 rfl (lv_room (Nat.le_of_ble_eq_true rfl)) dL_town_246 ⟨(Nat.le_of_ble_eq_true rfl), (Nat.le_of_ble_eq_true rfl)⟩) hP257 hD257 hS257 hA [] [0] rfl (by decide) (fun r_259 w_259 H260 locs260 hq_259 hP260 hD260 hS260 => ?_)
              clear hP257 hD257 hS257 hPc259 hDc259 hfs259 hI
              obtain ⟨hr_259, hI⟩ := hq_259
              have hr_259 : r_259 = lsG mm k 0 100 := hr_259
              subst hr_259
              have hP260 : va_P D vwCl (fl [w_259]) _ := hP260
              have hD260 : va_D A (fl [w_259]) := hD260
              refine tp_i (y := (-1)) (hls) ?_
              refine lv_iconst (v := (-1)) hx hb dL_town_249 (by decide) ?_
              refine lv_icmp_lt (tgt := 268) hx hb dL_town_250 (by decide) (fun c261 => absurd c261 (by decide)) (fun c261 => ?_)
              refine lv_aload_n hx hb dL_town_253 rfl (lv_at hl170 5 rfl) ?_
              refine lv_iload hx hb dL_town_254 (lv_at hl170 7 rfl) ?_
              obtain ⟨fs262, hfs262⟩ := XINV.recv hI
              have hPc262 : va_P D vwCl (fl [w_259]) _ := flP_sub hP260 [0] rfl
              have hDc262 : va_D A (fl [w_259]) := flD_sub hD260 [0] (by decide) rfl
              refine cl_i (br := []) (va_runV (As := [.int (nI k)]) (rest := []) ⟨hx, hb, hml, hown, hts⟩ (e_X5_leastPressure l D T hI k (by omega) _) (mkV hts okX5_leastPressure kw_415 kw_416 kw_417 ⟨rfl, rfl, (Nat.le_of_ble_eq_true rfl), (Nat.le_of_ble_eq_true rfl)⟩) (pv_rw hK hPc262 hDc262 hfs262 (q := (RX5, TX5, 5)) rfl rfl) rfl rfl hl170.1 rfl (lv_room (Nat.le_of_ble_eq_true rfl)) dL_town_256 ⟨(Nat.le_of_ble_eq_true rfl), (Nat.le_of_ble_eq_true rfl)⟩) hP260 hD260 hS260 hA [] [0] rfl (by decide) (fun r_262 w_262 H263 locs263 hq_262 hP263 hD263 hS263 => ?_)
              clear hP260 hD260 hS260 hPc262 hDc262 hfs262 hI
              obtain ⟨hr_262, hI⟩ := hq_262
              have hr_262 : r_262 = lsG mm k 0 100 := hr_262
              subst hr_262
              have hP263 : va_P D vwCl (fl [w_262]) _ := hP263
              have hD263 : va_D A (fl [w_262]) := hD263
              refine tp_i (y := (-1)) (hls) ?_
              refine lv_bipush (v := nI 99) hx hb dL_town_259 (by decide) ?_
              refine lv_icmp_gt (tgt := 268) hx hb dL_town_261 (by decide) (fun c264 => absurd c264 (by decide)) (fun c264 => ?_)
              refine lv_iconst (v := nI 1) hx hb dL_town_264 (by decide) ?_
              refine lv_goto (tgt := 269) hx hb dL_town_265 (by decide) ?_
              refine lv_istore (lv' := [(5, .int (nI 1)), (4, .int (sumM mm 4 (k + 1))), (3, .int (sumM mm 3 (k + 1))), (2, .int (nI (brNM mm (k + 1)))), (1, .int (sumM mm 0 (k + 1))), (7, .int (-1)), (0, .ref xa), (6, .int (nI k))]) hx hb dL_town_269 hl170 (by decide) rfl (fun ls265 hl265 => ?_)
              clear hl170
              refine lv_iinc (v := nI (k + 1)) (lv' := [(6, .int (nI (k + 1))), (5, .int (nI 1)), (4, .int (sumM mm 4 (k + 1))), (3, .int (sumM mm 3 (k + 1))), (2, .int (nI (brNM mm (k + 1)))), (1, .int (sumM mm 0 (k + 1))), (7, .int (-1)), (0, .ref xa)]) hx hb dL_town_271 hl265 (k := 7) rfl (nI_add k 1) (by decide) rfl (fun ls266 hl266 => ?_)
              clear hl265
              refine lv_goto (tgt := 15) hx hb dL_town_274 (by decide) ?_
              exact ih15 (k + 1) w_262 (by omega) (hI) (by omega) _ _ hP263 hD263 hS263 _ (lv_sub hl266 [7, 5, 4, 3, 2, 1, 0] rfl)
            · skip
              refine lv_aload_n hx hb dL_town_243 rfl (lv_at hl170 5 rfl) ?_
              refine lv_iload hx hb dL_town_244 (lv_at hl170 7 rfl) ?_
              obtain ⟨fs267, hfs267⟩ := XINV.recv hI
              have hPc267 : va_P D vwCl (fl [w_256]) _ := flP_sub hP257 [0] rfl
              have hDc267 : va_D A (fl [w_256]) := flD_sub hD257 [0] (by decide) rfl
              refine cl_i (br := []) (va_runV (As := [.int (nI k)]) (rest := []) ⟨hx, hb, hml, hown, hts⟩ (e_X5_leastPressure l D T hI k (by omega) _) (mkV hts okX5_leastPressure kw_415 kw_416 kw_417 ⟨rfl, rfl, (Nat.le_of_ble_eq_true rfl), (Nat.le_of_ble_eq_true rfl)⟩) (pv_rw hK hPc267 hDc267 hfs267 (q := (RX5, TX5, 5)) rfl rfl) rfl rfl hl170.1 rfl (lv_room (Nat.le_of_ble_eq_true rfl)) dL_town_246 ⟨(Nat.le_of_ble_eq_true rfl), (Nat.le_of_ble_eq_true rfl)⟩) hP257 hD257 hS257 hA [] [0] rfl (by decide) (fun r_267 w_267 H268 locs268 hq_267 hP268 hD268 hS268 => ?_)
              clear hP257 hD257 hS257 hPc267 hDc267 hfs267 hI
              obtain ⟨hr_267, hI⟩ := hq_267
              have hr_267 : r_267 = lsG mm k 0 100 := hr_267
              subst hr_267
              have hP268 : va_P D vwCl (fl [w_267]) _ := hP268
              have hD268 : va_D A (fl [w_267]) := hD268
              refine tp_i (y := nI q0) (hls) ?_
              refine lv_iconst (v := (-1)) hx hb dL_town_249 (by decide) ?_
              refine lv_icmp_lt (tgt := 268) hx hb dL_town_250 (by decide) (fun c269 => absurd c269 (n_m1 (by omega))) (fun c269 => ?_)
              refine lv_aload_n hx hb dL_town_253 rfl (lv_at hl170 5 rfl) ?_
              refine lv_iload hx hb dL_town_254 (lv_at hl170 7 rfl) ?_
              obtain ⟨fs270, hfs270⟩ := XINV.recv hI
              have hPc270 : va_P D vwCl (fl [w_267]) _ := flP_sub hP268 [0] rfl
              have hDc270 : va_D A (fl [w_267]) := flD_sub hD268 [0] (by decide) rfl
              refine cl_i (br := []) (va_runV (As := [.int (nI k)]) (rest := []) ⟨hx, hb, hml, hown, hts⟩ (e_X5_leastPressure l D T hI k (by omega) _) (mkV hts okX5_leastPressure kw_415 kw_416 kw_417 ⟨rfl, rfl, (Nat.le_of_ble_eq_true rfl), (Nat.le_of_ble_eq_true rfl)⟩) (pv_rw hK hPc270 hDc270 hfs270 (q := (RX5, TX5, 5)) rfl rfl) rfl rfl hl170.1 rfl (lv_room (Nat.le_of_ble_eq_true rfl)) dL_town_256 ⟨(Nat.le_of_ble_eq_true rfl), (Nat.le_of_ble_eq_true rfl)⟩) hP268 hD268 hS268 hA [] [0] rfl (by decide) (fun r_270 w_270 H271 locs271 hq_270 hP271 hD271 hS271 => ?_)
              clear hP268 hD268 hS268 hPc270 hDc270 hfs270 hI
              obtain ⟨hr_270, hI⟩ := hq_270
              have hr_270 : r_270 = lsG mm k 0 100 := hr_270
              subst hr_270
              have hP271 : va_P D vwCl (fl [w_270]) _ := hP271
              have hD271 : va_D A (fl [w_270]) := hD271
              refine tp_i (y := nI q0) (hls) ?_
              refine lv_bipush (v := nI 99) hx hb dL_town_259 (by decide) ?_
              refine n_icmp_gt (tgt := 268) hx hb (by omega) (by omega) dL_town_261 (by decide) (fun c272 => absurd c272 (by omega)) (fun c272 => ?_)
              refine lv_iconst (v := nI 1) hx hb dL_town_264 (by decide) ?_
              refine lv_goto (tgt := 269) hx hb dL_town_265 (by decide) ?_
              refine lv_istore (lv' := [(5, .int (nI 1)), (4, .int (sumM mm 4 (k + 1))), (3, .int (sumM mm 3 (k + 1))), (2, .int (nI (brNM mm (k + 1)))), (1, .int (sumM mm 0 (k + 1))), (7, .int (-1)), (0, .ref xa), (6, .int (nI k))]) hx hb dL_town_269 hl170 (by decide) rfl (fun ls273 hl273 => ?_)
              clear hl170
              refine lv_iinc (v := nI (k + 1)) (lv' := [(6, .int (nI (k + 1))), (5, .int (nI 1)), (4, .int (sumM mm 4 (k + 1))), (3, .int (sumM mm 3 (k + 1))), (2, .int (nI (brNM mm (k + 1)))), (1, .int (sumM mm 0 (k + 1))), (7, .int (-1)), (0, .ref xa)]) hx hb dL_town_271 hl273 (k := 7) rfl (nI_add k 1) (by decide) rfl (fun ls274 hl274 => ?_)
              clear hl273
              refine lv_goto (tgt := 15) hx hb dL_town_274 (by decide) ?_
              exact ih15 (k + 1) w_270 (by omega) (hI) (by omega) _ _ hP271 hD271 hS271 _ (lv_sub hl274 [7, 5, 4, 3, 2, 1, 0] rfl)
          · skip
            rw [hsr] at hl170
            refine lv_iload hx hb dL_town_151 (lv_at hl170 4 rfl) ?_
            refine lv_iload hx hb dL_town_153 (lv_at hl170 7 rfl) ?_
            refine lv_iconst (v := nI 1) hx hb dL_town_155 (by decide) ?_
            refine lv_isub hx hb dL_town_156 ?_
            refine tp_i (y := nI (k - 1)) (pk_sub (by omega)) ?_
            refine n_icmp_ne (tgt := 165) hx hb (by omega) (by omega) dL_town_157 (by decide) (fun c275 => absurd c275 (by omega)) (fun c275 => ?_)
            refine lv_iload hx hb dL_town_160 (lv_at hl170 7 rfl) ?_
            refine n_if_gt (tgt := 178) hx hb (by omega) dL_town_162 (by decide) (fun c276 => ?_) (fun c276 => absurd (by omega) c276)
            refine lv_iload hx hb dL_town_178 (lv_at hl170 7 rfl) ?_
            refine lv_iconst (v := nI 4) hx hb dL_town_180 (by decide) ?_
            refine lv_irem hx hb dL_town_181 (by decide) ?_
            refine tp_i (y := nI (k % 4)) (pk_rem (by omega) (by omega) (by omega)) ?_
            refine n_if_eq (tgt := 204) hx hb (by omega) dL_town_182 (by decide) (fun c277 => ?_) (fun c277 => absurd (by omega) c277)
            refine lv_iload hx hb dL_town_204 (lv_at hl170 4 rfl) ?_
            refine lv_iconst (v := (-1)) hx hb dL_town_206 (by decide) ?_
            refine lv_icmp_eq (tgt := 227) hx hb dL_town_207 (by decide) (fun c278 => absurd c278 (nI_nm1 (by omega))) (fun c278 => ?_)
            refine lv_aload_n hx hb dL_town_210 rfl (lv_at hl170 5 rfl) ?_
            refine lv_iload hx hb dL_town_211 (lv_at hl170 7 rfl) ?_
            refine lv_iconst (v := nI 3) hx hb dL_town_213 (by decide) ?_
            obtain ⟨fs279, hfs279⟩ := XINV.recv hI
            have hPc279 : va_P D vwCl (fl [w_185]) _ := flP_sub hP186 [0] rfl
            have hDc279 : va_D A (fl [w_185]) := flD_sub hD186 [0] (by decide) rfl
            refine cl_i (br := []) (va_runV (As := [.int (nI k), .int (nI 3)]) (rest := []) ⟨hx, hb, hml, hown, hts⟩ (e_X5_street l D T hI k 3 (by omega) (by omega) _) (mkV hts okX5_street kw_407 kw_408 kw_409 ⟨rfl, rfl, (Nat.le_of_ble_eq_true rfl), (Nat.le_of_ble_eq_true rfl)⟩) (pv_rw hK hPc279 hDc279 hfs279 (q := (RX5, TX5, 5)) rfl rfl) rfl rfl hl170.1 rfl (lv_room (Nat.le_of_ble_eq_true rfl)) dL_town_214 ⟨(Nat.le_of_ble_eq_true rfl), (Nat.le_of_ble_eq_true rfl)⟩) hP186 hD186 hS186 hA [] [0] rfl (by decide) (fun r_279 w_279 H280 locs280 hq_279 hP280 hD280 hS280 => ?_)
            clear hP186 hD186 hS186 hPc279 hDc279 hfs279 hI
            obtain ⟨hr_279, hI⟩ := hq_279
            have hr_279 : r_279 = prM mm (nI 0) k := hr_279
            subst hr_279
            have hP280 : va_P D vwCl (fl [w_279]) _ := hP280
            have hD280 : va_D A (fl [w_279]) := hD280
            refine lv_aload_n hx hb dL_town_217 rfl (lv_at hl170 5 rfl) ?_
            refine lv_iload hx hb dL_town_218 (lv_at hl170 4 rfl) ?_
            refine lv_iconst (v := nI 3) hx hb dL_town_220 (by decide) ?_
            obtain ⟨fs281, hfs281⟩ := XINV.recv hI
            have hPc281 : va_P D vwCl (fl [w_279]) _ := flP_sub hP280 [0] rfl
            have hDc281 : va_D A (fl [w_279]) := flD_sub hD280 [0] (by decide) rfl
            refine cl_i (br := []) (va_runV (As := [.int (nI (k - 1)), .int (nI 3)]) (rest := [.int (prM mm (nI 0) k)]) ⟨hx, hb, hml, hown, hts⟩ (e_X5_street l D T hI (k - 1) 3 (by omega) (by omega) _) (mkV hts okX5_street kw_407 kw_408 kw_409 ⟨rfl, rfl, (Nat.le_of_ble_eq_true rfl), (Nat.le_of_ble_eq_true rfl)⟩) (pv_rw hK hPc281 hDc281 hfs281 (q := (RX5, TX5, 5)) rfl rfl) rfl rfl hl170.1 rfl (lv_room (Nat.le_of_ble_eq_true rfl)) dL_town_221 ⟨(Nat.le_of_ble_eq_true rfl), (Nat.le_of_ble_eq_true rfl)⟩) hP280 hD280 hS280 hA [] [0] rfl (by decide) (fun r_281 w_281 H282 locs282 hq_281 hP282 hD282 hS282 => ?_)
            clear hP280 hD280 hS280 hPc281 hDc281 hfs281 hI
            obtain ⟨hr_281, hI⟩ := hq_281
            have hr_281 : r_281 = prM mm (nI 0) (k - 1) := hr_281
            subst hr_281
            have hP282 : va_P D vwCl (fl [w_281]) _ := hP282
            have hD282 : va_D A (fl [w_281]) := hD282
            refine lv_icmp_gt (tgt := 268) hx hb dL_town_224 (by decide) (fun c283 => absurd c283 (Int32.not_lt.mpr (pr_src hR (by omega) (by omega) hsr))) (fun c283 => ?_)
            refine lv_aload_n hx hb dL_town_227 rfl (lv_at hl170 5 rfl) ?_
            refine lv_iload hx hb dL_town_228 (lv_at hl170 7 rfl) ?_
            refine lv_bipush (v := nI 7) hx hb dL_town_230 (by decide) ?_
            obtain ⟨fs284, hfs284⟩ := XINV.recv hI
            have hPc284 : va_P D vwCl (fl [w_281]) _ := flP_sub hP282 [0] rfl
            have hDc284 : va_D A (fl [w_281]) := flD_sub hD282 [0] (by decide) rfl
            refine cl_i (br := []) (va_runV (As := [.int (nI k), .int (nI 7)]) (rest := []) ⟨hx, hb, hml, hown, hts⟩ (e_X5_street l D T hI k 7 (by omega) (by omega) _) (mkV hts okX5_street kw_407 kw_408 kw_409 ⟨rfl, rfl, (Nat.le_of_ble_eq_true rfl), (Nat.le_of_ble_eq_true rfl)⟩) (pv_rw hK hPc284 hDc284 hfs284 (q := (RX5, TX5, 5)) rfl rfl) rfl rfl hl170.1 rfl (lv_room (Nat.le_of_ble_eq_true rfl)) dL_town_232 ⟨(Nat.le_of_ble_eq_true rfl), (Nat.le_of_ble_eq_true rfl)⟩) hP282 hD282 hS282 hA [] [0] rfl (by decide) (fun r_284 w_284 H285 locs285 hq_284 hP285 hD285 hS285 => ?_)
            clear hP282 hD282 hS282 hPc284 hDc284 hfs284 hI
            obtain ⟨hr_284, hI⟩ := hq_284
            have hr_284 : r_284 = mm (12 + 6 * k + 5) := hr_284
            subst hr_284
            have hP285 : va_P D vwCl (fl [w_284]) _ := hP285
            have hD285 : va_D A (fl [w_284]) := hD285
            refine tp_i (y := nI a7) (ea7) ?_
            refine lv_aload_n hx hb dL_town_235 rfl (lv_at hl170 5 rfl) ?_
            refine lv_iconst (v := nI 0) hx hb dL_town_236 (by decide) ?_
            obtain ⟨fs286, hfs286⟩ := XINV.recv hI
            have hPc286 : va_P D vwCl (fl [w_284]) _ := flP_sub hP285 [0] rfl
            have hDc286 : va_D A (fl [w_284]) := flD_sub hD285 [0] (by decide) rfl
            refine cl_i (br := []) (va_runV (As := [.int (nI 0)]) (rest := [.int (nI a7)]) ⟨hx, hb, hml, hown, hts⟩ (e_X5_count l D T hI 0 (by omega) _) (mkV hts okX5_count kw_349 kw_350 kw_351 ⟨rfl, rfl, (Nat.le_of_ble_eq_true rfl), (Nat.le_of_ble_eq_true rfl)⟩) (pv_rw hK hPc286 hDc286 hfs286 (q := (RX5, TX5, 5)) rfl rfl) rfl rfl hl170.1 rfl (lv_room (Nat.le_of_ble_eq_true rfl)) dL_town_237 ⟨(Nat.le_of_ble_eq_true rfl), (Nat.le_of_ble_eq_true rfl)⟩) hP285 hD285 hS285 hA [] [0] rfl (by decide) (fun r_286 w_286 H287 locs287 hq_286 hP287 hD287 hS287 => ?_)
            clear hP285 hD285 hS285 hPc286 hDc286 hfs286 hI
            obtain ⟨hr_286, hI⟩ := hq_286
            have hr_286 : r_286 = mm 9 := hr_286
            subst hr_286
            have hP287 : va_P D vwCl (fl [w_286]) _ := hP287
            have hD287 : va_D A (fl [w_286]) := hD287
            refine tp_i (y := nI h) (hR.hours) ?_
            refine n_icmp_gt (tgt := 268) hx hb (by omega) (by omega) dL_town_240 (by decide) (fun c288 => absurd c288 (by omega)) (fun c288 => ?_)
            rcases ls_r mm k 100 0 with hls | ⟨q0, hq0, hls⟩
            · skip
              refine lv_aload_n hx hb dL_town_243 rfl (lv_at hl170 5 rfl) ?_
              refine lv_iload hx hb dL_town_244 (lv_at hl170 7 rfl) ?_
              obtain ⟨fs289, hfs289⟩ := XINV.recv hI
              have hPc289 : va_P D vwCl (fl [w_286]) _ := flP_sub hP287 [0] rfl
              have hDc289 : va_D A (fl [w_286]) := flD_sub hD287 [0] (by decide) rfl
              refine cl_i (br := []) (va_runV (As := [.int (nI k)]) (rest := []) ⟨hx, hb, hml, hown, hts⟩ (e_X5_leastPressure l D T hI k (by omega) _) (mkV hts okX5_leastPressure kw_415 kw_416 kw_417 ⟨rfl, rfl, (Nat.le_of_ble_eq_true rfl), (Nat.le_of_ble_eq_true rfl)⟩) (pv_rw hK hPc289 hDc289 hfs289 (q := (RX5, TX5, 5)) rfl rfl) rfl rfl hl170.1 rfl (lv_room (Nat.le_of_ble_eq_true rfl)) dL_town_246 ⟨(Nat.le_of_ble_eq_true rfl), (Nat.le_of_ble_eq_true rfl)⟩) hP287 hD287 hS287 hA [] [0] rfl (by decide) (fun r_289 w_289 H290 locs290 hq_289 hP290 hD290 hS290 => ?_)
              clear hP287 hD287 hS287 hPc289 hDc289 hfs289 hI
              obtain ⟨hr_289, hI⟩ := hq_289
              have hr_289 : r_289 = lsG mm k 0 100 := hr_289
              subst hr_289
              have hP290 : va_P D vwCl (fl [w_289]) _ := hP290
              have hD290 : va_D A (fl [w_289]) := hD290
              refine tp_i (y := (-1)) (hls) ?_
              refine lv_iconst (v := (-1)) hx hb dL_town_249 (by decide) ?_
              refine lv_icmp_lt (tgt := 268) hx hb dL_town_250 (by decide) (fun c291 => absurd c291 (by decide)) (fun c291 => ?_)
              refine lv_aload_n hx hb dL_town_253 rfl (lv_at hl170 5 rfl) ?_
              refine lv_iload hx hb dL_town_254 (lv_at hl170 7 rfl) ?_
              obtain ⟨fs292, hfs292⟩ := XINV.recv hI
              have hPc292 : va_P D vwCl (fl [w_289]) _ := flP_sub hP290 [0] rfl
              have hDc292 : va_D A (fl [w_289]) := flD_sub hD290 [0] (by decide) rfl
              refine cl_i (br := []) (va_runV (As := [.int (nI k)]) (rest := []) ⟨hx, hb, hml, hown, hts⟩ (e_X5_leastPressure l D T hI k (by omega) _) (mkV hts okX5_leastPressure kw_415 kw_416 kw_417 ⟨rfl, rfl, (Nat.le_of_ble_eq_true rfl), (Nat.le_of_ble_eq_true rfl)⟩) (pv_rw hK hPc292 hDc292 hfs292 (q := (RX5, TX5, 5)) rfl rfl) rfl rfl hl170.1 rfl (lv_room (Nat.le_of_ble_eq_true rfl)) dL_town_256 ⟨(Nat.le_of_ble_eq_true rfl), (Nat.le_of_ble_eq_true rfl)⟩) hP290 hD290 hS290 hA [] [0] rfl (by decide) (fun r_292 w_292 H293 locs293 hq_292 hP293 hD293 hS293 => ?_)
              clear hP290 hD290 hS290 hPc292 hDc292 hfs292 hI
              obtain ⟨hr_292, hI⟩ := hq_292
              have hr_292 : r_292 = lsG mm k 0 100 := hr_292
              subst hr_292
              have hP293 : va_P D vwCl (fl [w_292]) _ := hP293
              have hD293 : va_D A (fl [w_292]) := hD293
              refine tp_i (y := (-1)) (hls) ?_
              refine lv_bipush (v := nI 99) hx hb dL_town_259 (by decide) ?_
              refine lv_icmp_gt (tgt := 268) hx hb dL_town_261 (by decide) (fun c294 => absurd c294 (by decide)) (fun c294 => ?_)
              refine lv_iconst (v := nI 1) hx hb dL_town_264 (by decide) ?_
              refine lv_goto (tgt := 269) hx hb dL_town_265 (by decide) ?_
              refine lv_istore (lv' := [(5, .int (nI 1)), (4, .int (sumM mm 4 (k + 1))), (3, .int (sumM mm 3 (k + 1))), (2, .int (nI (brNM mm (k + 1)))), (1, .int (sumM mm 0 (k + 1))), (7, .int (nI (k - 1))), (0, .ref xa), (6, .int (nI k))]) hx hb dL_town_269 hl170 (by decide) rfl (fun ls295 hl295 => ?_)
              clear hl170
              refine lv_iinc (v := nI (k + 1)) (lv' := [(6, .int (nI (k + 1))), (5, .int (nI 1)), (4, .int (sumM mm 4 (k + 1))), (3, .int (sumM mm 3 (k + 1))), (2, .int (nI (brNM mm (k + 1)))), (1, .int (sumM mm 0 (k + 1))), (7, .int (nI (k - 1))), (0, .ref xa)]) hx hb dL_town_271 hl295 (k := 7) rfl (nI_add k 1) (by decide) rfl (fun ls296 hl296 => ?_)
              clear hl295
              refine lv_goto (tgt := 15) hx hb dL_town_274 (by decide) ?_
              exact ih15 (k + 1) w_292 (by omega) (hI) (by omega) _ _ hP293 hD293 hS293 _ (lv_sub hl296 [7, 5, 4, 3, 2, 1, 0] rfl)
            · skip
              refine lv_aload_n hx hb dL_town_243 rfl (lv_at hl170 5 rfl) ?_
              refine lv_iload hx hb dL_town_244 (lv_at hl170 7 rfl) ?_
              obtain ⟨fs297, hfs297⟩ := XINV.recv hI
              have hPc297 : va_P D vwCl (fl [w_286]) _ := flP_sub hP287 [0] rfl
              have hDc297 : va_D A (fl [w_286]) := flD_sub hD287 [0] (by decide) rfl
              refine cl_i (br := []) (va_runV (As := [.int (nI k)]) (rest := []) ⟨hx, hb, hml, hown, hts⟩ (e_X5_leastPressure l D T hI k (by omega) _) (mkV hts okX5_leastPressure kw_415 kw_416 kw_417 ⟨rfl, rfl, (Nat.le_of_ble_eq_true rfl), (Nat.le_of_ble_eq_true rfl)⟩) (pv_rw hK hPc297 hDc297 hfs297 (q := (RX5, TX5, 5)) rfl rfl) rfl rfl hl170.1 rfl (lv_room (Nat.le_of_ble_eq_true rfl)) dL_town_246 ⟨(Nat.le_of_ble_eq_true rfl), (Nat.le_of_ble_eq_true rfl)⟩) hP287 hD287 hS287 hA [] [0] rfl (by decide) (fun r_297 w_297 H298 locs298 hq_297 hP298 hD298 hS298 => ?_)
              clear hP287 hD287 hS287 hPc297 hDc297 hfs297 hI
              obtain ⟨hr_297, hI⟩ := hq_297
              have hr_297 : r_297 = lsG mm k 0 100 := hr_297
              subst hr_297
              have hP298 : va_P D vwCl (fl [w_297]) _ := hP298
              have hD298 : va_D A (fl [w_297]) := hD298
              refine tp_i (y := nI q0) (hls) ?_
              refine lv_iconst (v := (-1)) hx hb dL_town_249 (by decide) ?_
              refine lv_icmp_lt (tgt := 268) hx hb dL_town_250 (by decide) (fun c299 => absurd c299 (n_m1 (by omega))) (fun c299 => ?_)
              refine lv_aload_n hx hb dL_town_253 rfl (lv_at hl170 5 rfl) ?_
              refine lv_iload hx hb dL_town_254 (lv_at hl170 7 rfl) ?_
              obtain ⟨fs300, hfs300⟩ := XINV.recv hI
              have hPc300 : va_P D vwCl (fl [w_297]) _ := flP_sub hP298 [0] rfl
              have hDc300 : va_D A (fl [w_297]) := flD_sub hD298 [0] (by decide) rfl
              refine cl_i (br := []) (va_runV (As := [.int (nI k)]) (rest := []) ⟨hx, hb, hml, hown, hts⟩ (e_X5_leastPressure l D T hI k (by omega) _) (mkV hts okX5_leastPressure kw_415 kw_416 kw_417 ⟨rfl, rfl, (Nat.le_of_ble_eq_true rfl), (Nat.le_of_ble_eq_true rfl)⟩) (pv_rw hK hPc300 hDc300 hfs300 (q := (RX5, TX5, 5)) rfl rfl) rfl rfl hl170.1 rfl (lv_room (Nat.le_of_ble_eq_true rfl)) dL_town_256 ⟨(Nat.le_of_ble_eq_true rfl), (Nat.le_of_ble_eq_true rfl)⟩) hP298 hD298 hS298 hA [] [0] rfl (by decide) (fun r_300 w_300 H301 locs301 hq_300 hP301 hD301 hS301 => ?_)
              clear hP298 hD298 hS298 hPc300 hDc300 hfs300 hI
              obtain ⟨hr_300, hI⟩ := hq_300
              have hr_300 : r_300 = lsG mm k 0 100 := hr_300
              subst hr_300
              have hP301 : va_P D vwCl (fl [w_300]) _ := hP301
              have hD301 : va_D A (fl [w_300]) := hD301
              refine tp_i (y := nI q0) (hls) ?_
              refine lv_bipush (v := nI 99) hx hb dL_town_259 (by decide) ?_
              refine n_icmp_gt (tgt := 268) hx hb (by omega) (by omega) dL_town_261 (by decide) (fun c302 => absurd c302 (by omega)) (fun c302 => ?_)
              refine lv_iconst (v := nI 1) hx hb dL_town_264 (by decide) ?_
              refine lv_goto (tgt := 269) hx hb dL_town_265 (by decide) ?_
              refine lv_istore (lv' := [(5, .int (nI 1)), (4, .int (sumM mm 4 (k + 1))), (3, .int (sumM mm 3 (k + 1))), (2, .int (nI (brNM mm (k + 1)))), (1, .int (sumM mm 0 (k + 1))), (7, .int (nI (k - 1))), (0, .ref xa), (6, .int (nI k))]) hx hb dL_town_269 hl170 (by decide) rfl (fun ls303 hl303 => ?_)
              clear hl170
              refine lv_iinc (v := nI (k + 1)) (lv' := [(6, .int (nI (k + 1))), (5, .int (nI 1)), (4, .int (sumM mm 4 (k + 1))), (3, .int (sumM mm 3 (k + 1))), (2, .int (nI (brNM mm (k + 1)))), (1, .int (sumM mm 0 (k + 1))), (7, .int (nI (k - 1))), (0, .ref xa)]) hx hb dL_town_271 hl303 (k := 7) rfl (nI_add k 1) (by decide) rfl (fun ls304 hl304 => ?_)
              clear hl303
              refine lv_goto (tgt := 15) hx hb dL_town_274 (by decide) ?_
              exact ih15 (k + 1) w_300 (by omega) (hI) (by omega) _ _ hP301 hD301 hS301 _ (lv_sub hl304 [7, 5, 4, 3, 2, 1, 0] rfl)
        · skip
          refine lv_aload_n hx hb dL_town_102 rfl (lv_at hl170 5 rfl) ?_
          refine lv_iload hx hb dL_town_103 (lv_at hl170 7 rfl) ?_
          refine lv_iconst (v := nI 2) hx hb dL_town_105 (by decide) ?_
          obtain ⟨fs305, hfs305⟩ := XINV.recv hI
          have hPc305 : va_P D vwCl (fl [w_173]) _ := flP_sub hP174 [0] rfl
          have hDc305 : va_D A (fl [w_173]) := flD_sub hD174 [0] (by decide) rfl
          refine cl_i (br := []) (va_runV (As := [.int (nI k), .int (nI 2)]) (rest := []) ⟨hx, hb, hml, hown, hts⟩ (e_X5_street l D T hI k 2 (by omega) (by omega) _) (mkV hts okX5_street kw_407 kw_408 kw_409 ⟨rfl, rfl, (Nat.le_of_ble_eq_true rfl), (Nat.le_of_ble_eq_true rfl)⟩) (pv_rw hK hPc305 hDc305 hfs305 (q := (RX5, TX5, 5)) rfl rfl) rfl rfl hl170.1 rfl (lv_room (Nat.le_of_ble_eq_true rfl)) dL_town_106 ⟨(Nat.le_of_ble_eq_true rfl), (Nat.le_of_ble_eq_true rfl)⟩) hP174 hD174 hS174 hA [] [0] rfl (by decide) (fun r_305 w_305 H306 locs306 hq_305 hP306 hD306 hS306 => ?_)
          clear hP174 hD174 hS174 hPc305 hDc305 hfs305 hI
          obtain ⟨hr_305, hI⟩ := hq_305
          have hr_305 : r_305 = bI (brM mm k) := hr_305
          subst hr_305
          have hP306 : va_P D vwCl (fl [w_305]) _ := hP306
          have hD306 : va_D A (fl [w_305]) := hD306
          refine tp_i (y := nI 1) (by rw [hbr]; rfl) ?_
          refine lv_iconst (v := nI 1) hx hb dL_town_109 (by decide) ?_
          refine n_icmp_ne (tgt := 117) hx hb (by omega) (by omega) dL_town_110 (by decide) (fun c307 => absurd c307 (by decide)) (fun c307 => ?_)
          refine lv_iconst (v := nI 1) hx hb dL_town_113 (by decide) ?_
          refine lv_goto (tgt := 118) hx hb dL_town_114 (by decide) ?_
          refine lv_aload_n hx hb dL_town_118 rfl (lv_at hl170 5 rfl) ?_
          refine lv_iload hx hb dL_town_119 (lv_at hl170 7 rfl) ?_
          refine lv_iconst (v := nI 0) hx hb dL_town_121 (by decide) ?_
          obtain ⟨fs308, hfs308⟩ := XINV.recv hI
          have hPc308 : va_P D vwCl (fl [w_305]) _ := flP_sub hP306 [0] rfl
          have hDc308 : va_D A (fl [w_305]) := flD_sub hD306 [0] (by decide) rfl
          refine cl_i (br := []) (va_runV (As := [.int (nI k), .int (nI 0)]) (rest := [.int (nI 1)]) ⟨hx, hb, hml, hown, hts⟩ (e_X5_street l D T hI k 0 (by omega) (by omega) _) (mkV hts okX5_street kw_407 kw_408 kw_409 ⟨rfl, rfl, (Nat.le_of_ble_eq_true rfl), (Nat.le_of_ble_eq_true rfl)⟩) (pv_rw hK hPc308 hDc308 hfs308 (q := (RX5, TX5, 5)) rfl rfl) rfl rfl hl170.1 rfl (lv_room (Nat.le_of_ble_eq_true rfl)) dL_town_122 ⟨(Nat.le_of_ble_eq_true rfl), (Nat.le_of_ble_eq_true rfl)⟩) hP306 hD306 hS306 hA [] [0] rfl (by decide) (fun r_308 w_308 H309 locs309 hq_308 hP309 hD309 hS309 => ?_)
          clear hP306 hD306 hS306 hPc308 hDc308 hfs308 hI
          obtain ⟨hr_308, hI⟩ := hq_308
          have hr_308 : r_308 = mm (12 + 6 * k) := hr_308
          subst hr_308
          have hP309 : va_P D vwCl (fl [w_308]) _ := hP309
          have hD309 : va_D A (fl [w_308]) := hD309
          refine tp_i (y := nI d) (ed) ?_
          refine lv_aload_n hx hb dL_town_125 rfl (lv_at hl170 5 rfl) ?_
          refine lv_iconst (v := nI 0) hx hb dL_town_126 (by decide) ?_
          obtain ⟨fs310, hfs310⟩ := XINV.recv hI
          have hPc310 : va_P D vwCl (fl [w_308]) _ := flP_sub hP309 [0] rfl
          have hDc310 : va_D A (fl [w_308]) := flD_sub hD309 [0] (by decide) rfl
          refine cl_i (br := []) (va_runV (As := [.int (nI 0)]) (rest := [.int (nI d), .int (nI 1)]) ⟨hx, hb, hml, hown, hts⟩ (e_X5_setting l D T hI 0 (by omega) _) (mkV hts okX5_setting kw_363 kw_364 kw_365 ⟨rfl, rfl, (Nat.le_of_ble_eq_true rfl), (Nat.le_of_ble_eq_true rfl)⟩) (pv_rw hK hPc310 hDc310 hfs310 (q := (RX5, TX5, 5)) rfl rfl) rfl rfl hl170.1 rfl (lv_room (Nat.le_of_ble_eq_true rfl)) dL_town_127 ⟨(Nat.le_of_ble_eq_true rfl), (Nat.le_of_ble_eq_true rfl)⟩) hP309 hD309 hS309 hA [] [0] rfl (by decide) (fun r_310 w_310 H311 locs311 hq_310 hP311 hD311 hS311 => ?_)
          clear hP309 hD309 hS309 hPc310 hDc310 hfs310 hI
          obtain ⟨hr_310, hI⟩ := hq_310
          have hr_310 : r_310 = mm 0 := hr_310
          subst hr_310
          have hP311 : va_P D vwCl (fl [w_310]) _ := hP311
          have hD311 : va_D A (fl [w_310]) := hD311
          refine tp_i (y := nI a0) (ea0) ?_
          refine n_icmp_le (tgt := 137) hx hb (by omega) (by omega) dL_town_130 (by decide) (fun c312 => absurd c312 (fun q => brm_t hbr ed ea0 (by omega) q)) (fun c312 => ?_)
          refine lv_iconst (v := nI 1) hx hb dL_town_133 (by decide) ?_
          refine lv_goto (tgt := 138) hx hb dL_town_134 (by decide) ?_
          refine n_icmp_ne (tgt := 268) hx hb (by omega) (by omega) dL_town_138 (by decide) (fun c313 => absurd c313 (by decide)) (fun c313 => ?_)
          refine lv_aload_n hx hb dL_town_141 rfl (lv_at hl170 5 rfl) ?_
          refine lv_iload hx hb dL_town_142 (lv_at hl170 7 rfl) ?_
          refine lv_iconst (v := nI 3) hx hb dL_town_144 (by decide) ?_
          obtain ⟨fs314, hfs314⟩ := XINV.recv hI
          have hPc314 : va_P D vwCl (fl [w_310]) _ := flP_sub hP311 [0] rfl
          have hDc314 : va_D A (fl [w_310]) := flD_sub hD311 [0] (by decide) rfl
          refine cl_i (br := []) (va_runV (As := [.int (nI k), .int (nI 3)]) (rest := []) ⟨hx, hb, hml, hown, hts⟩ (e_X5_street l D T hI k 3 (by omega) (by omega) _) (mkV hts okX5_street kw_407 kw_408 kw_409 ⟨rfl, rfl, (Nat.le_of_ble_eq_true rfl), (Nat.le_of_ble_eq_true rfl)⟩) (pv_rw hK hPc314 hDc314 hfs314 (q := (RX5, TX5, 5)) rfl rfl) rfl rfl hl170.1 rfl (lv_room (Nat.le_of_ble_eq_true rfl)) dL_town_145 ⟨(Nat.le_of_ble_eq_true rfl), (Nat.le_of_ble_eq_true rfl)⟩) hP311 hD311 hS311 hA [] [0] rfl (by decide) (fun r_314 w_314 H315 locs315 hq_314 hP315 hD315 hS315 => ?_)
          clear hP311 hD311 hS311 hPc314 hDc314 hfs314 hI
          obtain ⟨hr_314, hI⟩ := hq_314
          have hr_314 : r_314 = prM mm (nI 0) k := hr_314
          subst hr_314
          have hP315 : va_P D vwCl (fl [w_314]) _ := hP315
          have hD315 : va_D A (fl [w_314]) := hD315
          refine tp_i (y := nI p0) (ep0) ?_
          refine n_if_lt hx hb (by omega) dL_town_148 268 (by decide) ?_
          rcases src4 mm k with ⟨hsr, hk0, h4⟩ | ⟨hsr, hk0, h4⟩ | ⟨hsr, hk0, h4⟩ | ⟨hsr, hk0, h4⟩
          · skip
            rw [hsr] at hl170
            refine lv_iload hx hb dL_town_151 (lv_at hl170 4 rfl) ?_
            refine lv_iload hx hb dL_town_153 (lv_at hl170 7 rfl) ?_
            refine lv_iconst (v := nI 1) hx hb dL_town_155 (by decide) ?_
            refine lv_isub hx hb dL_town_156 ?_
            refine tp_i (y := nI (k - 1)) (pk_sub (by omega)) ?_
            refine n_icmp_ne (tgt := 165) hx hb (by omega) (by omega) dL_town_157 (by decide) (fun c316 => absurd c316 (by omega)) (fun c316 => ?_)
            refine lv_iload hx hb dL_town_160 (lv_at hl170 7 rfl) ?_
            refine n_if_gt (tgt := 178) hx hb (by omega) dL_town_162 (by decide) (fun c317 => ?_) (fun c317 => absurd (by omega) c317)
            refine lv_iload hx hb dL_town_178 (lv_at hl170 7 rfl) ?_
            refine lv_iconst (v := nI 4) hx hb dL_town_180 (by decide) ?_
            refine lv_irem hx hb dL_town_181 (by decide) ?_
            refine tp_i (y := nI (k % 4)) (pk_rem (by omega) (by omega) (by omega)) ?_
            refine n_if_eq (tgt := 204) hx hb (by omega) dL_town_182 (by decide) (fun c318 => absurd c318 (by omega)) (fun c318 => ?_)
            refine lv_aload_n hx hb dL_town_185 rfl (lv_at hl170 5 rfl) ?_
            refine lv_iload hx hb dL_town_186 (lv_at hl170 7 rfl) ?_
            refine lv_iconst (v := nI 3) hx hb dL_town_188 (by decide) ?_
            obtain ⟨fs319, hfs319⟩ := XINV.recv hI
            have hPc319 : va_P D vwCl (fl [w_314]) _ := flP_sub hP315 [0] rfl
            have hDc319 : va_D A (fl [w_314]) := flD_sub hD315 [0] (by decide) rfl
            refine cl_i (br := []) (va_runV (As := [.int (nI k), .int (nI 3)]) (rest := []) ⟨hx, hb, hml, hown, hts⟩ (e_X5_street l D T hI k 3 (by omega) (by omega) _) (mkV hts okX5_street kw_407 kw_408 kw_409 ⟨rfl, rfl, (Nat.le_of_ble_eq_true rfl), (Nat.le_of_ble_eq_true rfl)⟩) (pv_rw hK hPc319 hDc319 hfs319 (q := (RX5, TX5, 5)) rfl rfl) rfl rfl hl170.1 rfl (lv_room (Nat.le_of_ble_eq_true rfl)) dL_town_189 ⟨(Nat.le_of_ble_eq_true rfl), (Nat.le_of_ble_eq_true rfl)⟩) hP315 hD315 hS315 hA [] [0] rfl (by decide) (fun r_319 w_319 H320 locs320 hq_319 hP320 hD320 hS320 => ?_)
            clear hP315 hD315 hS315 hPc319 hDc319 hfs319 hI
            obtain ⟨hr_319, hI⟩ := hq_319
            have hr_319 : r_319 = prM mm (nI 0) k := hr_319
            subst hr_319
            have hP320 : va_P D vwCl (fl [w_319]) _ := hP320
            have hD320 : va_D A (fl [w_319]) := hD320
            refine lv_aload_n hx hb dL_town_192 rfl (lv_at hl170 5 rfl) ?_
            refine lv_iload hx hb dL_town_193 (lv_at hl170 7 rfl) ?_
            refine lv_iconst (v := nI 1) hx hb dL_town_195 (by decide) ?_
            refine lv_isub hx hb dL_town_196 ?_
            refine tp_i (y := nI (k - 1)) (pk_sub (by omega)) ?_
            refine lv_iconst (v := nI 3) hx hb dL_town_197 (by decide) ?_
            obtain ⟨fs321, hfs321⟩ := XINV.recv hI
            have hPc321 : va_P D vwCl (fl [w_319]) _ := flP_sub hP320 [0] rfl
            have hDc321 : va_D A (fl [w_319]) := flD_sub hD320 [0] (by decide) rfl
            refine cl_i (br := []) (va_runV (As := [.int (nI (k - 1)), .int (nI 3)]) (rest := [.int (prM mm (nI 0) k)]) ⟨hx, hb, hml, hown, hts⟩ (e_X5_street l D T hI (k - 1) 3 (by omega) (by omega) _) (mkV hts okX5_street kw_407 kw_408 kw_409 ⟨rfl, rfl, (Nat.le_of_ble_eq_true rfl), (Nat.le_of_ble_eq_true rfl)⟩) (pv_rw hK hPc321 hDc321 hfs321 (q := (RX5, TX5, 5)) rfl rfl) rfl rfl hl170.1 rfl (lv_room (Nat.le_of_ble_eq_true rfl)) dL_town_198 ⟨(Nat.le_of_ble_eq_true rfl), (Nat.le_of_ble_eq_true rfl)⟩) hP320 hD320 hS320 hA [] [0] rfl (by decide) (fun r_321 w_321 H322 locs322 hq_321 hP322 hD322 hS322 => ?_)
            clear hP320 hD320 hS320 hPc321 hDc321 hfs321 hI
            obtain ⟨hr_321, hI⟩ := hq_321
            have hr_321 : r_321 = prM mm (nI 0) (k - 1) := hr_321
            subst hr_321
            have hP322 : va_P D vwCl (fl [w_321]) _ := hP322
            have hD322 : va_D A (fl [w_321]) := hD322
            refine lv_icmp_gt (tgt := 268) hx hb dL_town_201 (by decide) (fun c323 => absurd c323 (Int32.not_lt.mpr (pr_down hR (by omega) h4))) (fun c323 => ?_)
            refine lv_iload hx hb dL_town_204 (lv_at hl170 4 rfl) ?_
            refine lv_iconst (v := (-1)) hx hb dL_town_206 (by decide) ?_
            refine lv_icmp_eq (tgt := 227) hx hb dL_town_207 (by decide) (fun c324 => absurd c324 (nI_nm1 (by omega))) (fun c324 => ?_)
            refine lv_aload_n hx hb dL_town_210 rfl (lv_at hl170 5 rfl) ?_
            refine lv_iload hx hb dL_town_211 (lv_at hl170 7 rfl) ?_
            refine lv_iconst (v := nI 3) hx hb dL_town_213 (by decide) ?_
            obtain ⟨fs325, hfs325⟩ := XINV.recv hI
            have hPc325 : va_P D vwCl (fl [w_321]) _ := flP_sub hP322 [0] rfl
            have hDc325 : va_D A (fl [w_321]) := flD_sub hD322 [0] (by decide) rfl
            refine cl_i (br := []) (va_runV (As := [.int (nI k), .int (nI 3)]) (rest := []) ⟨hx, hb, hml, hown, hts⟩ (e_X5_street l D T hI k 3 (by omega) (by omega) _) (mkV hts okX5_street kw_407 kw_408 kw_409 ⟨rfl, rfl, (Nat.le_of_ble_eq_true rfl), (Nat.le_of_ble_eq_true rfl)⟩) (pv_rw hK hPc325 hDc325 hfs325 (q := (RX5, TX5, 5)) rfl rfl) rfl rfl hl170.1 rfl (lv_room (Nat.le_of_ble_eq_true rfl)) dL_town_214 ⟨(Nat.le_of_ble_eq_true rfl), (Nat.le_of_ble_eq_true rfl)⟩) hP322 hD322 hS322 hA [] [0] rfl (by decide) (fun r_325 w_325 H326 locs326 hq_325 hP326 hD326 hS326 => ?_)
            clear hP322 hD322 hS322 hPc325 hDc325 hfs325 hI
            obtain ⟨hr_325, hI⟩ := hq_325
            have hr_325 : r_325 = prM mm (nI 0) k := hr_325
            subst hr_325
            have hP326 : va_P D vwCl (fl [w_325]) _ := hP326
            have hD326 : va_D A (fl [w_325]) := hD326
            refine lv_aload_n hx hb dL_town_217 rfl (lv_at hl170 5 rfl) ?_
            refine lv_iload hx hb dL_town_218 (lv_at hl170 4 rfl) ?_
            refine lv_iconst (v := nI 3) hx hb dL_town_220 (by decide) ?_
            obtain ⟨fs327, hfs327⟩ := XINV.recv hI
            have hPc327 : va_P D vwCl (fl [w_325]) _ := flP_sub hP326 [0] rfl
            have hDc327 : va_D A (fl [w_325]) := flD_sub hD326 [0] (by decide) rfl
            refine cl_i (br := []) (va_runV (As := [.int (nI (k - 1)), .int (nI 3)]) (rest := [.int (prM mm (nI 0) k)]) ⟨hx, hb, hml, hown, hts⟩ (e_X5_street l D T hI (k - 1) 3 (by omega) (by omega) _) (mkV hts okX5_street kw_407 kw_408 kw_409 ⟨rfl, rfl, (Nat.le_of_ble_eq_true rfl), (Nat.le_of_ble_eq_true rfl)⟩) (pv_rw hK hPc327 hDc327 hfs327 (q := (RX5, TX5, 5)) rfl rfl) rfl rfl hl170.1 rfl (lv_room (Nat.le_of_ble_eq_true rfl)) dL_town_221 ⟨(Nat.le_of_ble_eq_true rfl), (Nat.le_of_ble_eq_true rfl)⟩) hP326 hD326 hS326 hA [] [0] rfl (by decide) (fun r_327 w_327 H328 locs328 hq_327 hP328 hD328 hS328 => ?_)
            clear hP326 hD326 hS326 hPc327 hDc327 hfs327 hI
            obtain ⟨hr_327, hI⟩ := hq_327
            have hr_327 : r_327 = prM mm (nI 0) (k - 1) := hr_327
            subst hr_327
            have hP328 : va_P D vwCl (fl [w_327]) _ := hP328
            have hD328 : va_D A (fl [w_327]) := hD328
            refine lv_icmp_gt (tgt := 268) hx hb dL_town_224 (by decide) (fun c329 => absurd c329 (Int32.not_lt.mpr (pr_src hR (by omega) (by omega) hsr))) (fun c329 => ?_)
            refine lv_aload_n hx hb dL_town_227 rfl (lv_at hl170 5 rfl) ?_
            refine lv_iload hx hb dL_town_228 (lv_at hl170 7 rfl) ?_
            refine lv_bipush (v := nI 7) hx hb dL_town_230 (by decide) ?_
            obtain ⟨fs330, hfs330⟩ := XINV.recv hI
            have hPc330 : va_P D vwCl (fl [w_327]) _ := flP_sub hP328 [0] rfl
            have hDc330 : va_D A (fl [w_327]) := flD_sub hD328 [0] (by decide) rfl
            refine cl_i (br := []) (va_runV (As := [.int (nI k), .int (nI 7)]) (rest := []) ⟨hx, hb, hml, hown, hts⟩ (e_X5_street l D T hI k 7 (by omega) (by omega) _) (mkV hts okX5_street kw_407 kw_408 kw_409 ⟨rfl, rfl, (Nat.le_of_ble_eq_true rfl), (Nat.le_of_ble_eq_true rfl)⟩) (pv_rw hK hPc330 hDc330 hfs330 (q := (RX5, TX5, 5)) rfl rfl) rfl rfl hl170.1 rfl (lv_room (Nat.le_of_ble_eq_true rfl)) dL_town_232 ⟨(Nat.le_of_ble_eq_true rfl), (Nat.le_of_ble_eq_true rfl)⟩) hP328 hD328 hS328 hA [] [0] rfl (by decide) (fun r_330 w_330 H331 locs331 hq_330 hP331 hD331 hS331 => ?_)
            clear hP328 hD328 hS328 hPc330 hDc330 hfs330 hI
            obtain ⟨hr_330, hI⟩ := hq_330
            have hr_330 : r_330 = mm (12 + 6 * k + 5) := hr_330
            subst hr_330
            have hP331 : va_P D vwCl (fl [w_330]) _ := hP331
            have hD331 : va_D A (fl [w_330]) := hD331
            refine tp_i (y := nI a7) (ea7) ?_
            refine lv_aload_n hx hb dL_town_235 rfl (lv_at hl170 5 rfl) ?_
            refine lv_iconst (v := nI 0) hx hb dL_town_236 (by decide) ?_
            obtain ⟨fs332, hfs332⟩ := XINV.recv hI
            have hPc332 : va_P D vwCl (fl [w_330]) _ := flP_sub hP331 [0] rfl
            have hDc332 : va_D A (fl [w_330]) := flD_sub hD331 [0] (by decide) rfl
            refine cl_i (br := []) (va_runV (As := [.int (nI 0)]) (rest := [.int (nI a7)]) ⟨hx, hb, hml, hown, hts⟩ (e_X5_count l D T hI 0 (by omega) _) (mkV hts okX5_count kw_349 kw_350 kw_351 ⟨rfl, rfl, (Nat.le_of_ble_eq_true rfl), (Nat.le_of_ble_eq_true rfl)⟩) (pv_rw hK hPc332 hDc332 hfs332 (q := (RX5, TX5, 5)) rfl rfl) rfl rfl hl170.1 rfl (lv_room (Nat.le_of_ble_eq_true rfl)) dL_town_237 ⟨(Nat.le_of_ble_eq_true rfl), (Nat.le_of_ble_eq_true rfl)⟩) hP331 hD331 hS331 hA [] [0] rfl (by decide) (fun r_332 w_332 H333 locs333 hq_332 hP333 hD333 hS333 => ?_)
            clear hP331 hD331 hS331 hPc332 hDc332 hfs332 hI
            obtain ⟨hr_332, hI⟩ := hq_332
            have hr_332 : r_332 = mm 9 := hr_332
            subst hr_332
            have hP333 : va_P D vwCl (fl [w_332]) _ := hP333
            have hD333 : va_D A (fl [w_332]) := hD333
            refine tp_i (y := nI h) (hR.hours) ?_
            refine n_icmp_gt (tgt := 268) hx hb (by omega) (by omega) dL_town_240 (by decide) (fun c334 => absurd c334 (by omega)) (fun c334 => ?_)
            rcases ls_r mm k 100 0 with hls | ⟨q0, hq0, hls⟩
            · skip
              refine lv_aload_n hx hb dL_town_243 rfl (lv_at hl170 5 rfl) ?_
              refine lv_iload hx hb dL_town_244 (lv_at hl170 7 rfl) ?_
              obtain ⟨fs335, hfs335⟩ := XINV.recv hI
              have hPc335 : va_P D vwCl (fl [w_332]) _ := flP_sub hP333 [0] rfl
              have hDc335 : va_D A (fl [w_332]) := flD_sub hD333 [0] (by decide) rfl
              refine cl_i (br := []) (va_runV (As := [.int (nI k)]) (rest := []) ⟨hx, hb, hml, hown, hts⟩ (e_X5_leastPressure l D T hI k (by omega) _) (mkV hts okX5_leastPressure kw_415 kw_416 kw_417 ⟨rfl, rfl, (Nat.le_of_ble_eq_true rfl), (Nat.le_of_ble_eq_true rfl)⟩) (pv_rw hK hPc335 hDc335 hfs335 (q := (RX5, TX5, 5)) rfl rfl) rfl rfl hl170.1 rfl (lv_room (Nat.le_of_ble_eq_true rfl)) dL_town_246 ⟨(Nat.le_of_ble_eq_true rfl), (Nat.le_of_ble_eq_true rfl)⟩) hP333 hD333 hS333 hA [] [0] rfl (by decide) (fun r_335 w_335 H336 locs336 hq_335 hP336 hD336 hS336 => ?_)
              clear hP333 hD333 hS333 hPc335 hDc335 hfs335 hI
              obtain ⟨hr_335, hI⟩ := hq_335
              have hr_335 : r_335 = lsG mm k 0 100 := hr_335
              subst hr_335
              have hP336 : va_P D vwCl (fl [w_335]) _ := hP336
              have hD336 : va_D A (fl [w_335]) := hD336
              refine tp_i (y := (-1)) (hls) ?_
              refine lv_iconst (v := (-1)) hx hb dL_town_249 (by decide) ?_
              refine lv_icmp_lt (tgt := 268) hx hb dL_town_250 (by decide) (fun c337 => absurd c337 (by decide)) (fun c337 => ?_)
              refine lv_aload_n hx hb dL_town_253 rfl (lv_at hl170 5 rfl) ?_
              refine lv_iload hx hb dL_town_254 (lv_at hl170 7 rfl) ?_
              obtain ⟨fs338, hfs338⟩ := XINV.recv hI
              have hPc338 : va_P D vwCl (fl [w_335]) _ := flP_sub hP336 [0] rfl
              have hDc338 : va_D A (fl [w_335]) := flD_sub hD336 [0] (by decide) rfl
              refine cl_i (br := []) (va_runV (As := [.int (nI k)]) (rest := []) ⟨hx, hb, hml, hown, hts⟩ (e_X5_leastPressure l D T hI k (by omega) _) (mkV hts okX5_leastPressure kw_415 kw_416 kw_417 ⟨rfl, rfl, (Nat.le_of_ble_eq_true rfl), (Nat.le_of_ble_eq_true rfl)⟩) (pv_rw hK hPc338 hDc338 hfs338 (q := (RX5, TX5, 5)) rfl rfl) rfl rfl hl170.1 rfl (lv_room (Nat.le_of_ble_eq_true rfl)) dL_town_256 ⟨(Nat.le_of_ble_eq_true rfl), (Nat.le_of_ble_eq_true rfl)⟩) hP336 hD336 hS336 hA [] [0] rfl (by decide) (fun r_338 w_338 H339 locs339 hq_338 hP339 hD339 hS339 => ?_)
              clear hP336 hD336 hS336 hPc338 hDc338 hfs338 hI
              obtain ⟨hr_338, hI⟩ := hq_338
              have hr_338 : r_338 = lsG mm k 0 100 := hr_338
              subst hr_338
              have hP339 : va_P D vwCl (fl [w_338]) _ := hP339
              have hD339 : va_D A (fl [w_338]) := hD339
              refine tp_i (y := (-1)) (hls) ?_
              refine lv_bipush (v := nI 99) hx hb dL_town_259 (by decide) ?_
              refine lv_icmp_gt (tgt := 268) hx hb dL_town_261 (by decide) (fun c340 => absurd c340 (by decide)) (fun c340 => ?_)
              refine lv_iconst (v := nI 1) hx hb dL_town_264 (by decide) ?_
              refine lv_goto (tgt := 269) hx hb dL_town_265 (by decide) ?_
              refine lv_istore (lv' := [(5, .int (nI 1)), (4, .int (sumM mm 4 (k + 1))), (3, .int (sumM mm 3 (k + 1))), (2, .int (nI (brNM mm (k + 1)))), (1, .int (sumM mm 0 (k + 1))), (7, .int (nI (k - 1))), (0, .ref xa), (6, .int (nI k))]) hx hb dL_town_269 hl170 (by decide) rfl (fun ls341 hl341 => ?_)
              clear hl170
              refine lv_iinc (v := nI (k + 1)) (lv' := [(6, .int (nI (k + 1))), (5, .int (nI 1)), (4, .int (sumM mm 4 (k + 1))), (3, .int (sumM mm 3 (k + 1))), (2, .int (nI (brNM mm (k + 1)))), (1, .int (sumM mm 0 (k + 1))), (7, .int (nI (k - 1))), (0, .ref xa)]) hx hb dL_town_271 hl341 (k := 7) rfl (nI_add k 1) (by decide) rfl (fun ls342 hl342 => ?_)
              clear hl341
              refine lv_goto (tgt := 15) hx hb dL_town_274 (by decide) ?_
              exact ih15 (k + 1) w_338 (by omega) (hI) (by omega) _ _ hP339 hD339 hS339 _ (lv_sub hl342 [7, 5, 4, 3, 2, 1, 0] rfl)
            · skip
              refine lv_aload_n hx hb dL_town_243 rfl (lv_at hl170 5 rfl) ?_
              refine lv_iload hx hb dL_town_244 (lv_at hl170 7 rfl) ?_
              obtain ⟨fs343, hfs343⟩ := XINV.recv hI
              have hPc343 : va_P D vwCl (fl [w_332]) _ := flP_sub hP333 [0] rfl
              have hDc343 : va_D A (fl [w_332]) := flD_sub hD333 [0] (by decide) rfl
              refine cl_i (br := []) (va_runV (As := [.int (nI k)]) (rest := []) ⟨hx, hb, hml, hown, hts⟩ (e_X5_leastPressure l D T hI k (by omega) _) (mkV hts okX5_leastPressure kw_415 kw_416 kw_417 ⟨rfl, rfl, (Nat.le_of_ble_eq_true rfl), (Nat.le_of_ble_eq_true rfl)⟩) (pv_rw hK hPc343 hDc343 hfs343 (q := (RX5, TX5, 5)) rfl rfl) rfl rfl hl170.1 rfl (lv_room (Nat.le_of_ble_eq_true rfl)) dL_town_246 ⟨(Nat.le_of_ble_eq_true rfl), (Nat.le_of_ble_eq_true rfl)⟩) hP333 hD333 hS333 hA [] [0] rfl (by decide) (fun r_343 w_343 H344 locs344 hq_343 hP344 hD344 hS344 => ?_)
              clear hP333 hD333 hS333 hPc343 hDc343 hfs343 hI
              obtain ⟨hr_343, hI⟩ := hq_343
              have hr_343 : r_343 = lsG mm k 0 100 := hr_343
              subst hr_343
              have hP344 : va_P D vwCl (fl [w_343]) _ := hP344
              have hD344 : va_D A (fl [w_343]) := hD344
              refine tp_i (y := nI q0) (hls) ?_
              refine lv_iconst (v := (-1)) hx hb dL_town_249 (by decide) ?_
              refine lv_icmp_lt (tgt := 268) hx hb dL_town_250 (by decide) (fun c345 => absurd c345 (n_m1 (by omega))) (fun c345 => ?_)
              refine lv_aload_n hx hb dL_town_253 rfl (lv_at hl170 5 rfl) ?_
              refine lv_iload hx hb dL_town_254 (lv_at hl170 7 rfl) ?_
              obtain ⟨fs346, hfs346⟩ := XINV.recv hI
              have hPc346 : va_P D vwCl (fl [w_343]) _ := flP_sub hP344 [0] rfl
              have hDc346 : va_D A (fl [w_343]) := flD_sub hD344 [0] (by decide) rfl
              refine cl_i (br := []) (va_runV (As := [.int (nI k)]) (rest := []) ⟨hx, hb, hml, hown, hts⟩ (e_X5_leastPressure l D T hI k (by omega) _) (mkV hts okX5_leastPressure kw_415 kw_416 kw_417 ⟨rfl, rfl, (Nat.le_of_ble_eq_true rfl), (Nat.le_of_ble_eq_true rfl)⟩) (pv_rw hK hPc346 hDc346 hfs346 (q := (RX5, TX5, 5)) rfl rfl) rfl rfl hl170.1 rfl (lv_room (Nat.le_of_ble_eq_true rfl)) dL_town_256 ⟨(Nat.le_of_ble_eq_true rfl), (Nat.le_of_ble_eq_true rfl)⟩) hP344 hD344 hS344 hA [] [0] rfl (by decide) (fun r_346 w_346 H347 locs347 hq_346 hP347 hD347 hS347 => ?_)
              clear hP344 hD344 hS344 hPc346 hDc346 hfs346 hI
              obtain ⟨hr_346, hI⟩ := hq_346
              have hr_346 : r_346 = lsG mm k 0 100 := hr_346
              subst hr_346
              have hP347 : va_P D vwCl (fl [w_346]) _ := hP347
              have hD347 : va_D A (fl [w_346]) := hD347
              refine tp_i (y := nI q0) (hls) ?_
              refine lv_bipush (v := nI 99) hx hb dL_town_259 (by decide) ?_
              refine n_icmp_gt (tgt := 268) hx hb (by omega) (by omega) dL_town_261 (by decide) (fun c348 => absurd c348 (by omega)) (fun c348 => ?_)
              refine lv_iconst (v := nI 1) hx hb dL_town_264 (by decide) ?_
              refine lv_goto (tgt := 269) hx hb dL_town_265 (by decide) ?_
              refine lv_istore (lv' := [(5, .int (nI 1)), (4, .int (sumM mm 4 (k + 1))), (3, .int (sumM mm 3 (k + 1))), (2, .int (nI (brNM mm (k + 1)))), (1, .int (sumM mm 0 (k + 1))), (7, .int (nI (k - 1))), (0, .ref xa), (6, .int (nI k))]) hx hb dL_town_269 hl170 (by decide) rfl (fun ls349 hl349 => ?_)
              clear hl170
              refine lv_iinc (v := nI (k + 1)) (lv' := [(6, .int (nI (k + 1))), (5, .int (nI 1)), (4, .int (sumM mm 4 (k + 1))), (3, .int (sumM mm 3 (k + 1))), (2, .int (nI (brNM mm (k + 1)))), (1, .int (sumM mm 0 (k + 1))), (7, .int (nI (k - 1))), (0, .ref xa)]) hx hb dL_town_271 hl349 (k := 7) rfl (nI_add k 1) (by decide) rfl (fun ls350 hl350 => ?_)
              clear hl349
              refine lv_goto (tgt := 15) hx hb dL_town_274 (by decide) ?_
              exact ih15 (k + 1) w_346 (by omega) (hI) (by omega) _ _ hP347 hD347 hS347 _ (lv_sub hl350 [7, 5, 4, 3, 2, 1, 0] rfl)
          · skip
            rw [hsr] at hl170
            refine lv_iload hx hb dL_town_151 (lv_at hl170 4 rfl) ?_
            refine lv_iload hx hb dL_town_153 (lv_at hl170 7 rfl) ?_
            refine lv_iconst (v := nI 1) hx hb dL_town_155 (by decide) ?_
            refine lv_isub hx hb dL_town_156 ?_
            refine lv_icmp_ne (tgt := 165) hx hb dL_town_157 (by decide) (fun c351 => absurd c351 (fun q => q (by rw [hk0]; decide))) (fun c351 => ?_)
            refine lv_iload hx hb dL_town_160 (lv_at hl170 7 rfl) ?_
            refine n_if_gt (tgt := 178) hx hb (by omega) dL_town_162 (by decide) (fun c352 => absurd c352 (by omega)) (fun c352 => ?_)
            refine lv_iload hx hb dL_town_165 (lv_at hl170 4 rfl) ?_
            refine lv_iconst (v := (-1)) hx hb dL_town_167 (by decide) ?_
            refine lv_icmp_ne (tgt := 268) hx hb dL_town_168 (by decide) (fun c353 => absurd c353 (fun q => q rfl)) (fun c353 => ?_)
            refine lv_iload hx hb dL_town_171 (lv_at hl170 7 rfl) ?_
            refine lv_iconst (v := nI 4) hx hb dL_town_173 (by decide) ?_
            refine lv_irem hx hb dL_town_174 (by decide) ?_
            refine tp_i (y := nI (k % 4)) (pk_rem (by omega) (by omega) (by omega)) ?_
            refine n_if_ne (tgt := 268) hx hb (by omega) dL_town_175 (by decide) (fun c354 => absurd c354 (by omega)) (fun c354 => ?_)
            refine lv_iload hx hb dL_town_178 (lv_at hl170 7 rfl) ?_
            refine lv_iconst (v := nI 4) hx hb dL_town_180 (by decide) ?_
            refine lv_irem hx hb dL_town_181 (by decide) ?_
            refine tp_i (y := nI (k % 4)) (pk_rem (by omega) (by omega) (by omega)) ?_
            refine n_if_eq (tgt := 204) hx hb (by omega) dL_town_182 (by decide) (fun c355 => ?_) (fun c355 => absurd (by omega) c355)
            refine lv_iload hx hb dL_town_204 (lv_at hl170 4 rfl) ?_
            refine lv_iconst (v := (-1)) hx hb dL_town_206 (by decide) ?_
            refine lv_icmp_eq (tgt := 227) hx hb dL_town_207 (by decide) (fun c356 => ?_) (fun c356 => absurd (rfl) c356)
            refine lv_aload_n hx hb dL_town_227 rfl (lv_at hl170 5 rfl) ?_
            refine lv_iload hx hb dL_town_228 (lv_at hl170 7 rfl) ?_
            refine lv_bipush (v := nI 7) hx hb dL_town_230 (by decide) ?_
            obtain ⟨fs357, hfs357⟩ := XINV.recv hI
            have hPc357 : va_P D vwCl (fl [w_314]) _ := flP_sub hP315 [0] rfl
            have hDc357 : va_D A (fl [w_314]) := flD_sub hD315 [0] (by decide) rfl
            refine cl_i (br := []) (va_runV (As := [.int (nI k), .int (nI 7)]) (rest := []) ⟨hx, hb, hml, hown, hts⟩ (e_X5_street l D T hI k 7 (by omega) (by omega) _) (mkV hts okX5_street kw_407 kw_408 kw_409 ⟨rfl, rfl, (Nat.le_of_ble_eq_true rfl), (Nat.le_of_ble_eq_true rfl)⟩) (pv_rw hK hPc357 hDc357 hfs357 (q := (RX5, TX5, 5)) rfl rfl) rfl rfl hl170.1 rfl (lv_room (Nat.le_of_ble_eq_true rfl)) dL_town_232 ⟨(Nat.le_of_ble_eq_true rfl), (Nat.le_of_ble_eq_true rfl)⟩) hP315 hD315 hS315 hA [] [0] rfl (by decide) (fun r_357 w_357 H358 locs358 hq_357 hP358 hD358 hS358 => ?_)
            clear hP315 hD315 hS315 hPc357 hDc357 hfs357 hI
            obtain ⟨hr_357, hI⟩ := hq_357
            have hr_357 : r_357 = mm (12 + 6 * k + 5) := hr_357
            subst hr_357
            have hP358 : va_P D vwCl (fl [w_357]) _ := hP358
            have hD358 : va_D A (fl [w_357]) := hD358
            refine tp_i (y := nI a7) (ea7) ?_
            refine lv_aload_n hx hb dL_town_235 rfl (lv_at hl170 5 rfl) ?_
            refine lv_iconst (v := nI 0) hx hb dL_town_236 (by decide) ?_
            obtain ⟨fs359, hfs359⟩ := XINV.recv hI
            have hPc359 : va_P D vwCl (fl [w_357]) _ := flP_sub hP358 [0] rfl
            have hDc359 : va_D A (fl [w_357]) := flD_sub hD358 [0] (by decide) rfl
            refine cl_i (br := []) (va_runV (As := [.int (nI 0)]) (rest := [.int (nI a7)]) ⟨hx, hb, hml, hown, hts⟩ (e_X5_count l D T hI 0 (by omega) _) (mkV hts okX5_count kw_349 kw_350 kw_351 ⟨rfl, rfl, (Nat.le_of_ble_eq_true rfl), (Nat.le_of_ble_eq_true rfl)⟩) (pv_rw hK hPc359 hDc359 hfs359 (q := (RX5, TX5, 5)) rfl rfl) rfl rfl hl170.1 rfl (lv_room (Nat.le_of_ble_eq_true rfl)) dL_town_237 ⟨(Nat.le_of_ble_eq_true rfl), (Nat.le_of_ble_eq_true rfl)⟩) hP358 hD358 hS358 hA [] [0] rfl (by decide) (fun r_359 w_359 H360 locs360 hq_359 hP360 hD360 hS360 => ?_)
            clear hP358 hD358 hS358 hPc359 hDc359 hfs359 hI
            obtain ⟨hr_359, hI⟩ := hq_359
            have hr_359 : r_359 = mm 9 := hr_359
            subst hr_359
            have hP360 : va_P D vwCl (fl [w_359]) _ := hP360
            have hD360 : va_D A (fl [w_359]) := hD360
            refine tp_i (y := nI h) (hR.hours) ?_
            refine n_icmp_gt (tgt := 268) hx hb (by omega) (by omega) dL_town_240 (by decide) (fun c361 => absurd c361 (by omega)) (fun c361 => ?_)
            rcases ls_r mm k 100 0 with hls | ⟨q0, hq0, hls⟩
            · skip
              refine lv_aload_n hx hb dL_town_243 rfl (lv_at hl170 5 rfl) ?_
              refine lv_iload hx hb dL_town_244 (lv_at hl170 7 rfl) ?_
              obtain ⟨fs362, hfs362⟩ := XINV.recv hI
              have hPc362 : va_P D vwCl (fl [w_359]) _ := flP_sub hP360 [0] rfl
              have hDc362 : va_D A (fl [w_359]) := flD_sub hD360 [0] (by decide) rfl
              refine cl_i (br := []) (va_runV (As := [.int (nI k)]) (rest := []) ⟨hx, hb, hml, hown, hts⟩ (e_X5_leastPressure l D T hI k (by omega) _) (mkV hts okX5_leastPressure kw_415 kw_416 kw_417 ⟨rfl, rfl, (Nat.le_of_ble_eq_true rfl), (Nat.le_of_ble_eq_true rfl)⟩) (pv_rw hK hPc362 hDc362 hfs362 (q := (RX5, TX5, 5)) rfl rfl) rfl rfl hl170.1 rfl (lv_room (Nat.le_of_ble_eq_true rfl)) dL_town_246 ⟨(Nat.le_of_ble_eq_true rfl), (Nat.le_of_ble_eq_true rfl)⟩) hP360 hD360 hS360 hA [] [0] rfl (by decide) (fun r_362 w_362 H363 locs363 hq_362 hP363 hD363 hS363 => ?_)
              clear hP360 hD360 hS360 hPc362 hDc362 hfs362 hI
              obtain ⟨hr_362, hI⟩ := hq_362
              have hr_362 : r_362 = lsG mm k 0 100 := hr_362
              subst hr_362
              have hP363 : va_P D vwCl (fl [w_362]) _ := hP363
              have hD363 : va_D A (fl [w_362]) := hD363
              refine tp_i (y := (-1)) (hls) ?_
              refine lv_iconst (v := (-1)) hx hb dL_town_249 (by decide) ?_
              refine lv_icmp_lt (tgt := 268) hx hb dL_town_250 (by decide) (fun c364 => absurd c364 (by decide)) (fun c364 => ?_)
              refine lv_aload_n hx hb dL_town_253 rfl (lv_at hl170 5 rfl) ?_
              refine lv_iload hx hb dL_town_254 (lv_at hl170 7 rfl) ?_
              obtain ⟨fs365, hfs365⟩ := XINV.recv hI
              have hPc365 : va_P D vwCl (fl [w_362]) _ := flP_sub hP363 [0] rfl
              have hDc365 : va_D A (fl [w_362]) := flD_sub hD363 [0] (by decide) rfl
              refine cl_i (br := []) (va_runV (As := [.int (nI k)]) (rest := []) ⟨hx, hb, hml, hown, hts⟩ (e_X5_leastPressure l D T hI k (by omega) _) (mkV hts okX5_leastPressure kw_415 kw_416 kw_417 ⟨rfl, rfl, (Nat.le_of_ble_eq_true rfl), (Nat.le_of_ble_eq_true rfl)⟩) (pv_rw hK hPc365 hDc365 hfs365 (q := (RX5, TX5, 5)) rfl rfl) rfl rfl hl170.1 rfl (lv_room (Nat.le_of_ble_eq_true rfl)) dL_town_256 ⟨(Nat.le_of_ble_eq_true rfl), (Nat.le_of_ble_eq_true rfl)⟩) hP363 hD363 hS363 hA [] [0] rfl (by decide) (fun r_365 w_365 H366 locs366 hq_365 hP366 hD366 hS366 => ?_)
              clear hP363 hD363 hS363 hPc365 hDc365 hfs365 hI
              obtain ⟨hr_365, hI⟩ := hq_365
              have hr_365 : r_365 = lsG mm k 0 100 := hr_365
              subst hr_365
              have hP366 : va_P D vwCl (fl [w_365]) _ := hP366
              have hD366 : va_D A (fl [w_365]) := hD366
              refine tp_i (y := (-1)) (hls) ?_
              refine lv_bipush (v := nI 99) hx hb dL_town_259 (by decide) ?_
              refine lv_icmp_gt (tgt := 268) hx hb dL_town_261 (by decide) (fun c367 => absurd c367 (by decide)) (fun c367 => ?_)
              refine lv_iconst (v := nI 1) hx hb dL_town_264 (by decide) ?_
              refine lv_goto (tgt := 269) hx hb dL_town_265 (by decide) ?_
              refine lv_istore (lv' := [(5, .int (nI 1)), (4, .int (sumM mm 4 (k + 1))), (3, .int (sumM mm 3 (k + 1))), (2, .int (nI (brNM mm (k + 1)))), (1, .int (sumM mm 0 (k + 1))), (7, .int (-1)), (0, .ref xa), (6, .int (nI k))]) hx hb dL_town_269 hl170 (by decide) rfl (fun ls368 hl368 => ?_)
              clear hl170
              refine lv_iinc (v := nI (k + 1)) (lv' := [(6, .int (nI (k + 1))), (5, .int (nI 1)), (4, .int (sumM mm 4 (k + 1))), (3, .int (sumM mm 3 (k + 1))), (2, .int (nI (brNM mm (k + 1)))), (1, .int (sumM mm 0 (k + 1))), (7, .int (-1)), (0, .ref xa)]) hx hb dL_town_271 hl368 (k := 7) rfl (nI_add k 1) (by decide) rfl (fun ls369 hl369 => ?_)
              clear hl368
              refine lv_goto (tgt := 15) hx hb dL_town_274 (by decide) ?_
              exact ih15 (k + 1) w_365 (by omega) (hI) (by omega) _ _ hP366 hD366 hS366 _ (lv_sub hl369 [7, 5, 4, 3, 2, 1, 0] rfl)
            · skip
              refine lv_aload_n hx hb dL_town_243 rfl (lv_at hl170 5 rfl) ?_
              refine lv_iload hx hb dL_town_244 (lv_at hl170 7 rfl) ?_
              obtain ⟨fs370, hfs370⟩ := XINV.recv hI
              have hPc370 : va_P D vwCl (fl [w_359]) _ := flP_sub hP360 [0] rfl
              have hDc370 : va_D A (fl [w_359]) := flD_sub hD360 [0] (by decide) rfl
              refine cl_i (br := []) (va_runV (As := [.int (nI k)]) (rest := []) ⟨hx, hb, hml, hown, hts⟩ (e_X5_leastPressure l D T hI k (by omega) _) (mkV hts okX5_leastPressure kw_415 kw_416 kw_417 ⟨rfl, rfl, (Nat.le_of_ble_eq_true rfl), (Nat.le_of_ble_eq_true rfl)⟩) (pv_rw hK hPc370 hDc370 hfs370 (q := (RX5, TX5, 5)) rfl rfl) rfl rfl hl170.1 rfl (lv_room (Nat.le_of_ble_eq_true rfl)) dL_town_246 ⟨(Nat.le_of_ble_eq_true rfl), (Nat.le_of_ble_eq_true rfl)⟩) hP360 hD360 hS360 hA [] [0] rfl (by decide) (fun r_370 w_370 H371 locs371 hq_370 hP371 hD371 hS371 => ?_)
              clear hP360 hD360 hS360 hPc370 hDc370 hfs370 hI
              obtain ⟨hr_370, hI⟩ := hq_370
              have hr_370 : r_370 = lsG mm k 0 100 := hr_370
              subst hr_370
              have hP371 : va_P D vwCl (fl [w_370]) _ := hP371
              have hD371 : va_D A (fl [w_370]) := hD371
              refine tp_i (y := nI q0) (hls) ?_
              refine lv_iconst (v := (-1)) hx hb dL_town_249 (by decide) ?_
              refine lv_icmp_lt (tgt := 268) hx hb dL_town_250 (by decide) (fun c372 => absurd c372 (n_m1 (by omega))) (fun c372 => ?_)
              refine lv_aload_n hx hb dL_town_253 rfl (lv_at hl170 5 rfl) ?_
              refine lv_iload hx hb dL_town_254 (lv_at hl170 7 rfl) ?_
              obtain ⟨fs373, hfs373⟩ := XINV.recv hI
              have hPc373 : va_P D vwCl (fl [w_370]) _ := flP_sub hP371 [0] rfl
              have hDc373 : va_D A (fl [w_370]) := flD_sub hD371 [0] (by decide) rfl
              refine cl_i (br := []) (va_runV (As := [.int (nI k)]) (rest := []) ⟨hx, hb, hml, hown, hts⟩ (e_X5_leastPressure l D T hI k (by omega) _) (mkV hts okX5_leastPressure kw_415 kw_416 kw_417 ⟨rfl, rfl, (Nat.le_of_ble_eq_true rfl), (Nat.le_of_ble_eq_true rfl)⟩) (pv_rw hK hPc373 hDc373 hfs373 (q := (RX5, TX5, 5)) rfl rfl) rfl rfl hl170.1 rfl (lv_room (Nat.le_of_ble_eq_true rfl)) dL_town_256 ⟨(Nat.le_of_ble_eq_true rfl), (Nat.le_of_ble_eq_true rfl)⟩) hP371 hD371 hS371 hA [] [0] rfl (by decide) (fun r_373 w_373 H374 locs374 hq_373 hP374 hD374 hS374 => ?_)
              clear hP371 hD371 hS371 hPc373 hDc373 hfs373 hI
              obtain ⟨hr_373, hI⟩ := hq_373
              have hr_373 : r_373 = lsG mm k 0 100 := hr_373
              subst hr_373
              have hP374 : va_P D vwCl (fl [w_373]) _ := hP374
              have hD374 : va_D A (fl [w_373]) := hD374
              refine tp_i (y := nI q0) (hls) ?_
              refine lv_bipush (v := nI 99) hx hb dL_town_259 (by decide) ?_
              refine n_icmp_gt (tgt := 268) hx hb (by omega) (by omega) dL_town_261 (by decide) (fun c375 => absurd c375 (by omega)) (fun c375 => ?_)
              refine lv_iconst (v := nI 1) hx hb dL_town_264 (by decide) ?_
              refine lv_goto (tgt := 269) hx hb dL_town_265 (by decide) ?_
              refine lv_istore (lv' := [(5, .int (nI 1)), (4, .int (sumM mm 4 (k + 1))), (3, .int (sumM mm 3 (k + 1))), (2, .int (nI (brNM mm (k + 1)))), (1, .int (sumM mm 0 (k + 1))), (7, .int (-1)), (0, .ref xa), (6, .int (nI k))]) hx hb dL_town_269 hl170 (by decide) rfl (fun ls376 hl376 => ?_)
              clear hl170
              refine lv_iinc (v := nI (k + 1)) (lv' := [(6, .int (nI (k + 1))), (5, .int (nI 1)), (4, .int (sumM mm 4 (k + 1))), (3, .int (sumM mm 3 (k + 1))), (2, .int (nI (brNM mm (k + 1)))), (1, .int (sumM mm 0 (k + 1))), (7, .int (-1)), (0, .ref xa)]) hx hb dL_town_271 hl376 (k := 7) rfl (nI_add k 1) (by decide) rfl (fun ls377 hl377 => ?_)
              clear hl376
              refine lv_goto (tgt := 15) hx hb dL_town_274 (by decide) ?_
              exact ih15 (k + 1) w_373 (by omega) (hI) (by omega) _ _ hP374 hD374 hS374 _ (lv_sub hl377 [7, 5, 4, 3, 2, 1, 0] rfl)
          · skip
            rw [hsr] at hl170
            refine lv_iload hx hb dL_town_151 (lv_at hl170 4 rfl) ?_
            refine lv_iload hx hb dL_town_153 (lv_at hl170 7 rfl) ?_
            refine lv_iconst (v := nI 1) hx hb dL_town_155 (by decide) ?_
            refine lv_isub hx hb dL_town_156 ?_
            refine tp_i (y := nI (k - 1)) (pk_sub (by omega)) ?_
            refine lv_icmp_ne (tgt := 165) hx hb dL_town_157 (by decide) (fun c378 => ?_) (fun c378 => absurd c378 (fun q => nI_nm1 (by omega) q.symm))
            refine lv_iload hx hb dL_town_165 (lv_at hl170 4 rfl) ?_
            refine lv_iconst (v := (-1)) hx hb dL_town_167 (by decide) ?_
            refine lv_icmp_ne (tgt := 268) hx hb dL_town_168 (by decide) (fun c379 => absurd c379 (fun q => q rfl)) (fun c379 => ?_)
            refine lv_iload hx hb dL_town_171 (lv_at hl170 7 rfl) ?_
            refine lv_iconst (v := nI 4) hx hb dL_town_173 (by decide) ?_
            refine lv_irem hx hb dL_town_174 (by decide) ?_
            refine tp_i (y := nI (k % 4)) (pk_rem (by omega) (by omega) (by omega)) ?_
            refine n_if_ne (tgt := 268) hx hb (by omega) dL_town_175 (by decide) (fun c380 => absurd c380 (by omega)) (fun c380 => ?_)
            refine lv_iload hx hb dL_town_178 (lv_at hl170 7 rfl) ?_
            refine lv_iconst (v := nI 4) hx hb dL_town_180 (by decide) ?_
            refine lv_irem hx hb dL_town_181 (by decide) ?_
            refine tp_i (y := nI (k % 4)) (pk_rem (by omega) (by omega) (by omega)) ?_
            refine n_if_eq (tgt := 204) hx hb (by omega) dL_town_182 (by decide) (fun c381 => ?_) (fun c381 => absurd (by omega) c381)
            refine lv_iload hx hb dL_town_204 (lv_at hl170 4 rfl) ?_
            refine lv_iconst (v := (-1)) hx hb dL_town_206 (by decide) ?_
            refine lv_icmp_eq (tgt := 227) hx hb dL_town_207 (by decide) (fun c382 => ?_) (fun c382 => absurd (rfl) c382)
            refine lv_aload_n hx hb dL_town_227 rfl (lv_at hl170 5 rfl) ?_
            refine lv_iload hx hb dL_town_228 (lv_at hl170 7 rfl) ?_
            refine lv_bipush (v := nI 7) hx hb dL_town_230 (by decide) ?_
            obtain ⟨fs383, hfs383⟩ := XINV.recv hI
            have hPc383 : va_P D vwCl (fl [w_314]) _ := flP_sub hP315 [0] rfl
            have hDc383 : va_D A (fl [w_314]) := flD_sub hD315 [0] (by decide) rfl
            refine cl_i (br := []) (va_runV (As := [.int (nI k), .int (nI 7)]) (rest := []) ⟨hx, hb, hml, hown, hts⟩ (e_X5_street l D T hI k 7 (by omega) (by omega) _) (mkV hts okX5_street kw_407 kw_408 kw_409 ⟨rfl, rfl, (Nat.le_of_ble_eq_true rfl), (Nat.le_of_ble_eq_true rfl)⟩) (pv_rw hK hPc383 hDc383 hfs383 (q := (RX5, TX5, 5)) rfl rfl) rfl rfl hl170.1 rfl (lv_room (Nat.le_of_ble_eq_true rfl)) dL_town_232 ⟨(Nat.le_of_ble_eq_true rfl), (Nat.le_of_ble_eq_true rfl)⟩) hP315 hD315 hS315 hA [] [0] rfl (by decide) (fun r_383 w_383 H384 locs384 hq_383 hP384 hD384 hS384 => ?_)
            clear hP315 hD315 hS315 hPc383 hDc383 hfs383 hI
            obtain ⟨hr_383, hI⟩ := hq_383
            have hr_383 : r_383 = mm (12 + 6 * k + 5) := hr_383
            subst hr_383
            have hP384 : va_P D vwCl (fl [w_383]) _ := hP384
            have hD384 : va_D A (fl [w_383]) := hD384
            refine tp_i (y := nI a7) (ea7) ?_
            refine lv_aload_n hx hb dL_town_235 rfl (lv_at hl170 5 rfl) ?_
            refine lv_iconst (v := nI 0) hx hb dL_town_236 (by decide) ?_
            obtain ⟨fs385, hfs385⟩ := XINV.recv hI
            have hPc385 : va_P D vwCl (fl [w_383]) _ := flP_sub hP384 [0] rfl
            have hDc385 : va_D A (fl [w_383]) := flD_sub hD384 [0] (by decide) rfl
            refine cl_i (br := []) (va_runV (As := [.int (nI 0)]) (rest := [.int (nI a7)]) ⟨hx, hb, hml, hown, hts⟩ (e_X5_count l D T hI 0 (by omega) _) (mkV hts okX5_count kw_349 kw_350 kw_351 ⟨rfl, rfl, (Nat.le_of_ble_eq_true rfl), (Nat.le_of_ble_eq_true rfl)⟩) (pv_rw hK hPc385 hDc385 hfs385 (q := (RX5, TX5, 5)) rfl rfl) rfl rfl hl170.1 rfl (lv_room (Nat.le_of_ble_eq_true rfl)) dL_town_237 ⟨(Nat.le_of_ble_eq_true rfl), (Nat.le_of_ble_eq_true rfl)⟩) hP384 hD384 hS384 hA [] [0] rfl (by decide) (fun r_385 w_385 H386 locs386 hq_385 hP386 hD386 hS386 => ?_)
            clear hP384 hD384 hS384 hPc385 hDc385 hfs385 hI
            obtain ⟨hr_385, hI⟩ := hq_385
            have hr_385 : r_385 = mm 9 := hr_385
            subst hr_385
            have hP386 : va_P D vwCl (fl [w_385]) _ := hP386
            have hD386 : va_D A (fl [w_385]) := hD386
            refine tp_i (y := nI h) (hR.hours) ?_
            refine n_icmp_gt (tgt := 268) hx hb (by omega) (by omega) dL_town_240 (by decide) (fun c387 => absurd c387 (by omega)) (fun c387 => ?_)
            rcases ls_r mm k 100 0 with hls | ⟨q0, hq0, hls⟩
            · skip
              refine lv_aload_n hx hb dL_town_243 rfl (lv_at hl170 5 rfl) ?_
              refine lv_iload hx hb dL_town_244 (lv_at hl170 7 rfl) ?_
              obtain ⟨fs388, hfs388⟩ := XINV.recv hI
              have hPc388 : va_P D vwCl (fl [w_385]) _ := flP_sub hP386 [0] rfl
              have hDc388 : va_D A (fl [w_385]) := flD_sub hD386 [0] (by decide) rfl
              refine cl_i (br := []) (va_runV (As := [.int (nI k)]) (rest := []) ⟨hx, hb, hml, hown, hts⟩ (e_X5_leastPressure l D T hI k (by omega) _) (mkV hts okX5_leastPressure kw_415 kw_416 kw_417 ⟨rfl, rfl, (Nat.le_of_ble_eq_true rfl), (Nat.le_of_ble_eq_true rfl)⟩) (pv_rw hK hPc388 hDc388 hfs388 (q := (RX5, TX5, 5)) rfl rfl) rfl rfl hl170.1 rfl (lv_room (Nat.le_of_ble_eq_true rfl)) dL_town_246 ⟨(Nat.le_of_ble_eq_true rfl), (Nat.le_of_ble_eq_true rfl)⟩) hP386 hD386 hS386 hA [] [0] rfl (by decide) (fun r_388 w_388 H389 locs389 hq_388 hP389 hD389 hS389 => ?_)
              clear hP386 hD386 hS386 hPc388 hDc388 hfs388 hI
              obtain ⟨hr_388, hI⟩ := hq_388
              have hr_388 : r_388 = lsG mm k 0 100 := hr_388
              subst hr_388
              have hP389 : va_P D vwCl (fl [w_388]) _ := hP389
              have hD389 : va_D A (fl [w_388]) := hD389
              refine tp_i (y := (-1)) (hls) ?_
              refine lv_iconst (v := (-1)) hx hb dL_town_249 (by decide) ?_
              refine lv_icmp_lt (tgt := 268) hx hb dL_town_250 (by decide) (fun c390 => absurd c390 (by decide)) (fun c390 => ?_)
              refine lv_aload_n hx hb dL_town_253 rfl (lv_at hl170 5 rfl) ?_
              refine lv_iload hx hb dL_town_254 (lv_at hl170 7 rfl) ?_
              obtain ⟨fs391, hfs391⟩ := XINV.recv hI
              have hPc391 : va_P D vwCl (fl [w_388]) _ := flP_sub hP389 [0] rfl
              have hDc391 : va_D A (fl [w_388]) := flD_sub hD389 [0] (by decide) rfl
              refine cl_i (br := []) (va_runV (As := [.int (nI k)]) (rest := []) ⟨hx, hb, hml, hown, hts⟩ (e_X5_leastPressure l D T hI k (by omega) _) (mkV hts okX5_leastPressure kw_415 kw_416 kw_417 ⟨rfl, rfl, (Nat.le_of_ble_eq_true rfl), (Nat.le_of_ble_eq_true rfl)⟩) (pv_rw hK hPc391 hDc391 hfs391 (q := (RX5, TX5, 5)) rfl rfl) rfl rfl hl170.1 rfl (lv_room (Nat.le_of_ble_eq_true rfl)) dL_town_256 ⟨(Nat.le_of_ble_eq_true rfl), (Nat.le_of_ble_eq_true rfl)⟩) hP389 hD389 hS389 hA [] [0] rfl (by decide) (fun r_391 w_391 H392 locs392 hq_391 hP392 hD392 hS392 => ?_)
              clear hP389 hD389 hS389 hPc391 hDc391 hfs391 hI
              obtain ⟨hr_391, hI⟩ := hq_391
              have hr_391 : r_391 = lsG mm k 0 100 := hr_391
              subst hr_391
              have hP392 : va_P D vwCl (fl [w_391]) _ := hP392
              have hD392 : va_D A (fl [w_391]) := hD392
              refine tp_i (y := (-1)) (hls) ?_
              refine lv_bipush (v := nI 99) hx hb dL_town_259 (by decide) ?_
              refine lv_icmp_gt (tgt := 268) hx hb dL_town_261 (by decide) (fun c393 => absurd c393 (by decide)) (fun c393 => ?_)
              refine lv_iconst (v := nI 1) hx hb dL_town_264 (by decide) ?_
              refine lv_goto (tgt := 269) hx hb dL_town_265 (by decide) ?_
              refine lv_istore (lv' := [(5, .int (nI 1)), (4, .int (sumM mm 4 (k + 1))), (3, .int (sumM mm 3 (k + 1))), (2, .int (nI (brNM mm (k + 1)))), (1, .int (sumM mm 0 (k + 1))), (7, .int (-1)), (0, .ref xa), (6, .int (nI k))]) hx hb dL_town_269 hl170 (by decide) rfl (fun ls394 hl394 => ?_)
              clear hl170
              refine lv_iinc (v := nI (k + 1)) (lv' := [(6, .int (nI (k + 1))), (5, .int (nI 1)), (4, .int (sumM mm 4 (k + 1))), (3, .int (sumM mm 3 (k + 1))), (2, .int (nI (brNM mm (k + 1)))), (1, .int (sumM mm 0 (k + 1))), (7, .int (-1)), (0, .ref xa)]) hx hb dL_town_271 hl394 (k := 7) rfl (nI_add k 1) (by decide) rfl (fun ls395 hl395 => ?_)
              clear hl394
              refine lv_goto (tgt := 15) hx hb dL_town_274 (by decide) ?_
              exact ih15 (k + 1) w_391 (by omega) (hI) (by omega) _ _ hP392 hD392 hS392 _ (lv_sub hl395 [7, 5, 4, 3, 2, 1, 0] rfl)
            · skip
              refine lv_aload_n hx hb dL_town_243 rfl (lv_at hl170 5 rfl) ?_
              refine lv_iload hx hb dL_town_244 (lv_at hl170 7 rfl) ?_
              obtain ⟨fs396, hfs396⟩ := XINV.recv hI
              have hPc396 : va_P D vwCl (fl [w_385]) _ := flP_sub hP386 [0] rfl
              have hDc396 : va_D A (fl [w_385]) := flD_sub hD386 [0] (by decide) rfl
              refine cl_i (br := []) (va_runV (As := [.int (nI k)]) (rest := []) ⟨hx, hb, hml, hown, hts⟩ (e_X5_leastPressure l D T hI k (by omega) _) (mkV hts okX5_leastPressure kw_415 kw_416 kw_417 ⟨rfl, rfl, (Nat.le_of_ble_eq_true rfl), (Nat.le_of_ble_eq_true rfl)⟩) (pv_rw hK hPc396 hDc396 hfs396 (q := (RX5, TX5, 5)) rfl rfl) rfl rfl hl170.1 rfl (lv_room (Nat.le_of_ble_eq_true rfl)) dL_town_246 ⟨(Nat.le_of_ble_eq_true rfl), (Nat.le_of_ble_eq_true rfl)⟩) hP386 hD386 hS386 hA [] [0] rfl (by decide) (fun r_396 w_396 H397 locs397 hq_396 hP397 hD397 hS397 => ?_)
              clear hP386 hD386 hS386 hPc396 hDc396 hfs396 hI
              obtain ⟨hr_396, hI⟩ := hq_396
              have hr_396 : r_396 = lsG mm k 0 100 := hr_396
              subst hr_396
              have hP397 : va_P D vwCl (fl [w_396]) _ := hP397
              have hD397 : va_D A (fl [w_396]) := hD397
              refine tp_i (y := nI q0) (hls) ?_
              refine lv_iconst (v := (-1)) hx hb dL_town_249 (by decide) ?_
              refine lv_icmp_lt (tgt := 268) hx hb dL_town_250 (by decide) (fun c398 => absurd c398 (n_m1 (by omega))) (fun c398 => ?_)
              refine lv_aload_n hx hb dL_town_253 rfl (lv_at hl170 5 rfl) ?_
              refine lv_iload hx hb dL_town_254 (lv_at hl170 7 rfl) ?_
              obtain ⟨fs399, hfs399⟩ := XINV.recv hI
              have hPc399 : va_P D vwCl (fl [w_396]) _ := flP_sub hP397 [0] rfl
              have hDc399 : va_D A (fl [w_396]) := flD_sub hD397 [0] (by decide) rfl
              refine cl_i (br := []) (va_runV (As := [.int (nI k)]) (rest := []) ⟨hx, hb, hml, hown, hts⟩ (e_X5_leastPressure l D T hI k (by omega) _) (mkV hts okX5_leastPressure kw_415 kw_416 kw_417 ⟨rfl, rfl, (Nat.le_of_ble_eq_true rfl), (Nat.le_of_ble_eq_true rfl)⟩) (pv_rw hK hPc399 hDc399 hfs399 (q := (RX5, TX5, 5)) rfl rfl) rfl rfl hl170.1 rfl (lv_room (Nat.le_of_ble_eq_true rfl)) dL_town_256 ⟨(Nat.le_of_ble_eq_true rfl), (Nat.le_of_ble_eq_true rfl)⟩) hP397 hD397 hS397 hA [] [0] rfl (by decide) (fun r_399 w_399 H400 locs400 hq_399 hP400 hD400 hS400 => ?_)
              clear hP397 hD397 hS397 hPc399 hDc399 hfs399 hI
              obtain ⟨hr_399, hI⟩ := hq_399
              have hr_399 : r_399 = lsG mm k 0 100 := hr_399
              subst hr_399
              have hP400 : va_P D vwCl (fl [w_399]) _ := hP400
              have hD400 : va_D A (fl [w_399]) := hD400
              refine tp_i (y := nI q0) (hls) ?_
              refine lv_bipush (v := nI 99) hx hb dL_town_259 (by decide) ?_
              refine n_icmp_gt (tgt := 268) hx hb (by omega) (by omega) dL_town_261 (by decide) (fun c401 => absurd c401 (by omega)) (fun c401 => ?_)
              refine lv_iconst (v := nI 1) hx hb dL_town_264 (by decide) ?_
              refine lv_goto (tgt := 269) hx hb dL_town_265 (by decide) ?_
              refine lv_istore (lv' := [(5, .int (nI 1)), (4, .int (sumM mm 4 (k + 1))), (3, .int (sumM mm 3 (k + 1))), (2, .int (nI (brNM mm (k + 1)))), (1, .int (sumM mm 0 (k + 1))), (7, .int (-1)), (0, .ref xa), (6, .int (nI k))]) hx hb dL_town_269 hl170 (by decide) rfl (fun ls402 hl402 => ?_)
              clear hl170
              refine lv_iinc (v := nI (k + 1)) (lv' := [(6, .int (nI (k + 1))), (5, .int (nI 1)), (4, .int (sumM mm 4 (k + 1))), (3, .int (sumM mm 3 (k + 1))), (2, .int (nI (brNM mm (k + 1)))), (1, .int (sumM mm 0 (k + 1))), (7, .int (-1)), (0, .ref xa)]) hx hb dL_town_271 hl402 (k := 7) rfl (nI_add k 1) (by decide) rfl (fun ls403 hl403 => ?_)
              clear hl402
              refine lv_goto (tgt := 15) hx hb dL_town_274 (by decide) ?_
              exact ih15 (k + 1) w_399 (by omega) (hI) (by omega) _ _ hP400 hD400 hS400 _ (lv_sub hl403 [7, 5, 4, 3, 2, 1, 0] rfl)
          · skip
            rw [hsr] at hl170
            refine lv_iload hx hb dL_town_151 (lv_at hl170 4 rfl) ?_
            refine lv_iload hx hb dL_town_153 (lv_at hl170 7 rfl) ?_
            refine lv_iconst (v := nI 1) hx hb dL_town_155 (by decide) ?_
            refine lv_isub hx hb dL_town_156 ?_
            refine tp_i (y := nI (k - 1)) (pk_sub (by omega)) ?_
            refine n_icmp_ne (tgt := 165) hx hb (by omega) (by omega) dL_town_157 (by decide) (fun c404 => absurd c404 (by omega)) (fun c404 => ?_)
            refine lv_iload hx hb dL_town_160 (lv_at hl170 7 rfl) ?_
            refine n_if_gt (tgt := 178) hx hb (by omega) dL_town_162 (by decide) (fun c405 => ?_) (fun c405 => absurd (by omega) c405)
            refine lv_iload hx hb dL_town_178 (lv_at hl170 7 rfl) ?_
            refine lv_iconst (v := nI 4) hx hb dL_town_180 (by decide) ?_
            refine lv_irem hx hb dL_town_181 (by decide) ?_
            refine tp_i (y := nI (k % 4)) (pk_rem (by omega) (by omega) (by omega)) ?_
            refine n_if_eq (tgt := 204) hx hb (by omega) dL_town_182 (by decide) (fun c406 => ?_) (fun c406 => absurd (by omega) c406)
            refine lv_iload hx hb dL_town_204 (lv_at hl170 4 rfl) ?_
            refine lv_iconst (v := (-1)) hx hb dL_town_206 (by decide) ?_
            refine lv_icmp_eq (tgt := 227) hx hb dL_town_207 (by decide) (fun c407 => absurd c407 (nI_nm1 (by omega))) (fun c407 => ?_)
            refine lv_aload_n hx hb dL_town_210 rfl (lv_at hl170 5 rfl) ?_
            refine lv_iload hx hb dL_town_211 (lv_at hl170 7 rfl) ?_
            refine lv_iconst (v := nI 3) hx hb dL_town_213 (by decide) ?_
            obtain ⟨fs408, hfs408⟩ := XINV.recv hI
            have hPc408 : va_P D vwCl (fl [w_314]) _ := flP_sub hP315 [0] rfl
            have hDc408 : va_D A (fl [w_314]) := flD_sub hD315 [0] (by decide) rfl
            refine cl_i (br := []) (va_runV (As := [.int (nI k), .int (nI 3)]) (rest := []) ⟨hx, hb, hml, hown, hts⟩ (e_X5_street l D T hI k 3 (by omega) (by omega) _) (mkV hts okX5_street kw_407 kw_408 kw_409 ⟨rfl, rfl, (Nat.le_of_ble_eq_true rfl), (Nat.le_of_ble_eq_true rfl)⟩) (pv_rw hK hPc408 hDc408 hfs408 (q := (RX5, TX5, 5)) rfl rfl) rfl rfl hl170.1 rfl (lv_room (Nat.le_of_ble_eq_true rfl)) dL_town_214 ⟨(Nat.le_of_ble_eq_true rfl), (Nat.le_of_ble_eq_true rfl)⟩) hP315 hD315 hS315 hA [] [0] rfl (by decide) (fun r_408 w_408 H409 locs409 hq_408 hP409 hD409 hS409 => ?_)
            clear hP315 hD315 hS315 hPc408 hDc408 hfs408 hI
            obtain ⟨hr_408, hI⟩ := hq_408
            have hr_408 : r_408 = prM mm (nI 0) k := hr_408
            subst hr_408
            have hP409 : va_P D vwCl (fl [w_408]) _ := hP409
            have hD409 : va_D A (fl [w_408]) := hD409
            refine lv_aload_n hx hb dL_town_217 rfl (lv_at hl170 5 rfl) ?_
            refine lv_iload hx hb dL_town_218 (lv_at hl170 4 rfl) ?_
            refine lv_iconst (v := nI 3) hx hb dL_town_220 (by decide) ?_
            obtain ⟨fs410, hfs410⟩ := XINV.recv hI
            have hPc410 : va_P D vwCl (fl [w_408]) _ := flP_sub hP409 [0] rfl
            have hDc410 : va_D A (fl [w_408]) := flD_sub hD409 [0] (by decide) rfl
            refine cl_i (br := []) (va_runV (As := [.int (nI (k - 1)), .int (nI 3)]) (rest := [.int (prM mm (nI 0) k)]) ⟨hx, hb, hml, hown, hts⟩ (e_X5_street l D T hI (k - 1) 3 (by omega) (by omega) _) (mkV hts okX5_street kw_407 kw_408 kw_409 ⟨rfl, rfl, (Nat.le_of_ble_eq_true rfl), (Nat.le_of_ble_eq_true rfl)⟩) (pv_rw hK hPc410 hDc410 hfs410 (q := (RX5, TX5, 5)) rfl rfl) rfl rfl hl170.1 rfl (lv_room (Nat.le_of_ble_eq_true rfl)) dL_town_221 ⟨(Nat.le_of_ble_eq_true rfl), (Nat.le_of_ble_eq_true rfl)⟩) hP409 hD409 hS409 hA [] [0] rfl (by decide) (fun r_410 w_410 H411 locs411 hq_410 hP411 hD411 hS411 => ?_)
            clear hP409 hD409 hS409 hPc410 hDc410 hfs410 hI
            obtain ⟨hr_410, hI⟩ := hq_410
            have hr_410 : r_410 = prM mm (nI 0) (k - 1) := hr_410
            subst hr_410
            have hP411 : va_P D vwCl (fl [w_410]) _ := hP411
            have hD411 : va_D A (fl [w_410]) := hD411
            refine lv_icmp_gt (tgt := 268) hx hb dL_town_224 (by decide) (fun c412 => absurd c412 (Int32.not_lt.mpr (pr_src hR (by omega) (by omega) hsr))) (fun c412 => ?_)
            refine lv_aload_n hx hb dL_town_227 rfl (lv_at hl170 5 rfl) ?_
            refine lv_iload hx hb dL_town_228 (lv_at hl170 7 rfl) ?_
            refine lv_bipush (v := nI 7) hx hb dL_town_230 (by decide) ?_
            obtain ⟨fs413, hfs413⟩ := XINV.recv hI
            have hPc413 : va_P D vwCl (fl [w_410]) _ := flP_sub hP411 [0] rfl
            have hDc413 : va_D A (fl [w_410]) := flD_sub hD411 [0] (by decide) rfl
            refine cl_i (br := []) (va_runV (As := [.int (nI k), .int (nI 7)]) (rest := []) ⟨hx, hb, hml, hown, hts⟩ (e_X5_street l D T hI k 7 (by omega) (by omega) _) (mkV hts okX5_street kw_407 kw_408 kw_409 ⟨rfl, rfl, (Nat.le_of_ble_eq_true rfl), (Nat.le_of_ble_eq_true rfl)⟩) (pv_rw hK hPc413 hDc413 hfs413 (q := (RX5, TX5, 5)) rfl rfl) rfl rfl hl170.1 rfl (lv_room (Nat.le_of_ble_eq_true rfl)) dL_town_232 ⟨(Nat.le_of_ble_eq_true rfl), (Nat.le_of_ble_eq_true rfl)⟩) hP411 hD411 hS411 hA [] [0] rfl (by decide) (fun r_413 w_413 H414 locs414 hq_413 hP414 hD414 hS414 => ?_)
            clear hP411 hD411 hS411 hPc413 hDc413 hfs413 hI
            obtain ⟨hr_413, hI⟩ := hq_413
            have hr_413 : r_413 = mm (12 + 6 * k + 5) := hr_413
            subst hr_413
            have hP414 : va_P D vwCl (fl [w_413]) _ := hP414
            have hD414 : va_D A (fl [w_413]) := hD414
            refine tp_i (y := nI a7) (ea7) ?_
            refine lv_aload_n hx hb dL_town_235 rfl (lv_at hl170 5 rfl) ?_
            refine lv_iconst (v := nI 0) hx hb dL_town_236 (by decide) ?_
            obtain ⟨fs415, hfs415⟩ := XINV.recv hI
            have hPc415 : va_P D vwCl (fl [w_413]) _ := flP_sub hP414 [0] rfl
            have hDc415 : va_D A (fl [w_413]) := flD_sub hD414 [0] (by decide) rfl
            refine cl_i (br := []) (va_runV (As := [.int (nI 0)]) (rest := [.int (nI a7)]) ⟨hx, hb, hml, hown, hts⟩ (e_X5_count l D T hI 0 (by omega) _) (mkV hts okX5_count kw_349 kw_350 kw_351 ⟨rfl, rfl, (Nat.le_of_ble_eq_true rfl), (Nat.le_of_ble_eq_true rfl)⟩) (pv_rw hK hPc415 hDc415 hfs415 (q := (RX5, TX5, 5)) rfl rfl) rfl rfl hl170.1 rfl (lv_room (Nat.le_of_ble_eq_true rfl)) dL_town_237 ⟨(Nat.le_of_ble_eq_true rfl), (Nat.le_of_ble_eq_true rfl)⟩) hP414 hD414 hS414 hA [] [0] rfl (by decide) (fun r_415 w_415 H416 locs416 hq_415 hP416 hD416 hS416 => ?_)
            clear hP414 hD414 hS414 hPc415 hDc415 hfs415 hI
            obtain ⟨hr_415, hI⟩ := hq_415
            have hr_415 : r_415 = mm 9 := hr_415
            subst hr_415
            have hP416 : va_P D vwCl (fl [w_415]) _ := hP416
            have hD416 : va_D A (fl [w_415]) := hD416
            refine tp_i (y := nI h) (hR.hours) ?_
            refine n_icmp_gt (tgt := 268) hx hb (by omega) (by omega) dL_town_240 (by decide) (fun c417 => absurd c417 (by omega)) (fun c417 => ?_)
            rcases ls_r mm k 100 0 with hls | ⟨q0, hq0, hls⟩
            · skip
              refine lv_aload_n hx hb dL_town_243 rfl (lv_at hl170 5 rfl) ?_
              refine lv_iload hx hb dL_town_244 (lv_at hl170 7 rfl) ?_
              obtain ⟨fs418, hfs418⟩ := XINV.recv hI
              have hPc418 : va_P D vwCl (fl [w_415]) _ := flP_sub hP416 [0] rfl
              have hDc418 : va_D A (fl [w_415]) := flD_sub hD416 [0] (by decide) rfl
              refine cl_i (br := []) (va_runV (As := [.int (nI k)]) (rest := []) ⟨hx, hb, hml, hown, hts⟩ (e_X5_leastPressure l D T hI k (by omega) _) (mkV hts okX5_leastPressure kw_415 kw_416 kw_417 ⟨rfl, rfl, (Nat.le_of_ble_eq_true rfl), (Nat.le_of_ble_eq_true rfl)⟩) (pv_rw hK hPc418 hDc418 hfs418 (q := (RX5, TX5, 5)) rfl rfl) rfl rfl hl170.1 rfl (lv_room (Nat.le_of_ble_eq_true rfl)) dL_town_246 ⟨(Nat.le_of_ble_eq_true rfl), (Nat.le_of_ble_eq_true rfl)⟩) hP416 hD416 hS416 hA [] [0] rfl (by decide) (fun r_418 w_418 H419 locs419 hq_418 hP419 hD419 hS419 => ?_)
              clear hP416 hD416 hS416 hPc418 hDc418 hfs418 hI
              obtain ⟨hr_418, hI⟩ := hq_418
              have hr_418 : r_418 = lsG mm k 0 100 := hr_418
              subst hr_418
              have hP419 : va_P D vwCl (fl [w_418]) _ := hP419
              have hD419 : va_D A (fl [w_418]) := hD419
              refine tp_i (y := (-1)) (hls) ?_
              refine lv_iconst (v := (-1)) hx hb dL_town_249 (by decide) ?_
              refine lv_icmp_lt (tgt := 268) hx hb dL_town_250 (by decide) (fun c420 => absurd c420 (by decide)) (fun c420 => ?_)
              refine lv_aload_n hx hb dL_town_253 rfl (lv_at hl170 5 rfl) ?_
              refine lv_iload hx hb dL_town_254 (lv_at hl170 7 rfl) ?_
              obtain ⟨fs421, hfs421⟩ := XINV.recv hI
              have hPc421 : va_P D vwCl (fl [w_418]) _ := flP_sub hP419 [0] rfl
              have hDc421 : va_D A (fl [w_418]) := flD_sub hD419 [0] (by decide) rfl
              refine cl_i (br := []) (va_runV (As := [.int (nI k)]) (rest := []) ⟨hx, hb, hml, hown, hts⟩ (e_X5_leastPressure l D T hI k (by omega) _) (mkV hts okX5_leastPressure kw_415 kw_416 kw_417 ⟨rfl, rfl, (Nat.le_of_ble_eq_true rfl), (Nat.le_of_ble_eq_true rfl)⟩) (pv_rw hK hPc421 hDc421 hfs421 (q := (RX5, TX5, 5)) rfl rfl) rfl rfl hl170.1 rfl (lv_room (Nat.le_of_ble_eq_true rfl)) dL_town_256 ⟨(Nat.le_of_ble_eq_true rfl), (Nat.le_of_ble_eq_true rfl)⟩) hP419 hD419 hS419 hA [] [0] rfl (by decide) (fun r_421 w_421 H422 locs422 hq_421 hP422 hD422 hS422 => ?_)
              clear hP419 hD419 hS419 hPc421 hDc421 hfs421 hI
              obtain ⟨hr_421, hI⟩ := hq_421
              have hr_421 : r_421 = lsG mm k 0 100 := hr_421
              subst hr_421
              have hP422 : va_P D vwCl (fl [w_421]) _ := hP422
              have hD422 : va_D A (fl [w_421]) := hD422
              refine tp_i (y := (-1)) (hls) ?_
              refine lv_bipush (v := nI 99) hx hb dL_town_259 (by decide) ?_
              refine lv_icmp_gt (tgt := 268) hx hb dL_town_261 (by decide) (fun c423 => absurd c423 (by decide)) (fun c423 => ?_)
              refine lv_iconst (v := nI 1) hx hb dL_town_264 (by decide) ?_
              refine lv_goto (tgt := 269) hx hb dL_town_265 (by decide) ?_
              refine lv_istore (lv' := [(5, .int (nI 1)), (4, .int (sumM mm 4 (k + 1))), (3, .int (sumM mm 3 (k + 1))), (2, .int (nI (brNM mm (k + 1)))), (1, .int (sumM mm 0 (k + 1))), (7, .int (nI (k - 1))), (0, .ref xa), (6, .int (nI k))]) hx hb dL_town_269 hl170 (by decide) rfl (fun ls424 hl424 => ?_)
              clear hl170
              refine lv_iinc (v := nI (k + 1)) (lv' := [(6, .int (nI (k + 1))), (5, .int (nI 1)), (4, .int (sumM mm 4 (k + 1))), (3, .int (sumM mm 3 (k + 1))), (2, .int (nI (brNM mm (k + 1)))), (1, .int (sumM mm 0 (k + 1))), (7, .int (nI (k - 1))), (0, .ref xa)]) hx hb dL_town_271 hl424 (k := 7) rfl (nI_add k 1) (by decide) rfl (fun ls425 hl425 => ?_)
              clear hl424
              refine lv_goto (tgt := 15) hx hb dL_town_274 (by decide) ?_
              exact ih15 (k + 1) w_421 (by omega) (hI) (by omega) _ _ hP422 hD422 hS422 _ (lv_sub hl425 [7, 5, 4, 3, 2, 1, 0] rfl)
            · skip
              refine lv_aload_n hx hb dL_town_243 rfl (lv_at hl170 5 rfl) ?_
              refine lv_iload hx hb dL_town_244 (lv_at hl170 7 rfl) ?_
              obtain ⟨fs426, hfs426⟩ := XINV.recv hI
              have hPc426 : va_P D vwCl (fl [w_415]) _ := flP_sub hP416 [0] rfl
              have hDc426 : va_D A (fl [w_415]) := flD_sub hD416 [0] (by decide) rfl
              refine cl_i (br := []) (va_runV (As := [.int (nI k)]) (rest := []) ⟨hx, hb, hml, hown, hts⟩ (e_X5_leastPressure l D T hI k (by omega) _) (mkV hts okX5_leastPressure kw_415 kw_416 kw_417 ⟨rfl, rfl, (Nat.le_of_ble_eq_true rfl), (Nat.le_of_ble_eq_true rfl)⟩) (pv_rw hK hPc426 hDc426 hfs426 (q := (RX5, TX5, 5)) rfl rfl) rfl rfl hl170.1 rfl (lv_room (Nat.le_of_ble_eq_true rfl)) dL_town_246 ⟨(Nat.le_of_ble_eq_true rfl), (Nat.le_of_ble_eq_true rfl)⟩) hP416 hD416 hS416 hA [] [0] rfl (by decide) (fun r_426 w_426 H427 locs427 hq_426 hP427 hD427 hS427 => ?_)
              clear hP416 hD416 hS416 hPc426 hDc426 hfs426 hI
              obtain ⟨hr_426, hI⟩ := hq_426
              have hr_426 : r_426 = lsG mm k 0 100 := hr_426
              subst hr_426
              have hP427 : va_P D vwCl (fl [w_426]) _ := hP427
              have hD427 : va_D A (fl [w_426]) := hD427
              refine tp_i (y := nI q0) (hls) ?_
              refine lv_iconst (v := (-1)) hx hb dL_town_249 (by decide) ?_
              refine lv_icmp_lt (tgt := 268) hx hb dL_town_250 (by decide) (fun c428 => absurd c428 (n_m1 (by omega))) (fun c428 => ?_)
              refine lv_aload_n hx hb dL_town_253 rfl (lv_at hl170 5 rfl) ?_
              refine lv_iload hx hb dL_town_254 (lv_at hl170 7 rfl) ?_
              obtain ⟨fs429, hfs429⟩ := XINV.recv hI
              have hPc429 : va_P D vwCl (fl [w_426]) _ := flP_sub hP427 [0] rfl
              have hDc429 : va_D A (fl [w_426]) := flD_sub hD427 [0] (by decide) rfl
              refine cl_i (br := []) (va_runV (As := [.int (nI k)]) (rest := []) ⟨hx, hb, hml, hown, hts⟩ (e_X5_leastPressure l D T hI k (by omega) _) (mkV hts okX5_leastPressure kw_415 kw_416 kw_417 ⟨rfl, rfl, (Nat.le_of_ble_eq_true rfl), (Nat.le_of_ble_eq_true rfl)⟩) (pv_rw hK hPc429 hDc429 hfs429 (q := (RX5, TX5, 5)) rfl rfl) rfl rfl hl170.1 rfl (lv_room (Nat.le_of_ble_eq_true rfl)) dL_town_256 ⟨(Nat.le_of_ble_eq_true rfl), (Nat.le_of_ble_eq_true rfl)⟩) hP427 hD427 hS427 hA [] [0] rfl (by decide) (fun r_429 w_429 H430 locs430 hq_429 hP430 hD430 hS430 => ?_)
              clear hP427 hD427 hS427 hPc429 hDc429 hfs429 hI
              obtain ⟨hr_429, hI⟩ := hq_429
              have hr_429 : r_429 = lsG mm k 0 100 := hr_429
              subst hr_429
              have hP430 : va_P D vwCl (fl [w_429]) _ := hP430
              have hD430 : va_D A (fl [w_429]) := hD430
              refine tp_i (y := nI q0) (hls) ?_
              refine lv_bipush (v := nI 99) hx hb dL_town_259 (by decide) ?_
              refine n_icmp_gt (tgt := 268) hx hb (by omega) (by omega) dL_town_261 (by decide) (fun c431 => absurd c431 (by omega)) (fun c431 => ?_)
              refine lv_iconst (v := nI 1) hx hb dL_town_264 (by decide) ?_
              refine lv_goto (tgt := 269) hx hb dL_town_265 (by decide) ?_
              refine lv_istore (lv' := [(5, .int (nI 1)), (4, .int (sumM mm 4 (k + 1))), (3, .int (sumM mm 3 (k + 1))), (2, .int (nI (brNM mm (k + 1)))), (1, .int (sumM mm 0 (k + 1))), (7, .int (nI (k - 1))), (0, .ref xa), (6, .int (nI k))]) hx hb dL_town_269 hl170 (by decide) rfl (fun ls432 hl432 => ?_)
              clear hl170
              refine lv_iinc (v := nI (k + 1)) (lv' := [(6, .int (nI (k + 1))), (5, .int (nI 1)), (4, .int (sumM mm 4 (k + 1))), (3, .int (sumM mm 3 (k + 1))), (2, .int (nI (brNM mm (k + 1)))), (1, .int (sumM mm 0 (k + 1))), (7, .int (nI (k - 1))), (0, .ref xa)]) hx hb dL_town_271 hl432 (k := 7) rfl (nI_add k 1) (by decide) rfl (fun ls433 hl433 => ?_)
              clear hl432
              refine lv_goto (tgt := 15) hx hb dL_town_274 (by decide) ?_
              exact ih15 (k + 1) w_429 (by omega) (hI) (by omega) _ _ hP430 hD430 hS430 _ (lv_sub hl433 [7, 5, 4, 3, 2, 1, 0] rfl)
  exact loop15 ((12 - 0) + 1) 0 wb (by omega) (hI) (Nat.lt_succ_self _) _ _ hP0 hD0 hS0 _ (lv_sub hl6 [6, 5, 4, 3, 2, 1, 0] rfl)
