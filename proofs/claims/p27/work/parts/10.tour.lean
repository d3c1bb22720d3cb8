set_option maxHeartbeats 4000000 in
set_option maxRecDepth 100000 in
theorem c_X4_isFull (l : Launch) (D : va_G) (T : TI) (a : Nat) (b : Nat) (n : Nat) (f : Nat → Int32) (hn : n ≤ 8) : OI l yX4_isFull cX4_isFull 1 .boolean (rmD 0 0 0) D T [.ref a] [tW T a b (nI n) f] (fun r => r = bI (decide (8 ≤ n))) := by
  refine met_ro rfl (Nat.le_of_ble_eq_true rfl) ?_
  intro pX eX sX mX bX mtX cX hC hP0 hS0 ls0 hl0 TG hTG
  obtain ⟨hx, hb, hr, hml, hown, hts, hlocks, hin, hK⟩ := hC
  have hown : sX.vm.findClass RX4 = some mX.cls := hown
  have hl0 : lv_has ls0 1 [(0, .ref a)] := hl0
  refine lv_aload_n hx hb dX4_isFull_0 rfl (lv_at hl0 0 rfl) ?_
  refine r_get (own := RX4) (C := RX4) (F := TX4) (N := 2) (ci := 4) (v := .int (nI n)) hx hb hK hts in_X4 hown hP0 0 rfl rfl 1 (by decide) kw_46 rfl dX4_isFull_1 ?_
  refine lv_bipush (v := nI 8) hx hb dX4_isFull_4 (by decide) ?_
  refine n_icmp_lt (tgt := 13) hx hb (by omega) (by omega) dX4_isFull_6 (by decide) (fun c_6 => ?_) (fun c_6 => ?_)
  · skip
    refine lv_iconst (v := nI 0) hx hb dX4_isFull_13 (by decide) ?_
    refine ro_z (b := false) rfl hTG (Nat.le_refl _) (Nat.le_refl _) hx hb hr hlocks hS0 dX4_isFull_14 ?_
    show bI _ = bI _; congr 1; simp <;> omega
  · skip
    refine lv_iconst (v := nI 1) hx hb dX4_isFull_9 (by decide) ?_
    refine lv_goto (tgt := 14) hx hb dX4_isFull_10 (by decide) ?_
    refine ro_z (b := true) rfl hTG (Nat.le_refl _) (Nat.le_refl _) hx hb hr hlocks hS0 dX4_isFull_14 ?_
    show bI _ = bI _; congr 1; simp <;> omega
set_option maxHeartbeats 4000000 in
set_option maxRecDepth 100000 in
theorem c_X4_at (l : Launch) (D : va_G) (T : TI) (a : Nat) (b : Nat) (n : Nat) (f : Nat → Int32) (k : Int32) (hn : n ≤ 8) : OI l yX4_at cX4_at 2 .int (rmD 0 0 0) D T [.ref a, .int k] [tW T a b (nI n) f] (fun r => r = tAt n f k) := by
  refine met_ro rfl (Nat.le_of_ble_eq_true rfl) ?_
  intro pX eX sX mX bX mtX cX hC hP0 hS0 ls0 hl0 TG hTG
  obtain ⟨hx, hb, hr, hml, hown, hts, hlocks, hin, hK⟩ := hC
  have hown : sX.vm.findClass RX4 = some mX.cls := hown
  have hl0 : lv_has ls0 2 [(0, .ref a), (1, .int k)] := hl0
  refine lv_iload_n hx hb dX4_at_0 rfl (lv_at hl0 1 rfl) ?_
  refine lv_if_lt (tgt := 27) hx hb dX4_at_1 (by decide) (fun c_1 => ?_) (fun c_1 => ?_)
  · skip
    refine lv_iconst (v := (-1)) hx hb dX4_at_27 (by decide) ?_
    refine ro_i hTG (Nat.le_refl _) (Nat.le_refl _) hx hb hr hlocks hS0 dX4_at_28 ?_
    first | (simp [tAt, c_1]; done) | (simp [tAt, nIcl (show j < 2147483648 by omega), nI_pos (show j < 2 ^ 31 by omega)]; omega) | (simp [tAt, nIcl (show j < 2147483648 by omega), nI_pos (show j < 2 ^ 31 by omega), show j < n by omega])
  · skip
    obtain ⟨j, hj, rfl⟩ := nI_of c_1
    refine lv_iload_n hx hb dX4_at_4 rfl (lv_at hl0 1 rfl) ?_
    refine lv_aload_n hx hb dX4_at_5 rfl (lv_at hl0 0 rfl) ?_
    refine r_get (own := RX4) (C := RX4) (F := TX4) (N := 2) (ci := 4) (v := .int (nI n)) hx hb hK hts in_X4 hown hP0 0 rfl rfl 1 (by decide) kw_46 rfl dX4_at_6 ?_
    refine n_icmp_ge (tgt := 27) hx hb (by omega) (by omega) dX4_at_9 (by decide) (fun c_9 => ?_) (fun c_9 => ?_)
    · skip
      refine lv_iconst (v := (-1)) hx hb dX4_at_27 (by decide) ?_
      refine ro_i hTG (Nat.le_refl _) (Nat.le_refl _) hx hb hr hlocks hS0 dX4_at_28 ?_
      first | (simp [tAt, c_1]; done) | (simp [tAt, nIcl (show j < 2147483648 by omega), nI_pos (show j < 2 ^ 31 by omega)]; omega) | (simp [tAt, nIcl (show j < 2147483648 by omega), nI_pos (show j < 2 ^ 31 by omega), show j < n by omega])
    · skip
      have hj8 : j < n := by omega
      refine lv_iload_n hx hb dX4_at_12 rfl (lv_at hl0 1 rfl) ?_
      refine lv_bipush (v := nI 8) hx hb dX4_at_13 (by decide) ?_
      refine n_icmp_ge (tgt := 27) hx hb (by omega) (by omega) dX4_at_15 (by decide) (fun c3 => absurd c3 (by omega)) (fun c3 => ?_)
      refine lv_aload_n hx hb dX4_at_18 rfl (lv_at hl0 0 rfl) ?_
      refine r_get (own := RX4) (C := RX4) (F := TX4) (N := 2) (ci := 4) (v := .ref b) hx hb hK hts in_X4 hown hP0 0 rfl rfl 0 (by decide) kw_45 rfl dX4_at_19 ?_
      refine lv_iload_n hx hb dX4_at_22 rfl (lv_at hl0 1 rfl) ?_
      refine r_iald hx hb hK hP0 1 (f := f) (n := 8) rfl j (by decide) dX4_at_23 (by omega) ?_
      refine lv_goto (tgt := 28) hx hb dX4_at_24 (by decide) ?_
      refine ro_i hTG (Nat.le_refl _) (Nat.le_refl _) hx hb hr hlocks hS0 dX4_at_28 ?_
      first | (simp [tAt, c_1]; done) | (simp [tAt, nIcl (show j < 2147483648 by omega), nI_pos (show j < 2 ^ 31 by omega)]; omega) | (simp [tAt, nIcl (show j < 2147483648 by omega), nI_pos (show j < 2 ^ 31 by omega), show j < n by omega])
set_option maxHeartbeats 4000000 in
set_option maxRecDepth 100000 in
theorem c_X4_putLast (l : Launch) (D : va_G) (T : TI) (a : Nat) (b : Nat) (n : Nat) (f : Nat → Int32) (x : Int32) (hn : n < 8) : CV l yX4_putLast cX4_putLast 2 (rmD 0 0 0) D T [.ref a, .int x] [tW T a b (nI n) f] 0 0 (β := Unit) (fun (_ : Unit) => [tW T a b (nI (n + 1)) (upd f n x)]) (fun (_ : Unit) => True) := by
  intro sz
  refine met_rw (Qc := fun A => va_Qv _ (PST D _ A) A) rfl (Nat.le_of_ble_eq_true rfl) ?_
  intro pX eX sX mX bX mtX cX A hAe hC hA hP0 hD0 hS0 ls0 hl0 TG hTG
  clear hAe
  obtain ⟨hx, hb, hr, hml, hown, hts, hlocks, hin, hK⟩ := hC
  have hown : sX.vm.findClass RX4 = some mX.cls := hown
  have hl0 : lv_has ls0 2 [(0, .ref a), (1, .int x)] := hl0
  refine lv_aload_n hx hb dX4_putLast_0 rfl (lv_at hl0 0 rfl) ?_
  refine r_get (own := RX4) (C := RX4) (F := TX4) (N := 2) (ci := 4) (v := .int (nI n)) hx hb hK hts in_X4 hown hP0 0 rfl rfl 1 (by decide) kw_46 rfl dX4_putLast_1 ?_
  refine n_if_lt hx hb (by omega) dX4_putLast_4 36 (by decide) ?_
  refine lv_aload_n hx hb dX4_putLast_7 rfl (lv_at hl0 0 rfl) ?_
  refine r_get (own := RX4) (C := RX4) (F := TX4) (N := 2) (ci := 4) (v := .int (nI n)) hx hb hK hts in_X4 hown hP0 0 rfl rfl 1 (by decide) kw_46 rfl dX4_putLast_8 ?_
  refine lv_bipush (v := nI 8) hx hb dX4_putLast_11 (by decide) ?_
  refine n_icmp_ge (tgt := 36) hx hb (by omega) (by omega) dX4_putLast_13 (by decide) (fun c1 => absurd c1 (by omega)) (fun c1 => ?_)
  refine lv_aload_n hx hb dX4_putLast_16 rfl (lv_at hl0 0 rfl) ?_
  refine r_get (own := RX4) (C := RX4) (F := TX4) (N := 2) (ci := 4) (v := .ref b) hx hb hK hts in_X4 hown hP0 0 rfl rfl 0 (by decide) kw_45 rfl dX4_putLast_17 ?_
  refine lv_aload_n hx hb dX4_putLast_20 rfl (lv_at hl0 0 rfl) ?_
  refine r_get (own := RX4) (C := RX4) (F := TX4) (N := 2) (ci := 4) (v := .int (nI n)) hx hb hK hts in_X4 hown hP0 0 rfl rfl 1 (by decide) kw_46 rfl dX4_putLast_21 ?_
  refine lv_iload_n hx hb dX4_putLast_24 rfl (lv_at hl0 1 rfl) ?_
  refine r_iast hx hb hK hP0 hD0 hS0 1 (f := f) (n := 8) rfl n (by decide) dX4_putLast_25 (by omega) (fun (H2 : Heap) (locs2 : List Loc) (hP2 : va_P D vwCl (fl [tW T a b (nI n) (upd f n x)]) H2) (hD2 : va_D A (fl [tW T a b (nI n) (upd f n x)])) hS2 => ?_)
  clear hP0 hD0 hS0
  refine lv_aload_n hx hb dX4_putLast_26 rfl (lv_at hl0 0 rfl) ?_
  refine lv_dup hx hb dX4_putLast_27 rfl ?_
  refine r_get (own := RX4) (C := RX4) (F := TX4) (N := 2) (ci := 4) (v := .int (nI n)) hx hb hK hts in_X4 hown hP2 0 rfl rfl 1 (by decide) kw_46 rfl dX4_putLast_28 ?_
  refine lv_iconst (v := nI 1) hx hb dX4_putLast_31 (by decide) ?_
  refine lv_iadd hx hb dX4_putLast_32 ?_
  refine tp_i (y := nI (n + 1)) (nI_add _ _) ?_
  refine r_put (own := RX4) (C := RX4) (F := TX4) (N := 2) (ci := 4) (v := nI (n + 1)) hx hb hK hts in_X4 tyX4 tyX4_ok nmX4 hown hP2 hD2 hS2 0 rfl rfl 1 (by decide) kw_46 rfl rfl (Nat.le_of_ble_eq_true rfl) dX4_putLast_33 (fun (H3 : Heap) (locs3 : List Loc) (hP3 : va_P D vwCl (fl [tW T a b (nI (n + 1)) (upd f n x)]) H3) (hD3 : va_D A (fl [tW T a b (nI (n + 1)) (upd f n x)])) hS3 => ?_)
  clear hP2 hD2 hS2
  refine ret_v hTG (Nat.le_refl _) (Nat.le_refl _) hx hb hr hlocks (()) hP3 hD3 hS3 [0] rfl (by decide) dX4_putLast_36 ?_
  first | rfl | trivial
set_option maxHeartbeats 4000000 in
set_option maxRecDepth 100000 in
theorem c_X4_dropFirst (l : Launch) (D : va_G) (T : TI) (a : Nat) (b : Nat) (n : Nat) (f : Nat → Int32) (hn : n ≤ 8) : CV l yX4_dropFirst cX4_dropFirst 2 (rmD 1 0 0) D T [.ref a] [tW T a b (nI n) f] 0 0 (β := Nat → Int32) (fun (f2 : Nat → Int32) => [tW T a b (nI (n - 1)) f2]) (fun (f2 : Nat → Int32) => drF n f = f2) := by
  intro sz
  refine met_rw (Qc := fun A => va_Qv _ (PST D _ A) A) rfl (Nat.le_of_ble_eq_true rfl) ?_
  intro pX eX sX mX bX mtX cX A hAe hC hA hP0 hD0 hS0 ls0 hl0 TG hTG
  clear hAe
  obtain ⟨hx, hb, hr, hml, hown, hts, hlocks, hin, hK⟩ := hC
  have hown : sX.vm.findClass RX4 = some mX.cls := hown
  have hl0 : lv_has ls0 2 [(0, .ref a)] := hl0
  refine lv_aload_n hx hb dX4_dropFirst_0 rfl (lv_at hl0 0 rfl) ?_
  refine r_get (own := RX4) (C := RX4) (F := TX4) (N := 2) (ci := 4) (v := .int (nI n)) hx hb hK hts in_X4 hown hP0 0 rfl rfl 1 (by decide) kw_46 rfl dX4_dropFirst_1 ?_
  refine n_if_gt (tgt := 8) hx hb (by omega) dX4_dropFirst_4 (by decide) (fun c_4 => ?_) (fun c_4 => ?_)
  · skip
    refine lv_iconst (v := nI 1) hx hb dX4_dropFirst_8 (by decide) ?_
    refine lv_istore_n (lv' := [(1, .int (nI 1)), (0, .ref a)]) hx hb dX4_dropFirst_9 rfl hl0 (by decide) rfl (fun ls2 hl2 => ?_)
    clear hl0
    have loop10 : ∀ (n_ : Nat) (i : Nat) (g : Nat → Int32), (1 ≤ i) → (i ≤ 8) → (∀ k, k < i - 1 → g k = f (k + 1)) → (∀ k, i - 1 ≤ k → g k = f k) → (8 - i) < n_ → ∀ (H : Heap) (locs : List Loc), va_P D vwCl (fl [tW T a b (nI n) g]) H → va_D A (fl [tW T a b (nI n) g]) → va_S A sX.heap H locs → ∀ ls : Array Slot, lv_has ls 2 [(0, .ref a), (1, .int (nI i))] → W pX l eX (rmD 1 0 0) sX mX ([.ref a] : List Value).toArray bX mtX cX H locs 0 0 TG (F0 mX 10 ls []) := by
      intro n_
      induction n_ with
      | zero => intro i g h1 h8 g1 g2 hmu_ ; exact absurd hmu_ (Nat.not_lt_zero _)
      | succ n_ ih10 =>
        intro i g h1 h8 g1 g2 hmu_10 H4 locs4 hP4 hD4 hS4 ls4 hl4
        refine lv_iload_n hx hb dX4_dropFirst_10 rfl (lv_at hl4 1 rfl) ?_
        refine lv_bipush (v := nI 8) hx hb dX4_dropFirst_11 (by decide) ?_
        refine n_icmp_ge (tgt := 36) hx hb (by omega) (by omega) dX4_dropFirst_13 (by decide) (fun c_13 => ?_) (fun c_13 => ?_)
        · skip
          refine lv_aload_n hx hb dX4_dropFirst_36 rfl (lv_at hl4 0 rfl) ?_
          refine lv_dup hx hb dX4_dropFirst_37 rfl ?_
          refine r_get (own := RX4) (C := RX4) (F := TX4) (N := 2) (ci := 4) (v := .int (nI n)) hx hb hK hts in_X4 hown hP4 0 rfl rfl 1 (by decide) kw_46 rfl dX4_dropFirst_38 ?_
          refine lv_iconst (v := nI 1) hx hb dX4_dropFirst_41 (by decide) ?_
          refine lv_isub hx hb dX4_dropFirst_42 ?_
          refine tp_i (y := nI (n - 1)) (pk_sub (by omega)) ?_
          refine r_put (own := RX4) (C := RX4) (F := TX4) (N := 2) (ci := 4) (v := nI (n - 1)) hx hb hK hts in_X4 tyX4 tyX4_ok nmX4 hown hP4 hD4 hS4 0 rfl rfl 1 (by decide) kw_46 rfl rfl (Nat.le_of_ble_eq_true rfl) dX4_dropFirst_43 (fun (H6 : Heap) (locs6 : List Loc) (hP6 : va_P D vwCl (fl [tW T a b (nI (n - 1)) g]) H6) (hD6 : va_D A (fl [tW T a b (nI (n - 1)) g])) hS6 => ?_)
          clear hP4 hD4 hS4
          refine ret_v hTG (Nat.le_refl _) (Nat.le_refl _) hx hb hr hlocks ((g)) hP6 hD6 hS6 [0] rfl (by decide) dX4_dropFirst_46 ?_
          show drF n f = g
          have hn0 : ¬ n = 0 := by omega
          funext k
          simp only [drF, hn0, if_false, shf]
          split
          · next hk => exact (g1 k (by omega)).symm
          · next hk => exact (g2 k (by omega)).symm
        · skip
          refine lv_aload_n hx hb dX4_dropFirst_16 rfl (lv_at hl4 0 rfl) ?_
          refine r_get (own := RX4) (C := RX4) (F := TX4) (N := 2) (ci := 4) (v := .ref b) hx hb hK hts in_X4 hown hP4 0 rfl rfl 0 (by decide) kw_45 rfl dX4_dropFirst_17 ?_
          refine lv_iload_n hx hb dX4_dropFirst_20 rfl (lv_at hl4 1 rfl) ?_
          refine lv_iconst (v := nI 1) hx hb dX4_dropFirst_21 (by decide) ?_
          refine lv_isub hx hb dX4_dropFirst_22 ?_
          refine tp_i (y := nI (i - 1)) (pk_sub (by omega)) ?_
          refine lv_aload_n hx hb dX4_dropFirst_23 rfl (lv_at hl4 0 rfl) ?_
          refine r_get (own := RX4) (C := RX4) (F := TX4) (N := 2) (ci := 4) (v := .ref b) hx hb hK hts in_X4 hown hP4 0 rfl rfl 0 (by decide) kw_45 rfl dX4_dropFirst_24 ?_
          refine lv_iload_n hx hb dX4_dropFirst_27 rfl (lv_at hl4 1 rfl) ?_
          refine r_iald hx hb hK hP4 1 (f := g) (n := 8) rfl i (by decide) dX4_dropFirst_28 (by omega) ?_
          refine r_iast hx hb hK hP4 hD4 hS4 1 (f := g) (n := 8) rfl (i - 1) (by decide) dX4_dropFirst_29 (by omega) (fun (H7 : Heap) (locs7 : List Loc) (hP7 : va_P D vwCl (fl [tW T a b (nI n) (upd g (i - 1) (g i))]) H7) (hD7 : va_D A (fl [tW T a b (nI n) (upd g (i - 1) (g i))])) hS7 => ?_)
          clear hP4 hD4 hS4
          refine lv_iinc (v := nI (i + 1)) (lv' := [(1, .int (nI (i + 1))), (0, .ref a)]) hx hb dX4_dropFirst_30 hl4 (k := 1) rfl (nI_add i 1) (by decide) rfl (fun ls8 hl8 => ?_)
          clear hl4
          refine lv_goto (tgt := 10) hx hb dX4_dropFirst_33 (by decide) ?_
          have g1' : ∀ k, k < i + 1 - 1 → upd g (i - 1) (g i) k = f (k + 1) := by
            intro k hk
            by_cases e : k = i - 1
            · subst e; rw [pk_us, g2 i (by omega)]; congr 1; omega
            · rw [pk_un e]; exact g1 k (by omega)
          have g2' : ∀ k, i + 1 - 1 ≤ k → upd g (i - 1) (g i) k = f k := by
            intro k hk
            rw [pk_un (by omega)]; exact g2 k (by omega)
          exact ih10 (i + 1) (upd g (i - 1) (g i)) (by omega) (by omega) (g1') (g2') (by omega) _ _ hP7 hD7 hS7 _ (lv_sub hl8 [1, 0] rfl)
    exact loop10 ((8 - 1) + 1) 1 f (by omega) (by omega) (fun k hk => absurd hk (by omega)) (fun _ _ => rfl) (Nat.lt_succ_self _) _ _ hP0 hD0 hS0 _ (lv_sub hl2 [1, 0] rfl)
  · skip
    have hn0 : 0 = n := by omega
    subst hn0
    refine ret_v hTG (Nat.le_refl _) (Nat.le_refl _) hx hb hr hlocks ((f)) hP0 hD0 hS0 [0] rfl (by decide) dX4_dropFirst_7 ?_
    simp [drF]
set_option maxHeartbeats 4000000 in
set_option maxRecDepth 100000 in
theorem c_X4_copyFrom (l : Launch) (D : va_G) (T : TI) (a : Nat) (b : Nat) (n : Nat) (f : Nat → Int32) (a2 : Nat) (b2 : Nat) (n2 : Nat) (f2 : Nat → Int32)  : CV l yX4_copyFrom cX4_copyFrom 2 (rmD 1 0 0) D T [.ref a, .ref a2] [tW T a b (nI n) f, tW T a2 b2 (nI n2) f2] 0 0 (β := Unit) (fun (_ : Unit) => [tW T a b (nI n2) (va_cpy f2 f 0 0 8), tW T a2 b2 (nI n2) f2]) (fun (_ : Unit) => True) := by
  intro sz
  refine met_rw (Qc := fun A => va_Qv _ (PST D _ A) A) rfl (Nat.le_of_ble_eq_true rfl) ?_
  intro pX eX sX mX bX mtX cX A hAe hC hA hP0 hD0 hS0 ls0 hl0 TG hTG
  clear hAe
  obtain ⟨hx, hb, hr, hml, hown, hts, hlocks, hin, hK⟩ := hC
  have hown : sX.vm.findClass RX4 = some mX.cls := hown
  have hl0 : lv_has ls0 2 [(0, .ref a), (1, .ref a2)] := hl0
  refine lv_aload_n hx hb dX4_copyFrom_0 rfl (lv_at hl0 1 rfl) ?_
  refine r_get (own := RX4) (C := RX4) (F := TX4) (N := 2) (ci := 4) (v := .ref b2) hx hb hK hts in_X4 hown hP0 2 rfl rfl 0 (by decide) kw_45 rfl dX4_copyFrom_1 ?_
  refine lv_iconst (v := nI 0) hx hb dX4_copyFrom_4 (by decide) ?_
  refine lv_aload_n hx hb dX4_copyFrom_5 rfl (lv_at hl0 0 rfl) ?_
  refine r_get (own := RX4) (C := RX4) (F := TX4) (N := 2) (ci := 4) (v := .ref b) hx hb hK hts in_X4 hown hP0 0 rfl rfl 0 (by decide) kw_45 rfl dX4_copyFrom_6 ?_
  refine lv_iconst (v := nI 0) hx hb dX4_copyFrom_9 (by decide) ?_
  refine lv_bipush (v := nI 8) hx hb dX4_copyFrom_10 (by decide) ?_
  refine r_copy hx hb (by rw [hml]; exact hl0.1.symm) hown (hts _ kw_279) (hts _ kw_37) (hts _ kw_36) (hts _ kw_4) hK hP0 hD0 hS0 3 1 0 (f := f2) (g := f) rfl rfl (ty := .int) rfl rfl 0 0 8 (by decide) (by decide) (by decide) (fun _ _ => rfl) (Nat.le_of_ble_eq_true rfl) (Nat.le_of_ble_eq_true rfl) dX4_copyFrom_12 (fun (H1 : Heap) (locs1 : List Loc) (hP1 : va_P D vwCl (fl [tW T a b (nI n) (va_cpy f2 f 0 0 8), tW T a2 b2 (nI n2) f2]) H1) (hD1 : va_D A (fl [tW T a b (nI n) (va_cpy f2 f 0 0 8), tW T a2 b2 (nI n2) f2])) hS1 => ?_)
  clear hP0 hD0 hS0
  refine lv_aload_n hx hb dX4_copyFrom_15 rfl (lv_at hl0 0 rfl) ?_
  refine lv_aload_n hx hb dX4_copyFrom_16 rfl (lv_at hl0 1 rfl) ?_
  refine r_get (own := RX4) (C := RX4) (F := TX4) (N := 2) (ci := 4) (v := .int (nI n2)) hx hb hK hts in_X4 hown hP1 2 rfl rfl 1 (by decide) kw_46 rfl dX4_copyFrom_17 ?_
  refine r_put (own := RX4) (C := RX4) (F := TX4) (N := 2) (ci := 4) (v := nI n2) hx hb hK hts in_X4 tyX4 tyX4_ok nmX4 hown hP1 hD1 hS1 0 rfl rfl 1 (by decide) kw_46 rfl rfl (Nat.le_of_ble_eq_true rfl) dX4_copyFrom_20 (fun (H2 : Heap) (locs2 : List Loc) (hP2 : va_P D vwCl (fl [tW T a b (nI n2) (va_cpy f2 f 0 0 8), tW T a2 b2 (nI n2) f2]) H2) (hD2 : va_D A (fl [tW T a b (nI n2) (va_cpy f2 f 0 0 8), tW T a2 b2 (nI n2) f2])) hS2 => ?_)
  clear hP1 hD1 hS1
  refine ret_v hTG (Nat.le_refl _) (Nat.le_refl _) hx hb hr hlocks (()) hP2 hD2 hS2 [0, 1] rfl (by decide) dX4_copyFrom_23 ?_
  first | rfl | trivial
