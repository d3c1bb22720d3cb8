set_option maxHeartbeats 4000000 in
set_option maxRecDepth 100000 in
theorem c_J7_fill_53178 (l : Launch) (D : va_G) (T : TI) (a : Nat) (n : Nat) (f : Nat → Int32) (v : Int32) (hn : n < 1000) : CV l yJ7_fill_53178 cJ7_fill_53178 4 (rmD 0 0 0) D T [.ref a, .int v] [aW T 0 a n f] 0 0 (β := Unit) (fun (_ : Unit) => [aW T 0 a n (fillF f n v)]) (fun (_ : Unit) => True) := by
  intro sz
  refine met_rw (Qc := fun A => va_Qv _ (PST D _ A) A) rfl (Nat.le_of_ble_eq_true rfl) ?_
  intro pX eX sX mX bX mtX cX A hAe hC hA hP0 hD0 hS0 ls0 hl0 TG hTG
  clear hAe
  obtain ⟨hx, hb, hr, hml, hown, hts, hlocks, hin, hK⟩ := hC
  have hown : sX.vm.findClass RJ7 = some mX.cls := hown
  have hl0 : lv_has ls0 4 [(0, .ref a), (1, .int v)] := hl0
  refine lv_iconst (v := nI 0) hx hb dJ7_fill_53178_0 (by decide) ?_
  refine lv_istore_n (lv' := [(2, .int (nI 0)), (0, .ref a), (1, .int v)]) hx hb dJ7_fill_53178_1 rfl hl0 (by decide) rfl (fun ls1 hl1 => ?_)
  clear hl0
  refine lv_aload_n hx hb dJ7_fill_53178_2 rfl (lv_at hl1 1 rfl) ?_
  refine r_alen hx hb hK hP0 0 rfl dJ7_fill_53178_3 ?_
  refine lv_istore_n (lv' := [(3, .int (nI n)), (2, .int (nI 0)), (0, .ref a), (1, .int v)]) hx hb dJ7_fill_53178_4 rfl hl1 (by decide) rfl (fun ls2 hl2 => ?_)
  clear hl1
  have loop5 : ∀ (n_ : Nat) (i : Nat) (g : Nat → Int32), (i ≤ n) → (g = fillF f i v) → (n - i) < n_ → ∀ (H : Heap) (locs : List Loc), va_P D vwCl (fl [aW T 0 a n g]) H → va_D A (fl [aW T 0 a n g]) → va_S A sX.heap H locs → ∀ ls : Array Slot, lv_has ls 4 [(0, .ref a), (1, .int v), (2, .int (nI i)), (3, .int (nI n))] → W pX l eX (rmD 0 0 0) sX mX ([.ref a, .int v] : List Value).toArray bX mtX cX H locs 0 0 TG (F0 mX 5 ls []) := by
    intro n_
    induction n_ with
    | zero => intro i g hi hg hmu_ ; exact absurd hmu_ (Nat.not_lt_zero _)
    | succ n_ ih5 =>
      intro i g hi hg hmu_5 H4 locs4 hP4 hD4 hS4 ls4 hl4
      refine lv_iload_n hx hb dJ7_fill_53178_5 rfl (lv_at hl4 2 rfl) ?_
      refine lv_iload_n hx hb dJ7_fill_53178_6 rfl (lv_at hl4 3 rfl) ?_
      refine n_icmp_ge (tgt := 20) hx hb (by omega) (by omega) dJ7_fill_53178_7 (by decide) (fun c_7 => ?_) (fun c_7 => ?_)
      · skip
        have hi2 : n = i := by omega
        subst hi2
        subst hg
        refine ret_v hTG (Nat.le_refl _) (Nat.le_refl _) hx hb hr hlocks (()) hP4 hD4 hS4 [0] rfl (by decide) dJ7_fill_53178_20 ?_
        first | rfl | trivial
      · skip
        refine lv_aload_n hx hb dJ7_fill_53178_10 rfl (lv_at hl4 0 rfl) ?_
        refine lv_iload_n hx hb dJ7_fill_53178_11 rfl (lv_at hl4 2 rfl) ?_
        refine lv_iload_n hx hb dJ7_fill_53178_12 rfl (lv_at hl4 1 rfl) ?_
        refine r_iast hx hb hK hP4 hD4 hS4 0 (f := g) (n := n) rfl i (by omega) dJ7_fill_53178_13 (by omega) (fun (H6 : Heap) (locs6 : List Loc) (hP6 : va_P D vwCl (fl [aW T 0 a n (upd g i v)]) H6) (hD6 : va_D A (fl [aW T 0 a n (upd g i v)])) hS6 => ?_)
        clear hP4 hD4 hS4
        refine lv_iinc (v := nI (i + 1)) (lv' := [(2, .int (nI (i + 1))), (0, .ref a), (1, .int v), (3, .int (nI n))]) hx hb dJ7_fill_53178_14 hl4 (k := 2) rfl (nI_add i 1) (by decide) rfl (fun ls7 hl7 => ?_)
        clear hl4
        refine lv_goto (tgt := 5) hx hb dJ7_fill_53178_17 (by decide) ?_
        exact ih5 (i + 1) (upd g i v) (by omega) (by rw [hg, fillF_succ]) (by omega) _ _ hP6 hD6 hS6 _ (lv_sub hl7 [1, 2, 0, 3] rfl)
  exact loop5 ((n - 0) + 1) 0 f (by omega) ((fillF_0 f v).symm) (Nat.lt_succ_self _) _ _ hP0 hD0 hS0 _ (lv_sub hl2 [2, 3, 1, 0] rfl)
set_option maxHeartbeats 4000000 in
set_option maxRecDepth 100000 in
theorem c_X5_sum (l : Launch) (D : va_G) (T : TI) (a : Nat) (f : Nat → Int32)  : OI l yX5_sum cX5_sum 6 .int (rmD 0 0 0) D T [.ref a] [aW T 0 a 12 f] (fun r => r = sumF f 12) := by
  refine met_ro rfl (Nat.le_of_ble_eq_true rfl) ?_
  intro pX eX sX mX bX mtX cX hC hP0 hS0 ls0 hl0 TG hTG
  obtain ⟨hx, hb, hr, hml, hown, hts, hlocks, hin, hK⟩ := hC
  have hown : sX.vm.findClass RX5 = some mX.cls := hown
  have hl0 : lv_has ls0 6 [(0, .ref a)] := hl0
  refine lv_iconst (v := nI 0) hx hb dX5_sum_0 (by decide) ?_
  refine lv_istore_n (lv' := [(1, .int (nI 0)), (0, .ref a)]) hx hb dX5_sum_1 rfl hl0 (by decide) rfl (fun ls1 hl1 => ?_)
  clear hl0
  refine lv_aload_n hx hb dX5_sum_2 rfl (lv_at hl1 1 rfl) ?_
  refine lv_astore_n (lv' := [(2, .ref a), (1, .int (nI 0)), (0, .ref a)]) hx hb dX5_sum_3 rfl hl1 (by decide) rfl (fun ls2 hl2 => ?_)
  clear hl1
  refine lv_aload_n hx hb dX5_sum_4 rfl (lv_at hl2 0 rfl) ?_
  refine r_alen hx hb hK hP0 0 rfl dX5_sum_5 ?_
  refine lv_istore_n (lv' := [(3, .int (nI 12)), (2, .ref a), (1, .int (nI 0)), (0, .ref a)]) hx hb dX5_sum_6 rfl hl2 (by decide) rfl (fun ls3 hl3 => ?_)
  clear hl2
  refine lv_iconst (v := nI 0) hx hb dX5_sum_7 (by decide) ?_
  refine lv_istore (lv' := [(4, .int (nI 0)), (3, .int (nI 12)), (2, .ref a), (1, .int (nI 0)), (0, .ref a)]) hx hb dX5_sum_8 hl3 (by decide) rfl (fun ls4 hl4 => ?_)
  clear hl3
  have loop10 : ∀ (n_ : Nat) (i : Nat), (i ≤ 12) → (12 - i) < n_ → ∀ (H : Heap) (locs : List Loc), va_P D vwCl (fl [aW T 0 a 12 f]) H → va_S NO sX.heap H locs → ∀ ls : Array Slot, lv_has ls 6 [(0, .ref a), (1, .int (sumF f i)), (2, .ref a), (3, .int (nI 12)), (4, .int (nI i))] → W pX l eX (rmD 0 0 0) sX mX ([.ref a] : List Value).toArray bX mtX cX H locs 0 0 TG (F0 mX 10 ls []) := by
    intro n_
    induction n_ with
    | zero => intro i hi hmu_ ; exact absurd hmu_ (Nat.not_lt_zero _)
    | succ n_ ih10 =>
      intro i hi hmu_10 H6 locs6 hP6  hS6 ls6 hl6
      refine lv_iload hx hb dX5_sum_10 (lv_at hl6 4 rfl) ?_
      refine lv_iload_n hx hb dX5_sum_12 rfl (lv_at hl6 3 rfl) ?_
      refine n_icmp_ge (tgt := 33) hx hb (by omega) (by omega) dX5_sum_13 (by decide) (fun c_13 => ?_) (fun c_13 => ?_)
      · skip
        have hi2 : i = 12 := by omega
        subst hi2
        refine lv_iload_n hx hb dX5_sum_33 rfl (lv_at hl6 1 rfl) ?_
        refine ro_i hTG (Nat.le_refl _) (Nat.le_refl _) hx hb hr hlocks hS6 dX5_sum_34 ?_
        first | rfl | trivial
      · skip
        refine lv_aload_n hx hb dX5_sum_16 rfl (lv_at hl6 2 rfl) ?_
        refine lv_iload hx hb dX5_sum_17 (lv_at hl6 4 rfl) ?_
        refine r_iald hx hb hK hP6 0 (f := f) (n := 12) rfl i (by decide) dX5_sum_19 (by omega) ?_
        refine lv_istore (lv' := [(5, .int (f i)), (0, .ref a), (1, .int (sumF f i)), (2, .ref a), (3, .int (nI 12)), (4, .int (nI i))]) hx hb dX5_sum_20 hl6 (by decide) rfl (fun ls8 hl8 => ?_)
        clear hl6
        refine lv_iload_n hx hb dX5_sum_22 rfl (lv_at hl8 2 rfl) ?_
        refine lv_iload hx hb dX5_sum_23 (lv_at hl8 0 rfl) ?_
        refine lv_iadd hx hb dX5_sum_25 ?_
        refine lv_istore_n (lv' := [(1, .int ((sumF f i) + (f i))), (5, .int (f i)), (0, .ref a), (2, .ref a), (3, .int (nI 12)), (4, .int (nI i))]) hx hb dX5_sum_26 rfl hl8 (by decide) rfl (fun ls9 hl9 => ?_)
        clear hl8
        refine lv_iinc (v := nI (i + 1)) (lv' := [(4, .int (nI (i + 1))), (1, .int ((sumF f i) + (f i))), (5, .int (f i)), (0, .ref a), (2, .ref a), (3, .int (nI 12))]) hx hb dX5_sum_27 hl9 (k := 5) rfl (nI_add i 1) (by decide) rfl (fun ls10 hl10 => ?_)
        clear hl9
        refine lv_goto (tgt := 10) hx hb dX5_sum_30 (by decide) ?_
        exact ih10 (i + 1) (by omega) (by omega) _ _ hP6  hS6 _ (lv_sub hl10 [3, 1, 4, 5, 0] rfl)
  exact loop10 ((12 - 0) + 1) 0 (by omega) (Nat.lt_succ_self _) _ _ hP0  hS0 _ (lv_sub hl4 [4, 3, 2, 1, 0] rfl)
set_option maxHeartbeats 4000000 in
set_option maxRecDepth 100000 in
theorem c_X1_shutAll (l : Launch) (D : va_G) (T : TI) (qh : Nat → Nat) (wk : Nat → Int32) (dr : Nat → Int32) (re : Nat → Int32)  : CV l yX1_shutAll cX1_shutAll 1 (rmD 1 0 0) D T [.ref (qh 0)] [hO qh, aW T 0 (qh 1) 12 wk, aW T 0 (qh 2) 3 dr, aW T 0 (qh 3) 3 re] 0 0 (β := Unit) (fun (_ : Unit) => [hO qh, aW T 0 (qh 1) 12 (fillF wk 12 (-1)), aW T 0 (qh 2) 3 (fillF dr 3 (nI 0)), aW T 0 (qh 3) 3 re]) (fun (_ : Unit) => True) := by
  intro sz
  refine met_rw (Qc := fun A => va_Qv _ (PST D _ A) A) rfl (Nat.le_of_ble_eq_true rfl) ?_
  intro pX eX sX mX bX mtX cX A hAe hC hA hP0 hD0 hS0 ls0 hl0 TG hTG
  clear hAe
  obtain ⟨hx, hb, hr, hml, hown, hts, hlocks, hin, hK⟩ := hC
  have hown : sX.vm.findClass RX1 = some mX.cls := hown
  have hl0 : lv_has ls0 1 [(0, .ref (qh 0))] := hl0
  refine lv_aload_n hx hb dX1_shutAll_0 rfl (lv_at hl0 0 rfl) ?_
  refine r_get (own := RX1) (C := RX1) (F := TX1) (N := 3) (ci := 1) (v := .ref (qh 1)) hx hb hK hts in_X1 hown hP0 0 rfl rfl 0 (by decide) kw_124 rfl dX1_shutAll_1 ?_
  refine lv_iconst (v := (-1)) hx hb dX1_shutAll_4 (by decide) ?_
  have hPc1 : va_P D vwCl (fl [aW T 0 (qh 1) 12 wk]) _ := flP_sub hP0 [1] rfl
  have hDc1 : va_D A (fl [aW T 0 (qh 1) 12 wk]) := flD_sub hD0 [1] (by decide) rfl
  refine cl_v (br := [hO qh, aW T 0 (qh 2) 3 dr, aW T 0 (qh 3) 3 re]) (va_runS (As := [.ref (qh 1), .int (-1)]) (rest := []) ⟨hx, hb, hml, hown, hts⟩ (c_J7_fill_53178 l D T (qh 1) 12 wk (-1) (by omega) _) (mkS hts okJ7_fill_53178 kw_299 kw_31 ⟨rfl, rfl, Nat.le_of_ble_eq_true rfl, Nat.le_of_ble_eq_true rfl⟩) (ps_rw hK hPc1 hDc1) rfl rfl hl0.1 rfl (lv_room (Nat.le_of_ble_eq_true rfl)) dX1_shutAll_5 ⟨Nat.le_of_ble_eq_true rfl, Nat.le_of_ble_eq_true rfl⟩) hP0 hD0 hS0 hA [0, 2, 3] [1] rfl (by decide) (fun _u2 H2 locs2 hq_5 hP2 hD2 hS2 => ?_)
  clear hP0 hD0 hS0 hPc1 hDc1
  have hP2 : va_P D vwCl (fl [hO qh, aW T 0 (qh 2) 3 dr, aW T 0 (qh 3) 3 re, aW T 0 (qh 1) 12 (fillF wk 12 (-1))]) _ := hP2
  have hD2 : va_D A (fl [hO qh, aW T 0 (qh 2) 3 dr, aW T 0 (qh 3) 3 re, aW T 0 (qh 1) 12 (fillF wk 12 (-1))]) := hD2
  have hq_5 : True := hq_5
  refine lv_aload_n hx hb dX1_shutAll_8 rfl (lv_at hl0 0 rfl) ?_
  refine r_get (own := RX1) (C := RX1) (F := TX1) (N := 3) (ci := 1) (v := .ref (qh 2)) hx hb hK hts in_X1 hown hP2 0 rfl rfl 1 (by decide) kw_125 rfl dX1_shutAll_9 ?_
  refine lv_iconst (v := nI 0) hx hb dX1_shutAll_12 (by decide) ?_
  have hPc3 : va_P D vwCl (fl [aW T 0 (qh 2) 3 dr]) _ := flP_sub hP2 [1] rfl
  have hDc3 : va_D A (fl [aW T 0 (qh 2) 3 dr]) := flD_sub hD2 [1] (by decide) rfl
  refine cl_v (br := [hO qh, aW T 0 (qh 3) 3 re, aW T 0 (qh 1) 12 (fillF wk 12 (-1))]) (va_runS (As := [.ref (qh 2), .int (nI 0)]) (rest := []) ⟨hx, hb, hml, hown, hts⟩ (c_J7_fill_53178 l D T (qh 2) 3 dr (nI 0) (by omega) _) (mkS hts okJ7_fill_53178 kw_299 kw_31 ⟨rfl, rfl, Nat.le_of_ble_eq_true rfl, Nat.le_of_ble_eq_true rfl⟩) (ps_rw hK hPc3 hDc3) rfl rfl hl0.1 rfl (lv_room (Nat.le_of_ble_eq_true rfl)) dX1_shutAll_13 ⟨Nat.le_of_ble_eq_true rfl, Nat.le_of_ble_eq_true rfl⟩) hP2 hD2 hS2 hA [0, 2, 3] [1] rfl (by decide) (fun _u4 H4 locs4 hq_13 hP4 hD4 hS4 => ?_)
  clear hP2 hD2 hS2 hPc3 hDc3
  have hP4 : va_P D vwCl (fl [hO qh, aW T 0 (qh 3) 3 re, aW T 0 (qh 1) 12 (fillF wk 12 (-1)), aW T 0 (qh 2) 3 (fillF dr 3 (nI 0))]) _ := hP4
  have hD4 : va_D A (fl [hO qh, aW T 0 (qh 3) 3 re, aW T 0 (qh 1) 12 (fillF wk 12 (-1)), aW T 0 (qh 2) 3 (fillF dr 3 (nI 0))]) := hD4
  have hq_13 : True := hq_13
  refine ret_v hTG (Nat.le_refl _) (Nat.le_refl _) hx hb hr hlocks (()) hP4 hD4 hS4 [0, 2, 3, 1] rfl (by decide) dX1_shutAll_16 ?_
  first | rfl | trivial
set_option maxHeartbeats 4000000 in
set_option maxRecDepth 100000 in
theorem c_X1_reasonToWait (l : Launch) (D : va_G) (T : TI) (qh : Nat → Nat) (wk : Nat → Int32) (dr : Nat → Int32) (re : Nat → Int32) (q : Nat → Nat) (c : Nat → Nat → Int32) (s : Nat) (hs : s < 12) : CI l yX1_reasonToWait cX1_reasonToWait 6 .int (rmD 1 0 0) D T [.ref (qh 0), .ref (q 0), .int (nI s)] [hO qh, aW T 0 (qh 1) 12 wk, aW T 0 (qh 2) 3 dr, aW T 0 (qh 3) 3 re, sW T q c] 0 0 (β := Nat → Int32) (fun (dr2 : Nat → Int32) => [hO qh, aW T 0 (qh 1) 12 wk, aW T 0 (qh 2) 3 dr2, aW T 0 (qh 3) 3 re, sW T q c]) (fun (r : Int32) (dr2 : Nat → Int32) => r = rsnC c wk dr s ∧ (dr = dr2)) := by
  intro sz
  refine met_rw (Qc := fun A => va_Qi _ (PST D _ A) A) rfl (Nat.le_of_ble_eq_true rfl) ?_
  intro pX eX sX mX bX mtX cX A hAe hC hA hP0 hD0 hS0 ls0 hl0 TG hTG
  clear hAe
  obtain ⟨hx, hb, hr, hml, hown, hts, hlocks, hin, hK⟩ := hC
  have hown : sX.vm.findClass RX1 = some mX.cls := hown
  have hl0 : lv_has ls0 6 [(0, .ref (qh 0)), (1, .ref (q 0)), (2, .int (nI s))] := hl0
  refine lv_aload_n hx hb dX1_reasonToWait_0 rfl (lv_at hl0 0 rfl) ?_
  refine r_get (own := RX1) (C := RX1) (F := TX1) (N := 3) (ci := 1) (v := .ref (qh 1)) hx hb hK hts in_X1 hown hP0 0 rfl rfl 0 (by decide) kw_124 rfl dX1_reasonToWait_1 ?_
  refine lv_iload_n hx hb dX1_reasonToWait_4 rfl (lv_at hl0 2 rfl) ?_
  refine r_iald hx hb hK hP0 1 (f := wk) (n := 12) rfl s (by decide) dX1_reasonToWait_5 (by omega) ?_
  refine lv_iconst (v := (-1)) hx hb dX1_reasonToWait_6 (by decide) ?_
  refine lv_icmp_eq (tgt := 12) hx hb dX1_reasonToWait_7 (by decide) (fun c_7 => ?_) (fun c_7 => ?_)
  · skip
    refine lv_iload_n hx hb dX1_reasonToWait_12 rfl (lv_at hl0 2 rfl) ?_
    refine lv_iconst (v := nI 4) hx hb dX1_reasonToWait_13 (by decide) ?_
    refine lv_idiv hx hb dX1_reasonToWait_14 (by decide) ?_
    refine tp_i (y := nI (s / 4)) (pk_div (by omega) (by omega) (by omega)) ?_
    refine lv_istore_n (lv' := [(3, .int (nI (s / 4))), (0, .ref (qh 0)), (1, .ref (q 0)), (2, .int (nI s))]) hx hb dX1_reasonToWait_15 rfl hl0 (by decide) rfl (fun ls2 hl2 => ?_)
    clear hl0
    refine lv_aload_n hx hb dX1_reasonToWait_16 rfl (lv_at hl2 1 rfl) ?_
    refine r_get (own := RX1) (C := RX1) (F := TX1) (N := 3) (ci := 1) (v := .ref (qh 2)) hx hb hK hts in_X1 hown hP0 0 rfl rfl 1 (by decide) kw_125 rfl dX1_reasonToWait_17 ?_
    refine lv_iload_n hx hb dX1_reasonToWait_20 rfl (lv_at hl2 0 rfl) ?_
    refine lv_dup2_11 hx hb dX1_reasonToWait_21 rfl rfl ?_
    refine r_iald hx hb hK hP0 2 (f := dr) (n := 3) rfl (s / 4) (by decide) dX1_reasonToWait_22 (by omega) ?_
    refine lv_aload_n hx hb dX1_reasonToWait_23 rfl (lv_at hl2 2 rfl) ?_
    refine r_getN (own := RX1) (C := RX3) (F := TX3) (N := 13) (ci := 3) (v := .ref (q 5)) hx hb hK hts in_X3 hown hP0 4 rfl rfl 4 (by decide) kn_10 rfl dX1_reasonToWait_24 ?_
    refine lv_iload_n hx hb dX1_reasonToWait_27 rfl (lv_at hl2 3 rfl) ?_
    refine r_iald hx hb hK hP0 9 (f := (c 4)) (n := 12) rfl s (by decide) dX1_reasonToWait_28 (by omega) ?_
    refine lv_iadd hx hb dX1_reasonToWait_29 ?_
    refine r_iast hx hb hK hP0 hD0 hS0 2 (f := dr) (n := 3) rfl (s / 4) (by decide) dX1_reasonToWait_30 (by omega) (fun (H3 : Heap) (locs3 : List Loc) (hP3 : va_P D vwCl (fl [hO qh, aW T 0 (qh 1) 12 wk, aW T 0 (qh 2) 3 (upd dr (s / 4) ((dr (s / 4)) + (c 4 s))), aW T 0 (qh 3) 3 re, sW T q c]) H3) (hD3 : va_D A (fl [hO qh, aW T 0 (qh 1) 12 wk, aW T 0 (qh 2) 3 (upd dr (s / 4) ((dr (s / 4)) + (c 4 s))), aW T 0 (qh 3) 3 re, sW T q c])) hS3 => ?_)
    clear hP0 hD0 hS0
    refine lv_aload_n hx hb dX1_reasonToWait_31 rfl (lv_at hl2 2 rfl) ?_
    refine lv_iload_n hx hb dX1_reasonToWait_32 rfl (lv_at hl2 3 rfl) ?_
    refine lv_aload_n hx hb dX1_reasonToWait_33 rfl (lv_at hl2 1 rfl) ?_
    refine r_get (own := RX1) (C := RX1) (F := TX1) (N := 3) (ci := 1) (v := .ref (qh 2)) hx hb hK hts in_X1 hown hP3 0 rfl rfl 1 (by decide) kw_125 rfl dX1_reasonToWait_34 ?_
    have hPc4 : va_P D vwCl (fl [sW T q c, aW T 0 (qh 2) 3 (upd dr (s / 4) ((dr (s / 4)) + (c 4 s)))]) _ := hP3.sub [4, 5, 6, 7, 8, 9, 10, 11, 12, 13, 14, 2] rfl
    refine cr_i (va_runV (As := [.int (nI s), .ref (qh 2)]) (rest := []) ⟨hx, hb, hml, hown, hts⟩ (c_X3_pressureAt l D T q c s (qh 2) (upd dr (s / 4) ((dr (s / 4)) + (c 4 s))) (by omega)) (mkV hts okX3_pressureAt kw_308 kw_309 kw_310 ⟨rfl, rfl, Nat.le_of_ble_eq_true rfl, Nat.le_of_ble_eq_true rfl⟩) (pv_ro hK hPc4 (q0 := 0) rfl rfl rfl) rfl rfl hl2.1 rfl (lv_room (Nat.le_of_ble_eq_true rfl)) dX1_reasonToWait_37 ⟨Nat.le_of_ble_eq_true rfl, Nat.le_of_ble_eq_true rfl⟩) hP3 hS3 (fun r_37 H5 locs5 hq_37 hP5 hS5 => ?_)
    clear hP3 hS3 hPc4
    have hD5 := hD3
    clear hD3
    have hq_37 : r_37 = prC c (upd dr (s / 4) ((dr (s / 4)) + (c 4 s))) s := hq_37
    subst hq_37
    refine lv_istore (lv' := [(4, .int (prC c (upd dr (s / 4) ((dr (s / 4)) + (c 4 s))) s)), (3, .int (nI (s / 4))), (0, .ref (qh 0)), (1, .ref (q 0)), (2, .int (nI s))]) hx hb dX1_reasonToWait_40 hl2 (by decide) rfl (fun ls6 hl6 => ?_)
    clear hl2
    refine lv_aload_n hx hb dX1_reasonToWait_42 rfl (lv_at hl6 2 rfl) ?_
    refine r_get (own := RX1) (C := RX1) (F := TX1) (N := 3) (ci := 1) (v := .ref (qh 2)) hx hb hK hts in_X1 hown hP5 0 rfl rfl 1 (by decide) kw_125 rfl dX1_reasonToWait_43 ?_
    refine lv_iload_n hx hb dX1_reasonToWait_46 rfl (lv_at hl6 1 rfl) ?_
    refine lv_dup2_11 hx hb dX1_reasonToWait_47 rfl rfl ?_
    refine r_iald hx hb hK hP5 2 (f := (upd dr (s / 4) ((dr (s / 4)) + (c 4 s)))) (n := 3) rfl (s / 4) (by decide) dX1_reasonToWait_48 (by omega) ?_
    refine lv_aload_n hx hb dX1_reasonToWait_49 rfl (lv_at hl6 3 rfl) ?_
    refine r_getN (own := RX1) (C := RX3) (F := TX3) (N := 13) (ci := 3) (v := .ref (q 5)) hx hb hK hts in_X3 hown hP5 4 rfl rfl 4 (by decide) kn_10 rfl dX1_reasonToWait_50 ?_
    refine lv_iload_n hx hb dX1_reasonToWait_53 rfl (lv_at hl6 4 rfl) ?_
    refine r_iald hx hb hK hP5 9 (f := (c 4)) (n := 12) rfl s (by decide) dX1_reasonToWait_54 (by omega) ?_
    refine lv_isub hx hb dX1_reasonToWait_55 ?_
    refine r_iast hx hb hK hP5 hD5 hS5 2 (f := (upd dr (s / 4) ((dr (s / 4)) + (c 4 s)))) (n := 3) rfl (s / 4) (by decide) dX1_reasonToWait_56 (by omega) (fun (H7 : Heap) (locs7 : List Loc) (hP7 : va_P D vwCl (fl [hO qh, aW T 0 (qh 1) 12 wk, aW T 0 (qh 2) 3 (upd (upd dr (s / 4) ((dr (s / 4)) + (c 4 s))) (s / 4) (((upd dr (s / 4) ((dr (s / 4)) + (c 4 s))) (s / 4)) - (c 4 s))), aW T 0 (qh 3) 3 re, sW T q c]) H7) (hD7 : va_D A (fl [hO qh, aW T 0 (qh 1) 12 wk, aW T 0 (qh 2) 3 (upd (upd dr (s / 4) ((dr (s / 4)) + (c 4 s))) (s / 4) (((upd dr (s / 4) ((dr (s / 4)) + (c 4 s))) (s / 4)) - (c 4 s))), aW T 0 (qh 3) 3 re, sW T q c])) hS7 => ?_)
    clear hP5 hD5 hS5
    refine lv_iload hx hb dX1_reasonToWait_57 (lv_at hl6 0 rfl) ?_
    refine lv_aload_n hx hb dX1_reasonToWait_59 rfl (lv_at hl6 3 rfl) ?_
    refine r_getN (own := RX1) (C := RX3) (F := TX3) (N := 13) (ci := 3) (v := .ref (q 3)) hx hb hK hts in_X3 hown hP7 4 rfl rfl 2 (by decide) kn_5 rfl dX1_reasonToWait_60 ?_
    refine lv_iconst (v := nI 1) hx hb dX1_reasonToWait_63 (by decide) ?_
    refine r_iald hx hb hK hP7 7 (f := (c 2)) (n := 4) rfl 1 (by decide) dX1_reasonToWait_64 (by decide) ?_
    refine lv_icmp_ge (tgt := 70) hx hb dX1_reasonToWait_65 (by decide) (fun c_65 => ?_) (fun c_65 => ?_)
    · skip
      refine lv_aload_n hx hb dX1_reasonToWait_70 rfl (lv_at hl6 3 rfl) ?_
      refine lv_iload_n hx hb dX1_reasonToWait_71 rfl (lv_at hl6 4 rfl) ?_
      have hPc9 : va_P D vwCl (fl [sW T q c]) _ := hP7.sub [4, 5, 6, 7, 8, 9, 10, 11, 12, 13, 14] rfl
      refine cr_i (va_runV (As := [.int (nI s)]) (rest := []) ⟨hx, hb, hml, hown, hts⟩ (c_X3_sourceOf l D T q c s (by omega)) (mkV hts okX3_sourceOf kw_312 kw_313 kw_314 ⟨rfl, rfl, Nat.le_of_ble_eq_true rfl, Nat.le_of_ble_eq_true rfl⟩) (pv_ro hK hPc9 (q0 := 0) rfl rfl rfl) rfl rfl hl6.1 rfl (lv_room (Nat.le_of_ble_eq_true rfl)) dX1_reasonToWait_72 ⟨Nat.le_of_ble_eq_true rfl, Nat.le_of_ble_eq_true rfl⟩) hP7 hS7 (fun r_72 H10 locs10 hq_72 hP10 hS10 => ?_)
      clear hP7 hS7 hPc9
      have hD10 := hD7
      clear hD7
      have hq_72 : r_72 = srcI c s := hq_72
      subst hq_72
      rcases srcI_or c s with hs1 | ⟨hs1, hs0⟩
      · rw [hs1]
        refine lv_istore (lv' := [(5, .int (-1)), (4, .int (prC c (upd dr (s / 4) ((dr (s / 4)) + (c 4 s))) s)), (3, .int (nI (s / 4))), (0, .ref (qh 0)), (1, .ref (q 0)), (2, .int (nI s))]) hx hb dX1_reasonToWait_75 hl6 (by decide) rfl (fun ls11 hl11 => ?_)
        clear hl6
        refine lv_iload hx hb dX1_reasonToWait_77 (lv_at hl11 0 rfl) ?_
        refine lv_if_lt (tgt := 95) hx hb dX1_reasonToWait_79 (by decide) (fun c12 => ?_) (fun c12 => absurd (by decide) c12)
        refine lv_iconst (v := nI 0) hx hb dX1_reasonToWait_95 (by decide) ?_
        refine ret_i hTG (Nat.le_refl _) (Nat.le_refl _) hx hb hr hlocks ((upd (upd dr (s / 4) ((dr (s / 4)) + (c 4 s))) (s / 4) (((upd dr (s / 4) ((dr (s / 4)) + (c 4 s))) (s / 4)) - (c 4 s)))) hP10 hD10 hS10 [0, 1, 2, 3, 4] rfl (by decide) dX1_reasonToWait_96 ?_
        exact ⟨by simp only [rsnC, hs1, c_7, c_65, if_true, nI_nm1 (show s - 1 < 2147483648 by omega), ↓reduceIte, Bool.false_eq_true], by funext k; unfold upd; split <;> simp_all⟩
      · rw [hs1]
        refine lv_istore (lv' := [(5, .int (nI (s - 1))), (4, .int (prC c (upd dr (s / 4) ((dr (s / 4)) + (c 4 s))) s)), (3, .int (nI (s / 4))), (0, .ref (qh 0)), (1, .ref (q 0)), (2, .int (nI s))]) hx hb dX1_reasonToWait_75 hl6 (by decide) rfl (fun ls13 hl13 => ?_)
        clear hl6
        refine lv_iload hx hb dX1_reasonToWait_77 (lv_at hl13 0 rfl) ?_
        refine n_if_lt hx hb (by omega) dX1_reasonToWait_79 95 (by decide) ?_
        refine lv_aload_n hx hb dX1_reasonToWait_82 rfl (lv_at hl13 4 rfl) ?_
        refine lv_iload hx hb dX1_reasonToWait_83 (lv_at hl13 0 rfl) ?_
        have hPc14 : va_P D vwCl (fl [sW T q c]) _ := hP10.sub [4, 5, 6, 7, 8, 9, 10, 11, 12, 13, 14] rfl
        refine cr_i (va_runV (As := [.int (nI (s - 1))]) (rest := []) ⟨hx, hb, hml, hown, hts⟩ (c_X3_isBrown l D T q c (s - 1) (by omega)) (mkV hts okX3_isBrown kw_316 kw_317 kw_318 ⟨rfl, rfl, Nat.le_of_ble_eq_true rfl, Nat.le_of_ble_eq_true rfl⟩) (pv_ro hK hPc14 (q0 := 0) rfl rfl rfl) rfl rfl hl13.1 rfl (lv_room (Nat.le_of_ble_eq_true rfl)) dX1_reasonToWait_85 ⟨Nat.le_of_ble_eq_true rfl, Nat.le_of_ble_eq_true rfl⟩) hP10 hS10 (fun r_85 H15 locs15 hq_85 hP15 hS15 => ?_)
        clear hP10 hS10 hPc14
        have hD15 := hD10
        clear hD10
        have hq_85 : r_85 = bI (brB c (s - 1)) := hq_85
        subst hq_85
        refine z_if_eq (tgt := 95) hx hb dX1_reasonToWait_88 (by decide) (fun c_88 => ?_) (fun c_88 => ?_)
        · skip
          refine lv_iconst (v := nI 0) hx hb dX1_reasonToWait_95 (by decide) ?_
          refine ret_i hTG (Nat.le_refl _) (Nat.le_refl _) hx hb hr hlocks ((upd (upd dr (s / 4) ((dr (s / 4)) + (c 4 s))) (s / 4) (((upd dr (s / 4) ((dr (s / 4)) + (c 4 s))) (s / 4)) - (c 4 s)))) hP15 hD15 hS15 [0, 1, 2, 3, 4] rfl (by decide) dX1_reasonToWait_96 ?_
          exact ⟨by simp only [rsnC, hs1, c_7, c_65, c_88, if_true, nI_nm1 (show s - 1 < 2147483648 by omega), ↓reduceIte, Bool.false_eq_true], by funext k; unfold upd; split <;> simp_all⟩
        · skip
          refine lv_iconst (v := nI 3) hx hb dX1_reasonToWait_91 (by decide) ?_
          refine lv_goto (tgt := 96) hx hb dX1_reasonToWait_92 (by decide) ?_
          refine ret_i hTG (Nat.le_refl _) (Nat.le_refl _) hx hb hr hlocks ((upd (upd dr (s / 4) ((dr (s / 4)) + (c 4 s))) (s / 4) (((upd dr (s / 4) ((dr (s / 4)) + (c 4 s))) (s / 4)) - (c 4 s)))) hP15 hD15 hS15 [0, 1, 2, 3, 4] rfl (by decide) dX1_reasonToWait_96 ?_
          exact ⟨by simp only [rsnC, hs1, c_7, c_65, c_88, if_true, nI_nm1 (show s - 1 < 2147483648 by omega), ↓reduceIte, Bool.false_eq_true], by funext k; unfold upd; split <;> simp_all⟩
    · skip
      refine lv_iconst (v := nI 2) hx hb dX1_reasonToWait_68 (by decide) ?_
      refine ret_i hTG (Nat.le_refl _) (Nat.le_refl _) hx hb hr hlocks ((upd (upd dr (s / 4) ((dr (s / 4)) + (c 4 s))) (s / 4) (((upd dr (s / 4) ((dr (s / 4)) + (c 4 s))) (s / 4)) - (c 4 s)))) hP7 hD7 hS7 [0, 1, 2, 3, 4] rfl (by decide) dX1_reasonToWait_69 ?_
      exact ⟨by simp only [rsnC, c_7, c_65, if_true, ↓reduceIte], by funext k; unfold upd; split <;> simp_all⟩
  · skip
    refine lv_iconst (v := nI 1) hx hb dX1_reasonToWait_10 (by decide) ?_
    refine ret_i hTG (Nat.le_refl _) (Nat.le_refl _) hx hb hr hlocks ((dr)) hP0 hD0 hS0 [0, 1, 2, 3, 4] rfl (by decide) dX1_reasonToWait_11 ?_
    exact ⟨by simp only [rsnC, c_7, if_true, ↓reduceIte], rfl⟩
set_option maxHeartbeats 4000000 in
set_option maxRecDepth 100000 in
theorem c_X1_openHydrants (l : Launch) (D : va_G) (T : TI) (qh : Nat → Nat) (wk : Nat → Int32) (dr : Nat → Int32) (re : Nat → Int32) (q : Nat → Nat) (c : Nat → Nat → Int32) (L : Nat → Nat) (hT : okT c L) : CV l yX1_openHydrants cX1_openHydrants 4 (rmD 2 0 0) D T [.ref (qh 0), .ref (q 0)] [hO qh, aW T 0 (qh 1) 12 wk, aW T 0 (qh 2) 3 dr, aW T 0 (qh 3) 3 re, sW T q c, tW T (q 11) (q 12) (nI (L 0)) (c 9), tW T (q 13) (q 14) (nI (L 1)) (c 10), tW T (q 15) (q 16) (nI (L 2)) (c 11)] 0 0 (β := (Nat → Int32) × (Nat → Int32) × (Nat → Int32)) (fun ⟨wk2, dr2, re2⟩ => [hO qh, aW T 0 (qh 1) 12 wk2, aW T 0 (qh 2) 3 dr2, aW T 0 (qh 3) 3 re2, sW T q c, tW T (q 11) (q 12) (nI (L 0)) (c 9), tW T (q 13) (q 14) (nI (L 1)) (c 10), tW T (q 15) (q 16) (nI (L 2)) (c 11)]) (fun ⟨wk2, dr2, re2⟩ => (wk2, dr2, re2) = opI c L (fillF wk 12 (-1), fillF dr 3 (nI 0), re) 3) := by
  intro sz
  refine met_rw (Qc := fun A => va_Qv _ (PST D _ A) A) rfl (Nat.le_of_ble_eq_true rfl) ?_
  intro pX eX sX mX bX mtX cX A hAe hC hA hP0 hD0 hS0 ls0 hl0 TG hTG
  clear hAe
  obtain ⟨hx, hb, hr, hml, hown, hts, hlocks, hin, hK⟩ := hC
  have hown : sX.vm.findClass RX1 = some mX.cls := hown
  have hl0 : lv_has ls0 4 [(0, .ref (qh 0)), (1, .ref (q 0))] := hl0
  refine lv_aload_n hx hb dX1_openHydrants_0 rfl (lv_at hl0 0 rfl) ?_
  have hPc1 : va_P D vwCl (fl [hO qh, aW T 0 (qh 1) 12 wk, aW T 0 (qh 2) 3 dr, aW T 0 (qh 3) 3 re]) _ := flP_sub hP0 [0, 1, 2, 3] rfl
  have hDc1 : va_D A (fl [hO qh, aW T 0 (qh 1) 12 wk, aW T 0 (qh 2) 3 dr, aW T 0 (qh 3) 3 re]) := flD_sub hD0 [0, 1, 2, 3] (by decide) rfl
  refine cl_v (br := [sW T q c, tW T (q 11) (q 12) (nI (L 0)) (c 9), tW T (q 13) (q 14) (nI (L 1)) (c 10), tW T (q 15) (q 16) (nI (L 2)) (c 11)]) (va_runV (As := []) (rest := []) ⟨hx, hb, hml, hown, hts⟩ (c_X1_shutAll l D T qh wk dr re  _) (mkV hts okX1_shutAll kw_295 kw_296 kw_297 ⟨rfl, rfl, Nat.le_of_ble_eq_true rfl, Nat.le_of_ble_eq_true rfl⟩) (pv_rw hK hPc1 hDc1 (q0 := 0) rfl rfl rfl) rfl rfl hl0.1 rfl (lv_room (Nat.le_of_ble_eq_true rfl)) dX1_openHydrants_1 ⟨Nat.le_of_ble_eq_true rfl, Nat.le_of_ble_eq_true rfl⟩) hP0 hD0 hS0 hA [4, 5, 6, 7] [0, 1, 2, 3] rfl (by decide) (fun _u2 H2 locs2 hq_1 hP2 hD2 hS2 => ?_)
  clear hP0 hD0 hS0 hPc1 hDc1
  have hP2 : va_P D vwCl (fl [sW T q c, tW T (q 11) (q 12) (nI (L 0)) (c 9), tW T (q 13) (q 14) (nI (L 1)) (c 10), tW T (q 15) (q 16) (nI (L 2)) (c 11), hO qh, aW T 0 (qh 1) 12 (fillF wk 12 (-1)), aW T 0 (qh 2) 3 (fillF dr 3 (nI 0)), aW T 0 (qh 3) 3 re]) _ := hP2
  have hD2 : va_D A (fl [sW T q c, tW T (q 11) (q 12) (nI (L 0)) (c 9), tW T (q 13) (q 14) (nI (L 1)) (c 10), tW T (q 15) (q 16) (nI (L 2)) (c 11), hO qh, aW T 0 (qh 1) 12 (fillF wk 12 (-1)), aW T 0 (qh 2) 3 (fillF dr 3 (nI 0)), aW T 0 (qh 3) 3 re]) := hD2
  have hq_1 : True := hq_1
  refine lv_iconst (v := nI 0) hx hb dX1_openHydrants_4 (by decide) ?_
  refine lv_istore_n (lv' := [(2, .int (nI 0)), (0, .ref (qh 0)), (1, .ref (q 0))]) hx hb dX1_openHydrants_5 rfl hl0 (by decide) rfl (fun ls3 hl3 => ?_)
  clear hl0
  have hP4 : va_P D vwCl (fl [hO qh, aW T 0 (qh 1) 12 (fillF wk 12 (-1)), aW T 0 (qh 2) 3 (fillF dr 3 (nI 0)), aW T 0 (qh 3) 3 re, sW T q c, tW T (q 11) (q 12) (nI (L 0)) (c 9), tW T (q 13) (q 14) (nI (L 1)) (c 10), tW T (q 15) (q 16) (nI (L 2)) (c 11)]) _ := flP_sub hP2 [4, 5, 6, 7, 0, 1, 2, 3] rfl
  have hD4 : va_D A (fl [hO qh, aW T 0 (qh 1) 12 (fillF wk 12 (-1)), aW T 0 (qh 2) 3 (fillF dr 3 (nI 0)), aW T 0 (qh 3) 3 re, sW T q c, tW T (q 11) (q 12) (nI (L 0)) (c 9), tW T (q 13) (q 14) (nI (L 1)) (c 10), tW T (q 15) (q 16) (nI (L 2)) (c 11)]) := flD_sub hD2 [4, 5, 6, 7, 0, 1, 2, 3] (by decide) rfl
  have hS4 := hS2
  clear hP2 hS2 hD2
  have loop6 : ∀ (n_ : Nat) (i : Nat) (wk1 : Nat → Int32) (dr1 : Nat → Int32) (re1 : Nat → Int32), (i ≤ 3) → ((wk1, dr1, re1) = opI c L (fillF wk 12 (-1), fillF dr 3 (nI 0), re) i) → (3 - i) < n_ → ∀ (H : Heap) (locs : List Loc), va_P D vwCl (fl [hO qh, aW T 0 (qh 1) 12 wk1, aW T 0 (qh 2) 3 dr1, aW T 0 (qh 3) 3 re1, sW T q c, tW T (q 11) (q 12) (nI (L 0)) (c 9), tW T (q 13) (q 14) (nI (L 1)) (c 10), tW T (q 15) (q 16) (nI (L 2)) (c 11)]) H → va_D A (fl [hO qh, aW T 0 (qh 1) 12 wk1, aW T 0 (qh 2) 3 dr1, aW T 0 (qh 3) 3 re1, sW T q c, tW T (q 11) (q 12) (nI (L 0)) (c 9), tW T (q 13) (q 14) (nI (L 1)) (c 10), tW T (q 15) (q 16) (nI (L 2)) (c 11)]) → va_S A sX.heap H locs → ∀ ls : Array Slot, lv_has ls 4 [(0, .ref (qh 0)), (1, .ref (q 0)), (2, .int (nI i))] → W pX l eX (rmD 2 0 0) sX mX ([.ref (qh 0), .ref (q 0)] : List Value).toArray bX mtX cX H locs 0 0 TG (F0 mX 6 ls []) := by
    intro n_
    induction n_ with
    | zero => intro i wk1 dr1 re1 hi hw hmu_ ; exact absurd hmu_ (Nat.not_lt_zero _)
    | succ n_ ih6 =>
      intro i wk1 dr1 re1 hi hw hmu_6 H6 locs6 hP6 hD6 hS6 ls6 hl6
      refine lv_iload_n hx hb dX1_openHydrants_6 rfl (lv_at hl6 2 rfl) ?_
      refine lv_iconst (v := nI 3) hx hb dX1_openHydrants_7 (by decide) ?_
      refine n_icmp_ge (tgt := 93) hx hb (by omega) (by omega) dX1_openHydrants_8 (by decide) (fun c_8 => ?_) (fun c_8 => ?_)
      · skip
        have hi3 : i = 3 := by omega
        subst hi3
        refine ret_v hTG (Nat.le_refl _) (Nat.le_refl _) hx hb hr hlocks ((wk1, dr1, re1)) hP6 hD6 hS6 [0, 1, 2, 3, 4, 5, 6, 7] rfl (by decide) dX1_openHydrants_93 ?_
        exact hw
      · skip
        rcases (show i = 0 ∨ i = 1 ∨ i = 2 by omega) with rfl | rfl | rfl
        · skip
          refine lv_aload_n hx hb dX1_openHydrants_11 rfl (lv_at hl6 1 rfl) ?_
          refine r_getN (own := RX1) (C := RX3) (F := TX3) (N := 13) (ci := 3) (v := .ref (q 10)) hx hb hK hts in_X3 hown hP6 4 rfl rfl 9 (by decide) kn_18 rfl dX1_openHydrants_12 ?_
          refine lv_iload_n hx hb dX1_openHydrants_15 rfl (lv_at hl6 2 rfl) ?_
          refine r_aald (C := RX4) (v := (q 11)) hx hb hK hP6 14 2 rfl rfl 0 (by decide) dX1_openHydrants_16 (by decide) rfl ?_
          refine lv_iconst (v := nI 0) hx hb dX1_openHydrants_17 (by decide) ?_
          have hPc8 : va_P D vwCl (fl [tW T (q 11) (q 12) (nI (L 0)) (c 9)]) _ := hP6.sub [15, 16] rfl
          refine cr_i (va_runV (As := [.int (nI 0)]) (rest := []) ⟨hx, hb, hml, hown, hts⟩ (c_X4_at l D T (q 11) (q 12) (L 0) (c 9) (nI 0) ((hT 0 (by omega)).1)) (mkV hts okX4_at kw_300 kw_301 kw_302 ⟨rfl, rfl, Nat.le_of_ble_eq_true rfl, Nat.le_of_ble_eq_true rfl⟩) (pv_ro hK hPc8 (q0 := 0) rfl rfl rfl) rfl rfl hl6.1 rfl (lv_room (Nat.le_of_ble_eq_true rfl)) dX1_openHydrants_18 ⟨Nat.le_of_ble_eq_true rfl, Nat.le_of_ble_eq_true rfl⟩) hP6 hS6 (fun r_18 H9 locs9 hq_18 hP9 hS9 => ?_)
          clear hP6 hS6 hPc8
          have hD9 := hD6
          clear hD6
          have hq_18 : r_18 = tAt (L 0) (c 9) (nI 0) := hq_18
          subst hq_18
          rcases tAt_or (hT 0 (by omega)).2 with hst | ⟨t, ht, hst⟩
          · rw [hst]
            refine lv_istore_n (lv' := [(3, .int (-1)), (0, .ref (qh 0)), (1, .ref (q 0)), (2, .int (nI 0))]) hx hb dX1_openHydrants_21 rfl hl6 (by decide) rfl (fun ls10 hl10 => ?_)
            clear hl6
            refine lv_iload_n hx hb dX1_openHydrants_22 rfl (lv_at hl10 0 rfl) ?_
            refine lv_if_lt (tgt := 32) hx hb dX1_openHydrants_23 (by decide) (fun c11 => ?_) (fun c11 => absurd (by decide) c11)
            refine lv_aload_n hx hb dX1_openHydrants_32 rfl (lv_at hl10 1 rfl) ?_
            refine r_get (own := RX1) (C := RX1) (F := TX1) (N := 3) (ci := 1) (v := .ref (qh 3)) hx hb hK hts in_X1 hown hP9 0 rfl rfl 2 (by decide) kw_127 rfl dX1_openHydrants_33 ?_
            refine lv_iload_n hx hb dX1_openHydrants_36 rfl (lv_at hl10 3 rfl) ?_
            refine lv_iconst (v := (-1)) hx hb dX1_openHydrants_37 (by decide) ?_
            refine r_iast hx hb hK hP9 hD9 hS9 3 (f := re1) (n := 3) rfl 0 (by decide) dX1_openHydrants_38 (by decide) (fun (H12 : Heap) (locs12 : List Loc) (hP12 : va_P D vwCl (fl [hO qh, aW T 0 (qh 1) 12 wk1, aW T 0 (qh 2) 3 dr1, aW T 0 (qh 3) 3 (upd re1 0 (-1)), sW T q c, tW T (q 11) (q 12) (nI (L 0)) (c 9), tW T (q 13) (q 14) (nI (L 1)) (c 10), tW T (q 15) (q 16) (nI (L 2)) (c 11)]) H12) (hD12 : va_D A (fl [hO qh, aW T 0 (qh 1) 12 wk1, aW T 0 (qh 2) 3 dr1, aW T 0 (qh 3) 3 (upd re1 0 (-1)), sW T q c, tW T (q 11) (q 12) (nI (L 0)) (c 9), tW T (q 13) (q 14) (nI (L 1)) (c 10), tW T (q 15) (q 16) (nI (L 2)) (c 11)])) hS12 => ?_)
            clear hP9 hD9 hS9
            refine lv_goto (tgt := 87) hx hb dX1_openHydrants_39 (by decide) ?_
            refine lv_iinc (v := nI 1) (lv' := [(2, .int (nI 1)), (3, .int (-1)), (0, .ref (qh 0)), (1, .ref (q 0))]) hx hb dX1_openHydrants_87 hl10 (k := 3) rfl (by decide) (by decide) rfl (fun ls13 hl13 => ?_)
            clear hl10
            refine lv_goto (tgt := 6) hx hb dX1_openHydrants_90 (by decide) ?_
            exact ih6 1 wk1 dr1 (upd re1 0 (-1)) (by omega) (by rw [opI, ← hw]; first | exact (opS_m1 (w := (wk1, dr1, re1)) hst).symm | exact (opS_t0 (w := (wk1, dr1, re1)) ht hst c_60).symm | exact (opS_t1 (w := (wk1, dr1, re1)) ht hst c_60).symm) (by omega) _ _ hP12 hD12 hS12 _ (lv_sub hl13 [2, 3, 0] rfl)
          · rw [hst]
            refine lv_istore_n (lv' := [(3, .int (nI t)), (0, .ref (qh 0)), (1, .ref (q 0)), (2, .int (nI 0))]) hx hb dX1_openHydrants_21 rfl hl6 (by decide) rfl (fun ls14 hl14 => ?_)
            clear hl6
            refine lv_iload_n hx hb dX1_openHydrants_22 rfl (lv_at hl14 0 rfl) ?_
            refine n_if_lt hx hb (by omega) dX1_openHydrants_23 32 (by decide) ?_
            refine lv_iload_n hx hb dX1_openHydrants_26 rfl (lv_at hl14 0 rfl) ?_
            refine lv_bipush (v := nI 12) hx hb dX1_openHydrants_27 (by decide) ?_
            refine n_icmp_lt (tgt := 42) hx hb (by omega) (by omega) dX1_openHydrants_29 (by decide) (fun c15 => ?_) (fun c15 => absurd (by omega) c15)
            refine lv_aload_n hx hb dX1_openHydrants_42 rfl (lv_at hl14 1 rfl) ?_
            refine r_get (own := RX1) (C := RX1) (F := TX1) (N := 3) (ci := 1) (v := .ref (qh 3)) hx hb hK hts in_X1 hown hP9 0 rfl rfl 2 (by decide) kw_127 rfl dX1_openHydrants_43 ?_
            refine lv_iload_n hx hb dX1_openHydrants_46 rfl (lv_at hl14 3 rfl) ?_
            refine lv_aload_n hx hb dX1_openHydrants_47 rfl (lv_at hl14 1 rfl) ?_
            refine lv_aload_n hx hb dX1_openHydrants_48 rfl (lv_at hl14 2 rfl) ?_
            refine lv_iload_n hx hb dX1_openHydrants_49 rfl (lv_at hl14 0 rfl) ?_
            have hPc16 : va_P D vwCl (fl [hO qh, aW T 0 (qh 1) 12 wk1, aW T 0 (qh 2) 3 dr1, aW T 0 (qh 3) 3 re1, sW T q c]) _ := flP_sub hP9 [0, 1, 2, 3, 4] rfl
            have hDc16 : va_D A (fl [hO qh, aW T 0 (qh 1) 12 wk1, aW T 0 (qh 2) 3 dr1, aW T 0 (qh 3) 3 re1, sW T q c]) := flD_sub hD9 [0, 1, 2, 3, 4] (by decide) rfl
            refine cl_i (br := [tW T (q 11) (q 12) (nI (L 0)) (c 9), tW T (q 13) (q 14) (nI (L 1)) (c 10), tW T (q 15) (q 16) (nI (L 2)) (c 11)]) (va_runV (As := [.ref (q 0), .int (nI t)]) (rest := [.int (nI 0), .ref (qh 3)]) ⟨hx, hb, hml, hown, hts⟩ (c_X1_reasonToWait l D T qh wk1 dr1 re1 q c t (by omega) _) (mkV hts okX1_reasonToWait kw_304 kw_306 ks_2 ⟨rfl, rfl, Nat.le_of_ble_eq_true rfl, Nat.le_of_ble_eq_true rfl⟩) (pv_rw hK hPc16 hDc16 (q0 := 0) rfl rfl rfl) rfl rfl hl14.1 rfl (lv_room (Nat.le_of_ble_eq_true rfl)) dX1_openHydrants_50 ⟨Nat.le_of_ble_eq_true rfl, Nat.le_of_ble_eq_true rfl⟩) hP9 hD9 hS9 hA [5, 6, 7] [0, 1, 2, 3, 4] rfl (by decide) (fun r_50 dr2_50 H17 locs17 hq_50 hP17 hD17 hS17 => ?_)
            clear hP9 hD9 hS9 hPc16 hDc16
            have hP17 : va_P D vwCl (fl [tW T (q 11) (q 12) (nI (L 0)) (c 9), tW T (q 13) (q 14) (nI (L 1)) (c 10), tW T (q 15) (q 16) (nI (L 2)) (c 11), hO qh, aW T 0 (qh 1) 12 wk1, aW T 0 (qh 2) 3 dr2_50, aW T 0 (qh 3) 3 re1, sW T q c]) _ := hP17
            have hD17 : va_D A (fl [tW T (q 11) (q 12) (nI (L 0)) (c 9), tW T (q 13) (q 14) (nI (L 1)) (c 10), tW T (q 15) (q 16) (nI (L 2)) (c 11), hO qh, aW T 0 (qh 1) 12 wk1, aW T 0 (qh 2) 3 dr2_50, aW T 0 (qh 3) 3 re1, sW T q c]) := hD17
            obtain ⟨hr_50, hq_50⟩ : r_50 = rsnC c wk1 dr1 t ∧ (dr1 = dr2_50) := hq_50
            subst hr_50
            have hu_dr2_50 : dr1 = dr2_50 := hq_50
            subst hu_dr2_50
            refine r_iast hx hb hK hP17 hD17 hS17 9 (f := re1) (n := 3) rfl 0 (by decide) dX1_openHydrants_53 (by decide) (fun (H18 : Heap) (locs18 : List Loc) (hP18 : va_P D vwCl (fl [tW T (q 11) (q 12) (nI (L 0)) (c 9), tW T (q 13) (q 14) (nI (L 1)) (c 10), tW T (q 15) (q 16) (nI (L 2)) (c 11), hO qh, aW T 0 (qh 1) 12 wk1, aW T 0 (qh 2) 3 dr1, aW T 0 (qh 3) 3 (upd re1 0 (rsnC c wk1 dr1 t)), sW T q c]) H18) (hD18 : va_D A (fl [tW T (q 11) (q 12) (nI (L 0)) (c 9), tW T (q 13) (q 14) (nI (L 1)) (c 10), tW T (q 15) (q 16) (nI (L 2)) (c 11), hO qh, aW T 0 (qh 1) 12 wk1, aW T 0 (qh 2) 3 dr1, aW T 0 (qh 3) 3 (upd re1 0 (rsnC c wk1 dr1 t)), sW T q c])) hS18 => ?_)
            clear hP17 hD17 hS17
            refine lv_aload_n hx hb dX1_openHydrants_54 rfl (lv_at hl14 1 rfl) ?_
            refine r_get (own := RX1) (C := RX1) (F := TX1) (N := 3) (ci := 1) (v := .ref (qh 3)) hx hb hK hts in_X1 hown hP18 6 rfl rfl 2 (by decide) kw_127 rfl dX1_openHydrants_55 ?_
            refine lv_iload_n hx hb dX1_openHydrants_58 rfl (lv_at hl14 3 rfl) ?_
            refine r_iald hx hb hK hP18 9 (f := (upd re1 0 (rsnC c wk1 dr1 t))) (n := 3) rfl 0 (by decide) dX1_openHydrants_59 (by decide) ?_
            refine lv_if_ne (tgt := 87) hx hb dX1_openHydrants_60 (by decide) (fun c_60 => ?_) (fun c_60 => ?_)
            · skip
              refine lv_iinc (v := nI 1) (lv' := [(2, .int (nI 1)), (3, .int (nI t)), (0, .ref (qh 0)), (1, .ref (q 0))]) hx hb dX1_openHydrants_87 hl14 (k := 3) rfl (by decide) (by decide) rfl (fun ls20 hl20 => ?_)
              clear hl14
              refine lv_goto (tgt := 6) hx hb dX1_openHydrants_90 (by decide) ?_
              have hP21 : va_P D vwCl (fl [hO qh, aW T 0 (qh 1) 12 wk1, aW T 0 (qh 2) 3 dr1, aW T 0 (qh 3) 3 (upd re1 0 (rsnC c wk1 dr1 t)), sW T q c, tW T (q 11) (q 12) (nI (L 0)) (c 9), tW T (q 13) (q 14) (nI (L 1)) (c 10), tW T (q 15) (q 16) (nI (L 2)) (c 11)]) _ := flP_sub hP18 [3, 4, 5, 6, 7, 0, 1, 2] rfl
              have hD21 : va_D A (fl [hO qh, aW T 0 (qh 1) 12 wk1, aW T 0 (qh 2) 3 dr1, aW T 0 (qh 3) 3 (upd re1 0 (rsnC c wk1 dr1 t)), sW T q c, tW T (q 11) (q 12) (nI (L 0)) (c 9), tW T (q 13) (q 14) (nI (L 1)) (c 10), tW T (q 15) (q 16) (nI (L 2)) (c 11)]) := flD_sub hD18 [3, 4, 5, 6, 7, 0, 1, 2] (by decide) rfl
              have hS21 := hS18
              clear hP18 hS18 hD18
              exact ih6 1 wk1 dr1 (upd re1 0 (rsnC c wk1 dr1 t)) (by omega) (by rw [opI, ← hw]; first | exact (opS_m1 (w := (wk1, dr1, re1)) hst).symm | exact (opS_t0 (w := (wk1, dr1, re1)) ht hst c_60).symm | exact (opS_t1 (w := (wk1, dr1, re1)) ht hst c_60).symm) (by omega) _ _ hP21 hD21 hS21 _ (lv_sub hl20 [2, 3, 0] rfl)
            · skip
              refine lv_aload_n hx hb dX1_openHydrants_63 rfl (lv_at hl14 1 rfl) ?_
              refine r_get (own := RX1) (C := RX1) (F := TX1) (N := 3) (ci := 1) (v := .ref (qh 1)) hx hb hK hts in_X1 hown hP18 6 rfl rfl 0 (by decide) kw_124 rfl dX1_openHydrants_64 ?_
              refine lv_iload_n hx hb dX1_openHydrants_67 rfl (lv_at hl14 0 rfl) ?_
              refine lv_iload_n hx hb dX1_openHydrants_68 rfl (lv_at hl14 3 rfl) ?_
              refine r_iast hx hb hK hP18 hD18 hS18 7 (f := wk1) (n := 12) rfl t (by decide) dX1_openHydrants_69 (by omega) (fun (H22 : Heap) (locs22 : List Loc) (hP22 : va_P D vwCl (fl [tW T (q 11) (q 12) (nI (L 0)) (c 9), tW T (q 13) (q 14) (nI (L 1)) (c 10), tW T (q 15) (q 16) (nI (L 2)) (c 11), hO qh, aW T 0 (qh 1) 12 (upd wk1 t (nI 0)), aW T 0 (qh 2) 3 dr1, aW T 0 (qh 3) 3 (upd re1 0 (rsnC c wk1 dr1 t)), sW T q c]) H22) (hD22 : va_D A (fl [tW T (q 11) (q 12) (nI (L 0)) (c 9), tW T (q 13) (q 14) (nI (L 1)) (c 10), tW T (q 15) (q 16) (nI (L 2)) (c 11), hO qh, aW T 0 (qh 1) 12 (upd wk1 t (nI 0)), aW T 0 (qh 2) 3 dr1, aW T 0 (qh 3) 3 (upd re1 0 (rsnC c wk1 dr1 t)), sW T q c])) hS22 => ?_)
              clear hP18 hD18 hS18
              refine lv_aload_n hx hb dX1_openHydrants_70 rfl (lv_at hl14 1 rfl) ?_
              refine r_get (own := RX1) (C := RX1) (F := TX1) (N := 3) (ci := 1) (v := .ref (qh 2)) hx hb hK hts in_X1 hown hP22 6 rfl rfl 1 (by decide) kw_125 rfl dX1_openHydrants_71 ?_
              refine lv_iload_n hx hb dX1_openHydrants_74 rfl (lv_at hl14 0 rfl) ?_
              refine lv_iconst (v := nI 4) hx hb dX1_openHydrants_75 (by decide) ?_
              refine lv_idiv hx hb dX1_openHydrants_76 (by decide) ?_
              refine tp_i (y := nI (t / 4)) (pk_div (by omega) (by omega) (by omega)) ?_
              refine lv_dup2_11 hx hb dX1_openHydrants_77 rfl rfl ?_
              refine r_iald hx hb hK hP22 8 (f := dr1) (n := 3) rfl (t / 4) (by decide) dX1_openHydrants_78 (by omega) ?_
              refine lv_aload_n hx hb dX1_openHydrants_79 rfl (lv_at hl14 2 rfl) ?_
              refine r_getN (own := RX1) (C := RX3) (F := TX3) (N := 13) (ci := 3) (v := .ref (q 5)) hx hb hK hts in_X3 hown hP22 10 rfl rfl 4 (by decide) kn_10 rfl dX1_openHydrants_80 ?_
              refine lv_iload_n hx hb dX1_openHydrants_83 rfl (lv_at hl14 0 rfl) ?_
              refine r_iald hx hb hK hP22 15 (f := (c 4)) (n := 12) rfl t (by decide) dX1_openHydrants_84 (by omega) ?_
              refine lv_iadd hx hb dX1_openHydrants_85 ?_
              refine r_iast hx hb hK hP22 hD22 hS22 8 (f := dr1) (n := 3) rfl (t / 4) (by decide) dX1_openHydrants_86 (by omega) (fun (H23 : Heap) (locs23 : List Loc) (hP23 : va_P D vwCl (fl [tW T (q 11) (q 12) (nI (L 0)) (c 9), tW T (q 13) (q 14) (nI (L 1)) (c 10), tW T (q 15) (q 16) (nI (L 2)) (c 11), hO qh, aW T 0 (qh 1) 12 (upd wk1 t (nI 0)), aW T 0 (qh 2) 3 (upd dr1 (t / 4) ((dr1 (t / 4)) + (c 4 t))), aW T 0 (qh 3) 3 (upd re1 0 (rsnC c wk1 dr1 t)), sW T q c]) H23) (hD23 : va_D A (fl [tW T (q 11) (q 12) (nI (L 0)) (c 9), tW T (q 13) (q 14) (nI (L 1)) (c 10), tW T (q 15) (q 16) (nI (L 2)) (c 11), hO qh, aW T 0 (qh 1) 12 (upd wk1 t (nI 0)), aW T 0 (qh 2) 3 (upd dr1 (t / 4) ((dr1 (t / 4)) + (c 4 t))), aW T 0 (qh 3) 3 (upd re1 0 (rsnC c wk1 dr1 t)), sW T q c])) hS23 => ?_)
              clear hP22 hD22 hS22
              refine lv_iinc (v := nI 1) (lv' := [(2, .int (nI 1)), (3, .int (nI t)), (0, .ref (qh 0)), (1, .ref (q 0))]) hx hb dX1_openHydrants_87 hl14 (k := 3) rfl (by decide) (by decide) rfl (fun ls24 hl24 => ?_)
              clear hl14
              refine lv_goto (tgt := 6) hx hb dX1_openHydrants_90 (by decide) ?_
              have hP25 : va_P D vwCl (fl [hO qh, aW T 0 (qh 1) 12 (upd wk1 t (nI 0)), aW T 0 (qh 2) 3 (upd dr1 (t / 4) ((dr1 (t / 4)) + (c 4 t))), aW T 0 (qh 3) 3 (upd re1 0 (rsnC c wk1 dr1 t)), sW T q c, tW T (q 11) (q 12) (nI (L 0)) (c 9), tW T (q 13) (q 14) (nI (L 1)) (c 10), tW T (q 15) (q 16) (nI (L 2)) (c 11)]) _ := flP_sub hP23 [3, 4, 5, 6, 7, 0, 1, 2] rfl
              have hD25 : va_D A (fl [hO qh, aW T 0 (qh 1) 12 (upd wk1 t (nI 0)), aW T 0 (qh 2) 3 (upd dr1 (t / 4) ((dr1 (t / 4)) + (c 4 t))), aW T 0 (qh 3) 3 (upd re1 0 (rsnC c wk1 dr1 t)), sW T q c, tW T (q 11) (q 12) (nI (L 0)) (c 9), tW T (q 13) (q 14) (nI (L 1)) (c 10), tW T (q 15) (q 16) (nI (L 2)) (c 11)]) := flD_sub hD23 [3, 4, 5, 6, 7, 0, 1, 2] (by decide) rfl
              have hS25 := hS23
              clear hP23 hS23 hD23
              exact ih6 1 (upd wk1 t (nI 0)) (upd dr1 (t / 4) ((dr1 (t / 4)) + (c 4 t))) (upd re1 0 (rsnC c wk1 dr1 t)) (by omega) (by rw [opI, ← hw]; first | exact (opS_m1 (w := (wk1, dr1, re1)) hst).symm | exact (opS_t0 (w := (wk1, dr1, re1)) ht hst c_60).symm | exact (opS_t1 (w := (wk1, dr1, re1)) ht hst c_60).symm) (by omega) _ _ hP25 hD25 hS25 _ (lv_sub hl24 [2, 3, 0] rfl)
        · skip
          refine lv_aload_n hx hb dX1_openHydrants_11 rfl (lv_at hl6 1 rfl) ?_
          refine r_getN (own := RX1) (C := RX3) (F := TX3) (N := 13) (ci := 3) (v := .ref (q 10)) hx hb hK hts in_X3 hown hP6 4 rfl rfl 9 (by decide) kn_18 rfl dX1_openHydrants_12 ?_
          refine lv_iload_n hx hb dX1_openHydrants_15 rfl (lv_at hl6 2 rfl) ?_
          refine r_aald (C := RX4) (v := (q 13)) hx hb hK hP6 14 2 rfl rfl 1 (by decide) dX1_openHydrants_16 (by decide) rfl ?_
          refine lv_iconst (v := nI 0) hx hb dX1_openHydrants_17 (by decide) ?_
          have hPc26 : va_P D vwCl (fl [tW T (q 13) (q 14) (nI (L 1)) (c 10)]) _ := hP6.sub [17, 18] rfl
          refine cr_i (va_runV (As := [.int (nI 0)]) (rest := []) ⟨hx, hb, hml, hown, hts⟩ (c_X4_at l D T (q 13) (q 14) (L 1) (c 10) (nI 0) ((hT 1 (by omega)).1)) (mkV hts okX4_at kw_300 kw_301 kw_302 ⟨rfl, rfl, Nat.le_of_ble_eq_true rfl, Nat.le_of_ble_eq_true rfl⟩) (pv_ro hK hPc26 (q0 := 0) rfl rfl rfl) rfl rfl hl6.1 rfl (lv_room (Nat.le_of_ble_eq_true rfl)) dX1_openHydrants_18 ⟨Nat.le_of_ble_eq_true rfl, Nat.le_of_ble_eq_true rfl⟩) hP6 hS6 (fun r_18 H27 locs27 hq_18 hP27 hS27 => ?_)
          clear hP6 hS6 hPc26
          have hD27 := hD6
          clear hD6
          have hq_18 : r_18 = tAt (L 1) (c 10) (nI 0) := hq_18
          subst hq_18
          rcases tAt_or (hT 1 (by omega)).2 with hst | ⟨t, ht, hst⟩
          · rw [hst]
            refine lv_istore_n (lv' := [(3, .int (-1)), (0, .ref (qh 0)), (1, .ref (q 0)), (2, .int (nI 1))]) hx hb dX1_openHydrants_21 rfl hl6 (by decide) rfl (fun ls28 hl28 => ?_)
            clear hl6
            refine lv_iload_n hx hb dX1_openHydrants_22 rfl (lv_at hl28 0 rfl) ?_
            refine lv_if_lt (tgt := 32) hx hb dX1_openHydrants_23 (by decide) (fun c29 => ?_) (fun c29 => absurd (by decide) c29)
            refine lv_aload_n hx hb dX1_openHydrants_32 rfl (lv_at hl28 1 rfl) ?_
            refine r_get (own := RX1) (C := RX1) (F := TX1) (N := 3) (ci := 1) (v := .ref (qh 3)) hx hb hK hts in_X1 hown hP27 0 rfl rfl 2 (by decide) kw_127 rfl dX1_openHydrants_33 ?_
            refine lv_iload_n hx hb dX1_openHydrants_36 rfl (lv_at hl28 3 rfl) ?_
            refine lv_iconst (v := (-1)) hx hb dX1_openHydrants_37 (by decide) ?_
            refine r_iast hx hb hK hP27 hD27 hS27 3 (f := re1) (n := 3) rfl 1 (by decide) dX1_openHydrants_38 (by decide) (fun (H30 : Heap) (locs30 : List Loc) (hP30 : va_P D vwCl (fl [hO qh, aW T 0 (qh 1) 12 wk1, aW T 0 (qh 2) 3 dr1, aW T 0 (qh 3) 3 (upd re1 1 (-1)), sW T q c, tW T (q 11) (q 12) (nI (L 0)) (c 9), tW T (q 13) (q 14) (nI (L 1)) (c 10), tW T (q 15) (q 16) (nI (L 2)) (c 11)]) H30) (hD30 : va_D A (fl [hO qh, aW T 0 (qh 1) 12 wk1, aW T 0 (qh 2) 3 dr1, aW T 0 (qh 3) 3 (upd re1 1 (-1)), sW T q c, tW T (q 11) (q 12) (nI (L 0)) (c 9), tW T (q 13) (q 14) (nI (L 1)) (c 10), tW T (q 15) (q 16) (nI (L 2)) (c 11)])) hS30 => ?_)
            clear hP27 hD27 hS27
            refine lv_goto (tgt := 87) hx hb dX1_openHydrants_39 (by decide) ?_
            refine lv_iinc (v := nI 2) (lv' := [(2, .int (nI 2)), (3, .int (-1)), (0, .ref (qh 0)), (1, .ref (q 0))]) hx hb dX1_openHydrants_87 hl28 (k := 3) rfl (by decide) (by decide) rfl (fun ls31 hl31 => ?_)
            clear hl28
            refine lv_goto (tgt := 6) hx hb dX1_openHydrants_90 (by decide) ?_
            exact ih6 2 wk1 dr1 (upd re1 1 (-1)) (by omega) (by rw [opI, ← hw]; first | exact (opS_m1 (w := (wk1, dr1, re1)) hst).symm | exact (opS_t0 (w := (wk1, dr1, re1)) ht hst c_60).symm | exact (opS_t1 (w := (wk1, dr1, re1)) ht hst c_60).symm) (by omega) _ _ hP30 hD30 hS30 _ (lv_sub hl31 [2, 3, 0] rfl)
          · rw [hst]
            refine lv_istore_n (lv' := [(3, .int (nI t)), (0, .ref (qh 0)), (1, .ref (q 0)), (2, .int (nI 1))]) hx hb dX1_openHydrants_21 rfl hl6 (by decide) rfl (fun ls32 hl32 => ?_)
            clear hl6
            refine lv_iload_n hx hb dX1_openHydrants_22 rfl (lv_at hl32 0 rfl) ?_
            refine n_if_lt hx hb (by omega) dX1_openHydrants_23 32 (by decide) ?_
            refine lv_iload_n hx hb dX1_openHydrants_26 rfl (lv_at hl32 0 rfl) ?_
            refine lv_bipush (v := nI 12) hx hb dX1_openHydrants_27 (by decide) ?_
            refine n_icmp_lt (tgt := 42) hx hb (by omega) (by omega) dX1_openHydrants_29 (by decide) (fun c33 => ?_) (fun c33 => absurd (by omega) c33)
            refine lv_aload_n hx hb dX1_openHydrants_42 rfl (lv_at hl32 1 rfl) ?_
            refine r_get (own := RX1) (C := RX1) (F := TX1) (N := 3) (ci := 1) (v := .ref (qh 3)) hx hb hK hts in_X1 hown hP27 0 rfl rfl 2 (by decide) kw_127 rfl dX1_openHydrants_43 ?_
            refine lv_iload_n hx hb dX1_openHydrants_46 rfl (lv_at hl32 3 rfl) ?_
            refine lv_aload_n hx hb dX1_openHydrants_47 rfl (lv_at hl32 1 rfl) ?_
            refine lv_aload_n hx hb dX1_openHydrants_48 rfl (lv_at hl32 2 rfl) ?_
            refine lv_iload_n hx hb dX1_openHydrants_49 rfl (lv_at hl32 0 rfl) ?_
            have hPc34 : va_P D vwCl (fl [hO qh, aW T 0 (qh 1) 12 wk1, aW T 0 (qh 2) 3 dr1, aW T 0 (qh 3) 3 re1, sW T q c]) _ := flP_sub hP27 [0, 1, 2, 3, 4] rfl
            have hDc34 : va_D A (fl [hO qh, aW T 0 (qh 1) 12 wk1, aW T 0 (qh 2) 3 dr1, aW T 0 (qh 3) 3 re1, sW T q c]) := flD_sub hD27 [0, 1, 2, 3, 4] (by decide) rfl
            refine cl_i (br := [tW T (q 11) (q 12) (nI (L 0)) (c 9), tW T (q 13) (q 14) (nI (L 1)) (c 10), tW T (q 15) (q 16) (nI (L 2)) (c 11)]) (va_runV (As := [.ref (q 0), .int (nI t)]) (rest := [.int (nI 1), .ref (qh 3)]) ⟨hx, hb, hml, hown, hts⟩ (c_X1_reasonToWait l D T qh wk1 dr1 re1 q c t (by omega) _) (mkV hts okX1_reasonToWait kw_304 kw_306 ks_2 ⟨rfl, rfl, Nat.le_of_ble_eq_true rfl, Nat.le_of_ble_eq_true rfl⟩) (pv_rw hK hPc34 hDc34 (q0 := 0) rfl rfl rfl) rfl rfl hl32.1 rfl (lv_room (Nat.le_of_ble_eq_true rfl)) dX1_openHydrants_50 ⟨Nat.le_of_ble_eq_true rfl, Nat.le_of_ble_eq_true rfl⟩) hP27 hD27 hS27 hA [5, 6, 7] [0, 1, 2, 3, 4] rfl (by decide) (fun r_50 dr2_50 H35 locs35 hq_50 hP35 hD35 hS35 => ?_)
            clear hP27 hD27 hS27 hPc34 hDc34
            have hP35 : va_P D vwCl (fl [tW T (q 11) (q 12) (nI (L 0)) (c 9), tW T (q 13) (q 14) (nI (L 1)) (c 10), tW T (q 15) (q 16) (nI (L 2)) (c 11), hO qh, aW T 0 (qh 1) 12 wk1, aW T 0 (qh 2) 3 dr2_50, aW T 0 (qh 3) 3 re1, sW T q c]) _ := hP35
            have hD35 : va_D A (fl [tW T (q 11) (q 12) (nI (L 0)) (c 9), tW T (q 13) (q 14) (nI (L 1)) (c 10), tW T (q 15) (q 16) (nI (L 2)) (c 11), hO qh, aW T 0 (qh 1) 12 wk1, aW T 0 (qh 2) 3 dr2_50, aW T 0 (qh 3) 3 re1, sW T q c]) := hD35
            obtain ⟨hr_50, hq_50⟩ : r_50 = rsnC c wk1 dr1 t ∧ (dr1 = dr2_50) := hq_50
            subst hr_50
            have hu_dr2_50 : dr1 = dr2_50 := hq_50
            subst hu_dr2_50
            refine r_iast hx hb hK hP35 hD35 hS35 9 (f := re1) (n := 3) rfl 1 (by decide) dX1_openHydrants_53 (by decide) (fun (H36 : Heap) (locs36 : List Loc) (hP36 : va_P D vwCl (fl [tW T (q 11) (q 12) (nI (L 0)) (c 9), tW T (q 13) (q 14) (nI (L 1)) (c 10), tW T (q 15) (q 16) (nI (L 2)) (c 11), hO qh, aW T 0 (qh 1) 12 wk1, aW T 0 (qh 2) 3 dr1, aW T 0 (qh 3) 3 (upd re1 1 (rsnC c wk1 dr1 t)), sW T q c]) H36) (hD36 : va_D A (fl [tW T (q 11) (q 12) (nI (L 0)) (c 9), tW T (q 13) (q 14) (nI (L 1)) (c 10), tW T (q 15) (q 16) (nI (L 2)) (c 11), hO qh, aW T 0 (qh 1) 12 wk1, aW T 0 (qh 2) 3 dr1, aW T 0 (qh 3) 3 (upd re1 1 (rsnC c wk1 dr1 t)), sW T q c])) hS36 => ?_)
            clear hP35 hD35 hS35
            refine lv_aload_n hx hb dX1_openHydrants_54 rfl (lv_at hl32 1 rfl) ?_
            refine r_get (own := RX1) (C := RX1) (F := TX1) (N := 3) (ci := 1) (v := .ref (qh 3)) hx hb hK hts in_X1 hown hP36 6 rfl rfl 2 (by decide) kw_127 rfl dX1_openHydrants_55 ?_
            refine lv_iload_n hx hb dX1_openHydrants_58 rfl (lv_at hl32 3 rfl) ?_
            refine r_iald hx hb hK hP36 9 (f := (upd re1 1 (rsnC c wk1 dr1 t))) (n := 3) rfl 1 (by decide) dX1_openHydrants_59 (by decide) ?_
            refine lv_if_ne (tgt := 87) hx hb dX1_openHydrants_60 (by decide) (fun c_60 => ?_) (fun c_60 => ?_)
            · skip
              refine lv_iinc (v := nI 2) (lv' := [(2, .int (nI 2)), (3, .int (nI t)), (0, .ref (qh 0)), (1, .ref (q 0))]) hx hb dX1_openHydrants_87 hl32 (k := 3) rfl (by decide) (by decide) rfl (fun ls38 hl38 => ?_)
              clear hl32
              refine lv_goto (tgt := 6) hx hb dX1_openHydrants_90 (by decide) ?_
              have hP39 : va_P D vwCl (fl [hO qh, aW T 0 (qh 1) 12 wk1, aW T 0 (qh 2) 3 dr1, aW T 0 (qh 3) 3 (upd re1 1 (rsnC c wk1 dr1 t)), sW T q c, tW T (q 11) (q 12) (nI (L 0)) (c 9), tW T (q 13) (q 14) (nI (L 1)) (c 10), tW T (q 15) (q 16) (nI (L 2)) (c 11)]) _ := flP_sub hP36 [3, 4, 5, 6, 7, 0, 1, 2] rfl
              have hD39 : va_D A (fl [hO qh, aW T 0 (qh 1) 12 wk1, aW T 0 (qh 2) 3 dr1, aW T 0 (qh 3) 3 (upd re1 1 (rsnC c wk1 dr1 t)), sW T q c, tW T (q 11) (q 12) (nI (L 0)) (c 9), tW T (q 13) (q 14) (nI (L 1)) (c 10), tW T (q 15) (q 16) (nI (L 2)) (c 11)]) := flD_sub hD36 [3, 4, 5, 6, 7, 0, 1, 2] (by decide) rfl
              have hS39 := hS36
              clear hP36 hS36 hD36
              exact ih6 2 wk1 dr1 (upd re1 1 (rsnC c wk1 dr1 t)) (by omega) (by rw [opI, ← hw]; first | exact (opS_m1 (w := (wk1, dr1, re1)) hst).symm | exact (opS_t0 (w := (wk1, dr1, re1)) ht hst c_60).symm | exact (opS_t1 (w := (wk1, dr1, re1)) ht hst c_60).symm) (by omega) _ _ hP39 hD39 hS39 _ (lv_sub hl38 [2, 3, 0] rfl)
            · skip
              refine lv_aload_n hx hb dX1_openHydrants_63 rfl (lv_at hl32 1 rfl) ?_
              refine r_get (own := RX1) (C := RX1) (F := TX1) (N := 3) (ci := 1) (v := .ref (qh 1)) hx hb hK hts in_X1 hown hP36 6 rfl rfl 0 (by decide) kw_124 rfl dX1_openHydrants_64 ?_
              refine lv_iload_n hx hb dX1_openHydrants_67 rfl (lv_at hl32 0 rfl) ?_
              refine lv_iload_n hx hb dX1_openHydrants_68 rfl (lv_at hl32 3 rfl) ?_
              refine r_iast hx hb hK hP36 hD36 hS36 7 (f := wk1) (n := 12) rfl t (by decide) dX1_openHydrants_69 (by omega) (fun (H40 : Heap) (locs40 : List Loc) (hP40 : va_P D vwCl (fl [tW T (q 11) (q 12) (nI (L 0)) (c 9), tW T (q 13) (q 14) (nI (L 1)) (c 10), tW T (q 15) (q 16) (nI (L 2)) (c 11), hO qh, aW T 0 (qh 1) 12 (upd wk1 t (nI 1)), aW T 0 (qh 2) 3 dr1, aW T 0 (qh 3) 3 (upd re1 1 (rsnC c wk1 dr1 t)), sW T q c]) H40) (hD40 : va_D A (fl [tW T (q 11) (q 12) (nI (L 0)) (c 9), tW T (q 13) (q 14) (nI (L 1)) (c 10), tW T (q 15) (q 16) (nI (L 2)) (c 11), hO qh, aW T 0 (qh 1) 12 (upd wk1 t (nI 1)), aW T 0 (qh 2) 3 dr1, aW T 0 (qh 3) 3 (upd re1 1 (rsnC c wk1 dr1 t)), sW T q c])) hS40 => ?_)
              clear hP36 hD36 hS36
              refine lv_aload_n hx hb dX1_openHydrants_70 rfl (lv_at hl32 1 rfl) ?_
              refine r_get (own := RX1) (C := RX1) (F := TX1) (N := 3) (ci := 1) (v := .ref (qh 2)) hx hb hK hts in_X1 hown hP40 6 rfl rfl 1 (by decide) kw_125 rfl dX1_openHydrants_71 ?_
              refine lv_iload_n hx hb dX1_openHydrants_74 rfl (lv_at hl32 0 rfl) ?_
              refine lv_iconst (v := nI 4) hx hb dX1_openHydrants_75 (by decide) ?_
              refine lv_idiv hx hb dX1_openHydrants_76 (by decide) ?_
              refine tp_i (y := nI (t / 4)) (pk_div (by omega) (by omega) (by omega)) ?_
              refine lv_dup2_11 hx hb dX1_openHydrants_77 rfl rfl ?_
              refine r_iald hx hb hK hP40 8 (f := dr1) (n := 3) rfl (t / 4) (by decide) dX1_openHydrants_78 (by omega) ?_
              refine lv_aload_n hx hb dX1_openHydrants_79 rfl (lv_at hl32 2 rfl) ?_
              refine r_getN (own := RX1) (C := RX3) (F := TX3) (N := 13) (ci := 3) (v := .ref (q 5)) hx hb hK hts in_X3 hown hP40 10 rfl rfl 4 (by decide) kn_10 rfl dX1_openHydrants_80 ?_
              refine lv_iload_n hx hb dX1_openHydrants_83 rfl (lv_at hl32 0 rfl) ?_
              refine r_iald hx hb hK hP40 15 (f := (c 4)) (n := 12) rfl t (by decide) dX1_openHydrants_84 (by omega) ?_
              refine lv_iadd hx hb dX1_openHydrants_85 ?_
              refine r_iast hx hb hK hP40 hD40 hS40 8 (f := dr1) (n := 3) rfl (t / 4) (by decide) dX1_openHydrants_86 (by omega) (fun (H41 : Heap) (locs41 : List Loc) (hP41 : va_P D vwCl (fl [tW T (q 11) (q 12) (nI (L 0)) (c 9), tW T (q 13) (q 14) (nI (L 1)) (c 10), tW T (q 15) (q 16) (nI (L 2)) (c 11), hO qh, aW T 0 (qh 1) 12 (upd wk1 t (nI 1)), aW T 0 (qh 2) 3 (upd dr1 (t / 4) ((dr1 (t / 4)) + (c 4 t))), aW T 0 (qh 3) 3 (upd re1 1 (rsnC c wk1 dr1 t)), sW T q c]) H41) (hD41 : va_D A (fl [tW T (q 11) (q 12) (nI (L 0)) (c 9), tW T (q 13) (q 14) (nI (L 1)) (c 10), tW T (q 15) (q 16) (nI (L 2)) (c 11), hO qh, aW T 0 (qh 1) 12 (upd wk1 t (nI 1)), aW T 0 (qh 2) 3 (upd dr1 (t / 4) ((dr1 (t / 4)) + (c 4 t))), aW T 0 (qh 3) 3 (upd re1 1 (rsnC c wk1 dr1 t)), sW T q c])) hS41 => ?_)
              clear hP40 hD40 hS40
              refine lv_iinc (v := nI 2) (lv' := [(2, .int (nI 2)), (3, .int (nI t)), (0, .ref (qh 0)), (1, .ref (q 0))]) hx hb dX1_openHydrants_87 hl32 (k := 3) rfl (by decide) (by decide) rfl (fun ls42 hl42 => ?_)
              clear hl32
              refine lv_goto (tgt := 6) hx hb dX1_openHydrants_90 (by decide) ?_
              have hP43 : va_P D vwCl (fl [hO qh, aW T 0 (qh 1) 12 (upd wk1 t (nI 1)), aW T 0 (qh 2) 3 (upd dr1 (t / 4) ((dr1 (t / 4)) + (c 4 t))), aW T 0 (qh 3) 3 (upd re1 1 (rsnC c wk1 dr1 t)), sW T q c, tW T (q 11) (q 12) (nI (L 0)) (c 9), tW T (q 13) (q 14) (nI (L 1)) (c 10), tW T (q 15) (q 16) (nI (L 2)) (c 11)]) _ := flP_sub hP41 [3, 4, 5, 6, 7, 0, 1, 2] rfl
              have hD43 : va_D A (fl [hO qh, aW T 0 (qh 1) 12 (upd wk1 t (nI 1)), aW T 0 (qh 2) 3 (upd dr1 (t / 4) ((dr1 (t / 4)) + (c 4 t))), aW T 0 (qh 3) 3 (upd re1 1 (rsnC c wk1 dr1 t)), sW T q c, tW T (q 11) (q 12) (nI (L 0)) (c 9), tW T (q 13) (q 14) (nI (L 1)) (c 10), tW T (q 15) (q 16) (nI (L 2)) (c 11)]) := flD_sub hD41 [3, 4, 5, 6, 7, 0, 1, 2] (by decide) rfl
              have hS43 := hS41
              clear hP41 hS41 hD41
              exact ih6 2 (upd wk1 t (nI 1)) (upd dr1 (t / 4) ((dr1 (t / 4)) + (c 4 t))) (upd re1 1 (rsnC c wk1 dr1 t)) (by omega) (by rw [opI, ← hw]; first | exact (opS_m1 (w := (wk1, dr1, re1)) hst).symm | exact (opS_t0 (w := (wk1, dr1, re1)) ht hst c_60).symm | exact (opS_t1 (w := (wk1, dr1, re1)) ht hst c_60).symm) (by omega) _ _ hP43 hD43 hS43 _ (lv_sub hl42 [2, 3, 0] rfl)
        · skip
          refine lv_aload_n hx hb dX1_openHydrants_11 rfl (lv_at hl6 1 rfl) ?_
          refine r_getN (own := RX1) (C := RX3) (F := TX3) (N := 13) (ci := 3) (v := .ref (q 10)) hx hb hK hts in_X3 hown hP6 4 rfl rfl 9 (by decide) kn_18 rfl dX1_openHydrants_12 ?_
          refine lv_iload_n hx hb dX1_openHydrants_15 rfl (lv_at hl6 2 rfl) ?_
          refine r_aald (C := RX4) (v := (q 15)) hx hb hK hP6 14 2 rfl rfl 2 (by decide) dX1_openHydrants_16 (by decide) rfl ?_
          refine lv_iconst (v := nI 0) hx hb dX1_openHydrants_17 (by decide) ?_
          have hPc44 : va_P D vwCl (fl [tW T (q 15) (q 16) (nI (L 2)) (c 11)]) _ := hP6.sub [19, 20] rfl
          refine cr_i (va_runV (As := [.int (nI 0)]) (rest := []) ⟨hx, hb, hml, hown, hts⟩ (c_X4_at l D T (q 15) (q 16) (L 2) (c 11) (nI 0) ((hT 2 (by omega)).1)) (mkV hts okX4_at kw_300 kw_301 kw_302 ⟨rfl, rfl, Nat.le_of_ble_eq_true rfl, Nat.le_of_ble_eq_true rfl⟩) (pv_ro hK hPc44 (q0 := 0) rfl rfl rfl) rfl rfl hl6.1 rfl (lv_room (Nat.le_of_ble_eq_true rfl)) dX1_openHydrants_18 ⟨Nat.le_of_ble_eq_true rfl, Nat.le_of_ble_eq_true rfl⟩) hP6 hS6 (fun r_18 H45 locs45 hq_18 hP45 hS45 => ?_)
          clear hP6 hS6 hPc44
          have hD45 := hD6
          clear hD6
          have hq_18 : r_18 = tAt (L 2) (c 11) (nI 0) := hq_18
          subst hq_18
          rcases tAt_or (hT 2 (by omega)).2 with hst | ⟨t, ht, hst⟩
          · rw [hst]
            refine lv_istore_n (lv' := [(3, .int (-1)), (0, .ref (qh 0)), (1, .ref (q 0)), (2, .int (nI 2))]) hx hb dX1_openHydrants_21 rfl hl6 (by decide) rfl (fun ls46 hl46 => ?_)
            clear hl6
            refine lv_iload_n hx hb dX1_openHydrants_22 rfl (lv_at hl46 0 rfl) ?_
            refine lv_if_lt (tgt := 32) hx hb dX1_openHydrants_23 (by decide) (fun c47 => ?_) (fun c47 => absurd (by decide) c47)
            refine lv_aload_n hx hb dX1_openHydrants_32 rfl (lv_at hl46 1 rfl) ?_
            refine r_get (own := RX1) (C := RX1) (F := TX1) (N := 3) (ci := 1) (v := .ref (qh 3)) hx hb hK hts in_X1 hown hP45 0 rfl rfl 2 (by decide) kw_127 rfl dX1_openHydrants_33 ?_
            refine lv_iload_n hx hb dX1_openHydrants_36 rfl (lv_at hl46 3 rfl) ?_
            refine lv_iconst (v := (-1)) hx hb dX1_openHydrants_37 (by decide) ?_
            refine r_iast hx hb hK hP45 hD45 hS45 3 (f := re1) (n := 3) rfl 2 (by decide) dX1_openHydrants_38 (by decide) (fun (H48 : Heap) (locs48 : List Loc) (hP48 : va_P D vwCl (fl [hO qh, aW T 0 (qh 1) 12 wk1, aW T 0 (qh 2) 3 dr1, aW T 0 (qh 3) 3 (upd re1 2 (-1)), sW T q c, tW T (q 11) (q 12) (nI (L 0)) (c 9), tW T (q 13) (q 14) (nI (L 1)) (c 10), tW T (q 15) (q 16) (nI (L 2)) (c 11)]) H48) (hD48 : va_D A (fl [hO qh, aW T 0 (qh 1) 12 wk1, aW T 0 (qh 2) 3 dr1, aW T 0 (qh 3) 3 (upd re1 2 (-1)), sW T q c, tW T (q 11) (q 12) (nI (L 0)) (c 9), tW T (q 13) (q 14) (nI (L 1)) (c 10), tW T (q 15) (q 16) (nI (L 2)) (c 11)])) hS48 => ?_)
            clear hP45 hD45 hS45
            refine lv_goto (tgt := 87) hx hb dX1_openHydrants_39 (by decide) ?_
            refine lv_iinc (v := nI 3) (lv' := [(2, .int (nI 3)), (3, .int (-1)), (0, .ref (qh 0)), (1, .ref (q 0))]) hx hb dX1_openHydrants_87 hl46 (k := 3) rfl (by decide) (by decide) rfl (fun ls49 hl49 => ?_)
            clear hl46
            refine lv_goto (tgt := 6) hx hb dX1_openHydrants_90 (by decide) ?_
            exact ih6 3 wk1 dr1 (upd re1 2 (-1)) (by omega) (by rw [opI, ← hw]; first | exact (opS_m1 (w := (wk1, dr1, re1)) hst).symm | exact (opS_t0 (w := (wk1, dr1, re1)) ht hst c_60).symm | exact (opS_t1 (w := (wk1, dr1, re1)) ht hst c_60).symm) (by omega) _ _ hP48 hD48 hS48 _ (lv_sub hl49 [2, 3, 0] rfl)
          · rw [hst]
            refine lv_istore_n (lv' := [(3, .int (nI t)), (0, .ref (qh 0)), (1, .ref (q 0)), (2, .int (nI 2))]) hx hb dX1_openHydrants_21 rfl hl6 (by decide) rfl (fun ls50 hl50 => ?_)
            clear hl6
            refine lv_iload_n hx hb dX1_openHydrants_22 rfl (lv_at hl50 0 rfl) ?_
            refine n_if_lt hx hb (by omega) dX1_openHydrants_23 32 (by decide) ?_
            refine lv_iload_n hx hb dX1_openHydrants_26 rfl (lv_at hl50 0 rfl) ?_
            refine lv_bipush (v := nI 12) hx hb dX1_openHydrants_27 (by decide) ?_
            refine n_icmp_lt (tgt := 42) hx hb (by omega) (by omega) dX1_openHydrants_29 (by decide) (fun c51 => ?_) (fun c51 => absurd (by omega) c51)
            refine lv_aload_n hx hb dX1_openHydrants_42 rfl (lv_at hl50 1 rfl) ?_
            refine r_get (own := RX1) (C := RX1) (F := TX1) (N := 3) (ci := 1) (v := .ref (qh 3)) hx hb hK hts in_X1 hown hP45 0 rfl rfl 2 (by decide) kw_127 rfl dX1_openHydrants_43 ?_
            refine lv_iload_n hx hb dX1_openHydrants_46 rfl (lv_at hl50 3 rfl) ?_
            refine lv_aload_n hx hb dX1_openHydrants_47 rfl (lv_at hl50 1 rfl) ?_
            refine lv_aload_n hx hb dX1_openHydrants_48 rfl (lv_at hl50 2 rfl) ?_
            refine lv_iload_n hx hb dX1_openHydrants_49 rfl (lv_at hl50 0 rfl) ?_
            have hPc52 : va_P D vwCl (fl [hO qh, aW T 0 (qh 1) 12 wk1, aW T 0 (qh 2) 3 dr1, aW T 0 (qh 3) 3 re1, sW T q c]) _ := flP_sub hP45 [0, 1, 2, 3, 4] rfl
            have hDc52 : va_D A (fl [hO qh, aW T 0 (qh 1) 12 wk1, aW T 0 (qh 2) 3 dr1, aW T 0 (qh 3) 3 re1, sW T q c]) := flD_sub hD45 [0, 1, 2, 3, 4] (by decide) rfl
            refine cl_i (br := [tW T (q 11) (q 12) (nI (L 0)) (c 9), tW T (q 13) (q 14) (nI (L 1)) (c 10), tW T (q 15) (q 16) (nI (L 2)) (c 11)]) (va_runV (As := [.ref (q 0), .int (nI t)]) (rest := [.int (nI 2), .ref (qh 3)]) ⟨hx, hb, hml, hown, hts⟩ (c_X1_reasonToWait l D T qh wk1 dr1 re1 q c t (by omega) _) (mkV hts okX1_reasonToWait kw_304 kw_306 ks_2 ⟨rfl, rfl, Nat.le_of_ble_eq_true rfl, Nat.le_of_ble_eq_true rfl⟩) (pv_rw hK hPc52 hDc52 (q0 := 0) rfl rfl rfl) rfl rfl hl50.1 rfl (lv_room (Nat.le_of_ble_eq_true rfl)) dX1_openHydrants_50 ⟨Nat.le_of_ble_eq_true rfl, Nat.le_of_ble_eq_true rfl⟩) hP45 hD45 hS45 hA [5, 6, 7] [0, 1, 2, 3, 4] rfl (by decide) (fun r_50 dr2_50 H53 locs53 hq_50 hP53 hD53 hS53 => ?_)
            clear hP45 hD45 hS45 hPc52 hDc52
            have hP53 : va_P D vwCl (fl [tW T (q 11) (q 12) (nI (L 0)) (c 9), tW T (q 13) (q 14) (nI (L 1)) (c 10), tW T (q 15) (q 16) (nI (L 2)) (c 11), hO qh, aW T 0 (qh 1) 12 wk1, aW T 0 (qh 2) 3 dr2_50, aW T 0 (qh 3) 3 re1, sW T q c]) _ := hP53
            have hD53 : va_D A (fl [tW T (q 11) (q 12) (nI (L 0)) (c 9), tW T (q 13) (q 14) (nI (L 1)) (c 10), tW T (q 15) (q 16) (nI (L 2)) (c 11), hO qh, aW T 0 (qh 1) 12 wk1, aW T 0 (qh 2) 3 dr2_50, aW T 0 (qh 3) 3 re1, sW T q c]) := hD53
            obtain ⟨hr_50, hq_50⟩ : r_50 = rsnC c wk1 dr1 t ∧ (dr1 = dr2_50) := hq_50
            subst hr_50
            have hu_dr2_50 : dr1 = dr2_50 := hq_50
            subst hu_dr2_50
            refine r_iast hx hb hK hP53 hD53 hS53 9 (f := re1) (n := 3) rfl 2 (by decide) dX1_openHydrants_53 (by decide) (fun (H54 : Heap) (locs54 : List Loc) (hP54 : va_P D vwCl (fl [tW T (q 11) (q 12) (nI (L 0)) (c 9), tW T (q 13) (q 14) (nI (L 1)) (c 10), tW T (q 15) (q 16) (nI (L 2)) (c 11), hO qh, aW T 0 (qh 1) 12 wk1, aW T 0 (qh 2) 3 dr1, aW T 0 (qh 3) 3 (upd re1 2 (rsnC c wk1 dr1 t)), sW T q c]) H54) (hD54 : va_D A (fl [tW T (q 11) (q 12) (nI (L 0)) (c 9), tW T (q 13) (q 14) (nI (L 1)) (c 10), tW T (q 15) (q 16) (nI (L 2)) (c 11), hO qh, aW T 0 (qh 1) 12 wk1, aW T 0 (qh 2) 3 dr1, aW T 0 (qh 3) 3 (upd re1 2 (rsnC c wk1 dr1 t)), sW T q c])) hS54 => ?_)
            clear hP53 hD53 hS53
            refine lv_aload_n hx hb dX1_openHydrants_54 rfl (lv_at hl50 1 rfl) ?_
            refine r_get (own := RX1) (C := RX1) (F := TX1) (N := 3) (ci := 1) (v := .ref (qh 3)) hx hb hK hts in_X1 hown hP54 6 rfl rfl 2 (by decide) kw_127 rfl dX1_openHydrants_55 ?_
            refine lv_iload_n hx hb dX1_openHydrants_58 rfl (lv_at hl50 3 rfl) ?_
            refine r_iald hx hb hK hP54 9 (f := (upd re1 2 (rsnC c wk1 dr1 t))) (n := 3) rfl 2 (by decide) dX1_openHydrants_59 (by decide) ?_
            refine lv_if_ne (tgt := 87) hx hb dX1_openHydrants_60 (by decide) (fun c_60 => ?_) (fun c_60 => ?_)
            · skip
              refine lv_iinc (v := nI 3) (lv' := [(2, .int (nI 3)), (3, .int (nI t)), (0, .ref (qh 0)), (1, .ref (q 0))]) hx hb dX1_openHydrants_87 hl50 (k := 3) rfl (by decide) (by decide) rfl (fun ls56 hl56 => ?_)
              clear hl50
              refine lv_goto (tgt := 6) hx hb dX1_openHydrants_90 (by decide) ?_
              have hP57 : va_P D vwCl (fl [hO qh, aW T 0 (qh 1) 12 wk1, aW T 0 (qh 2) 3 dr1, aW T 0 (qh 3) 3 (upd re1 2 (rsnC c wk1 dr1 t)), sW T q c, tW T (q 11) (q 12) (nI (L 0)) (c 9), tW T (q 13) (q 14) (nI (L 1)) (c 10), tW T (q 15) (q 16) (nI (L 2)) (c 11)]) _ := flP_sub hP54 [3, 4, 5, 6, 7, 0, 1, 2] rfl
              have hD57 : va_D A (fl [hO qh, aW T 0 (qh 1) 12 wk1, aW T 0 (qh 2) 3 dr1, aW T 0 (qh 3) 3 (upd re1 2 (rsnC c wk1 dr1 t)), sW T q c, tW T (q 11) (q 12) (nI (L 0)) (c 9), tW T (q 13) (q 14) (nI (L 1)) (c 10), tW T (q 15) (q 16) (nI (L 2)) (c 11)]) := flD_sub hD54 [3, 4, 5, 6, 7, 0, 1, 2] (by decide) rfl
              have hS57 := hS54
              clear hP54 hS54 hD54
              exact ih6 3 wk1 dr1 (upd re1 2 (rsnC c wk1 dr1 t)) (by omega) (by rw [opI, ← hw]; first | exact (opS_m1 (w := (wk1, dr1, re1)) hst).symm | exact (opS_t0 (w := (wk1, dr1, re1)) ht hst c_60).symm | exact (opS_t1 (w := (wk1, dr1, re1)) ht hst c_60).symm) (by omega) _ _ hP57 hD57 hS57 _ (lv_sub hl56 [2, 3, 0] rfl)
            · skip
              refine lv_aload_n hx hb dX1_openHydrants_63 rfl (lv_at hl50 1 rfl) ?_
              refine r_get (own := RX1) (C := RX1) (F := TX1) (N := 3) (ci := 1) (v := .ref (qh 1)) hx hb hK hts in_X1 hown hP54 6 rfl rfl 0 (by decide) kw_124 rfl dX1_openHydrants_64 ?_
              refine lv_iload_n hx hb dX1_openHydrants_67 rfl (lv_at hl50 0 rfl) ?_
              refine lv_iload_n hx hb dX1_openHydrants_68 rfl (lv_at hl50 3 rfl) ?_
              refine r_iast hx hb hK hP54 hD54 hS54 7 (f := wk1) (n := 12) rfl t (by decide) dX1_openHydrants_69 (by omega) (fun (H58 : Heap) (locs58 : List Loc) (hP58 : va_P D vwCl (fl [tW T (q 11) (q 12) (nI (L 0)) (c 9), tW T (q 13) (q 14) (nI (L 1)) (c 10), tW T (q 15) (q 16) (nI (L 2)) (c 11), hO qh, aW T 0 (qh 1) 12 (upd wk1 t (nI 2)), aW T 0 (qh 2) 3 dr1, aW T 0 (qh 3) 3 (upd re1 2 (rsnC c wk1 dr1 t)), sW T q c]) H58) (hD58 : va_D A (fl [tW T (q 11) (q 12) (nI (L 0)) (c 9), tW T (q 13) (q 14) (nI (L 1)) (c 10), tW T (q 15) (q 16) (nI (L 2)) (c 11), hO qh, aW T 0 (qh 1) 12 (upd wk1 t (nI 2)), aW T 0 (qh 2) 3 dr1, aW T 0 (qh 3) 3 (upd re1 2 (rsnC c wk1 dr1 t)), sW T q c])) hS58 => ?_)
              clear hP54 hD54 hS54
              refine lv_aload_n hx hb dX1_openHydrants_70 rfl (lv_at hl50 1 rfl) ?_
              refine r_get (own := RX1) (C := RX1) (F := TX1) (N := 3) (ci := 1) (v := .ref (qh 2)) hx hb hK hts in_X1 hown hP58 6 rfl rfl 1 (by decide) kw_125 rfl dX1_openHydrants_71 ?_
              refine lv_iload_n hx hb dX1_openHydrants_74 rfl (lv_at hl50 0 rfl) ?_
              refine lv_iconst (v := nI 4) hx hb dX1_openHydrants_75 (by decide) ?_
              refine lv_idiv hx hb dX1_openHydrants_76 (by decide) ?_
              refine tp_i (y := nI (t / 4)) (pk_div (by omega) (by omega) (by omega)) ?_
              refine lv_dup2_11 hx hb dX1_openHydrants_77 rfl rfl ?_
              refine r_iald hx hb hK hP58 8 (f := dr1) (n := 3) rfl (t / 4) (by decide) dX1_openHydrants_78 (by omega) ?_
              refine lv_aload_n hx hb dX1_openHydrants_79 rfl (lv_at hl50 2 rfl) ?_
              refine r_getN (own := RX1) (C := RX3) (F := TX3) (N := 13) (ci := 3) (v := .ref (q 5)) hx hb hK hts in_X3 hown hP58 10 rfl rfl 4 (by decide) kn_10 rfl dX1_openHydrants_80 ?_
              refine lv_iload_n hx hb dX1_openHydrants_83 rfl (lv_at hl50 0 rfl) ?_
              refine r_iald hx hb hK hP58 15 (f := (c 4)) (n := 12) rfl t (by decide) dX1_openHydrants_84 (by omega) ?_
              refine lv_iadd hx hb dX1_openHydrants_85 ?_
              refine r_iast hx hb hK hP58 hD58 hS58 8 (f := dr1) (n := 3) rfl (t / 4) (by decide) dX1_openHydrants_86 (by omega) (fun (H59 : Heap) (locs59 : List Loc) (hP59 : va_P D vwCl (fl [tW T (q 11) (q 12) (nI (L 0)) (c 9), tW T (q 13) (q 14) (nI (L 1)) (c 10), tW T (q 15) (q 16) (nI (L 2)) (c 11), hO qh, aW T 0 (qh 1) 12 (upd wk1 t (nI 2)), aW T 0 (qh 2) 3 (upd dr1 (t / 4) ((dr1 (t / 4)) + (c 4 t))), aW T 0 (qh 3) 3 (upd re1 2 (rsnC c wk1 dr1 t)), sW T q c]) H59) (hD59 : va_D A (fl [tW T (q 11) (q 12) (nI (L 0)) (c 9), tW T (q 13) (q 14) (nI (L 1)) (c 10), tW T (q 15) (q 16) (nI (L 2)) (c 11), hO qh, aW T 0 (qh 1) 12 (upd wk1 t (nI 2)), aW T 0 (qh 2) 3 (upd dr1 (t / 4) ((dr1 (t / 4)) + (c 4 t))), aW T 0 (qh 3) 3 (upd re1 2 (rsnC c wk1 dr1 t)), sW T q c])) hS59 => ?_)
              clear hP58 hD58 hS58
              refine lv_iinc (v := nI 3) (lv' := [(2, .int (nI 3)), (3, .int (nI t)), (0, .ref (qh 0)), (1, .ref (q 0))]) hx hb dX1_openHydrants_87 hl50 (k := 3) rfl (by decide) (by decide) rfl (fun ls60 hl60 => ?_)
              clear hl50
              refine lv_goto (tgt := 6) hx hb dX1_openHydrants_90 (by decide) ?_
              have hP61 : va_P D vwCl (fl [hO qh, aW T 0 (qh 1) 12 (upd wk1 t (nI 2)), aW T 0 (qh 2) 3 (upd dr1 (t / 4) ((dr1 (t / 4)) + (c 4 t))), aW T 0 (qh 3) 3 (upd re1 2 (rsnC c wk1 dr1 t)), sW T q c, tW T (q 11) (q 12) (nI (L 0)) (c 9), tW T (q 13) (q 14) (nI (L 1)) (c 10), tW T (q 15) (q 16) (nI (L 2)) (c 11)]) _ := flP_sub hP59 [3, 4, 5, 6, 7, 0, 1, 2] rfl
              have hD61 : va_D A (fl [hO qh, aW T 0 (qh 1) 12 (upd wk1 t (nI 2)), aW T 0 (qh 2) 3 (upd dr1 (t / 4) ((dr1 (t / 4)) + (c 4 t))), aW T 0 (qh 3) 3 (upd re1 2 (rsnC c wk1 dr1 t)), sW T q c, tW T (q 11) (q 12) (nI (L 0)) (c 9), tW T (q 13) (q 14) (nI (L 1)) (c 10), tW T (q 15) (q 16) (nI (L 2)) (c 11)]) := flD_sub hD59 [3, 4, 5, 6, 7, 0, 1, 2] (by decide) rfl
              have hS61 := hS59
              clear hP59 hS59 hD59
              exact ih6 3 (upd wk1 t (nI 2)) (upd dr1 (t / 4) ((dr1 (t / 4)) + (c 4 t))) (upd re1 2 (rsnC c wk1 dr1 t)) (by omega) (by rw [opI, ← hw]; first | exact (opS_m1 (w := (wk1, dr1, re1)) hst).symm | exact (opS_t0 (w := (wk1, dr1, re1)) ht hst c_60).symm | exact (opS_t1 (w := (wk1, dr1, re1)) ht hst c_60).symm) (by omega) _ _ hP61 hD61 hS61 _ (lv_sub hl60 [2, 3, 0] rfl)
  exact loop6 ((3 - 0) + 1) 0 (fillF wk 12 (-1)) (fillF dr 3 (nI 0)) re (by omega) (rfl) (Nat.lt_succ_self _) _ _ hP4 hD4 hS4 _ (lv_sub hl3 [1, 2, 0] rfl)
set_option maxHeartbeats 4000000 in
set_option maxRecDepth 100000 in
theorem c_X1_flushOut (l : Launch) (D : va_G) (T : TI) (qh : Nat → Nat) (wk : Nat → Int32) (dr : Nat → Int32) (re : Nat → Int32) (q : Nat → Nat) (c : Nat → Nat → Int32) (L : Nat → Nat) (hW : ∀ i, i < 12 → wk i = -1 ∨ ∃ k, k < 3 ∧ wk i = nI k) (hL : ∀ k, k < 3 → L k ≤ 8) : CV l yX1_flushOut cX1_flushOut 6 (rmD 2 0 0) D T [.ref (qh 0), .ref (q 0)] [hO qh, aW T 0 (qh 1) 12 wk, aW T 0 (qh 2) 3 dr, aW T 0 (qh 3) 3 re, sW T q c, tW T (q 11) (q 12) (nI (L 0)) (c 9), tW T (q 13) (q 14) (nI (L 1)) (c 10), tW T (q 15) (q 16) (nI (L 2)) (c 11)] 0 0 (β := (Nat → Nat → Int32) × (Nat → Nat)) (fun ⟨c2, L2⟩ => [hO qh, aW T 0 (qh 1) 12 wk, aW T 0 (qh 2) 3 dr, aW T 0 (qh 3) 3 re, sW T q c2, tW T (q 11) (q 12) (nI (L2 0)) (c2 9), tW T (q 13) (q 14) (nI (L2 1)) (c2 10), tW T (q 15) (q 16) (nI (L2 2)) (c2 11)]) (fun ⟨c2, L2⟩ => (c2, L2) = flI wk dr (c, L) 12) := by
  intro sz
  refine met_rw (Qc := fun A => va_Qv _ (PST D _ A) A) rfl (Nat.le_of_ble_eq_true rfl) ?_
  intro pX eX sX mX bX mtX cX A hAe hC hA hP0 hD0 hS0 ls0 hl0 TG hTG
  clear hAe
  obtain ⟨hx, hb, hr, hml, hown, hts, hlocks, hin, hK⟩ := hC
  have hown : sX.vm.findClass RX1 = some mX.cls := hown
  have hl0 : lv_has ls0 6 [(0, .ref (qh 0)), (1, .ref (q 0))] := hl0
  refine lv_iconst (v := nI 0) hx hb dX1_flushOut_0 (by decide) ?_
  refine lv_istore_n (lv' := [(2, .int (nI 0)), (0, .ref (qh 0)), (1, .ref (q 0))]) hx hb dX1_flushOut_1 rfl hl0 (by decide) rfl (fun ls1 hl1 => ?_)
  clear hl0
  have loop2 : ∀ (n_ : Nat) (i : Nat) (c1 : Nat → Nat → Int32) (L1 : Nat → Nat), (i ≤ 12) → ((c1, L1) = flI wk dr (c, L) i) → (∀ k, k < 3 → L1 k ≤ 8) → (12 - i) < n_ → ∀ (H : Heap) (locs : List Loc), va_P D vwCl (fl [hO qh, aW T 0 (qh 1) 12 wk, aW T 0 (qh 2) 3 dr, aW T 0 (qh 3) 3 re, sW T q c1, tW T (q 11) (q 12) (nI (L1 0)) (c1 9), tW T (q 13) (q 14) (nI (L1 1)) (c1 10), tW T (q 15) (q 16) (nI (L1 2)) (c1 11)]) H → va_D A (fl [hO qh, aW T 0 (qh 1) 12 wk, aW T 0 (qh 2) 3 dr, aW T 0 (qh 3) 3 re, sW T q c1, tW T (q 11) (q 12) (nI (L1 0)) (c1 9), tW T (q 13) (q 14) (nI (L1 1)) (c1 10), tW T (q 15) (q 16) (nI (L1 2)) (c1 11)]) → va_S A sX.heap H locs → ∀ ls : Array Slot, lv_has ls 6 [(0, .ref (qh 0)), (1, .ref (q 0)), (2, .int (nI i))] → W pX l eX (rmD 2 0 0) sX mX ([.ref (qh 0), .ref (q 0)] : List Value).toArray bX mtX cX H locs 0 0 TG (F0 mX 2 ls []) := by
    intro n_
    induction n_ with
    | zero => intro i c1 L1 hi hf hL1 hmu_ ; exact absurd hmu_ (Nat.not_lt_zero _)
    | succ n_ ih2 =>
      intro i c1 L1 hi hf hL1 hmu_2 H3 locs3 hP3 hD3 hS3 ls3 hl3
      refine lv_iload_n hx hb dX1_flushOut_2 rfl (lv_at hl3 2 rfl) ?_
      refine lv_bipush (v := nI 12) hx hb dX1_flushOut_3 (by decide) ?_
      refine n_icmp_ge (tgt := 114) hx hb (by omega) (by omega) dX1_flushOut_5 (by decide) (fun c_5 => ?_) (fun c_5 => ?_)
      · skip
        have hi2 : i = 12 := by omega
        subst hi2
        refine ret_v hTG (Nat.le_refl _) (Nat.le_refl _) hx hb hr hlocks ((c1, L1)) hP3 hD3 hS3 [0, 1, 2, 3, 4, 5, 6, 7] rfl (by decide) dX1_flushOut_114 ?_
        exact hf
      · skip
        refine lv_aload_n hx hb dX1_flushOut_8 rfl (lv_at hl3 0 rfl) ?_
        refine r_get (own := RX1) (C := RX1) (F := TX1) (N := 3) (ci := 1) (v := .ref (qh 1)) hx hb hK hts in_X1 hown hP3 0 rfl rfl 0 (by decide) kw_124 rfl dX1_flushOut_9 ?_
        refine lv_iload_n hx hb dX1_flushOut_12 rfl (lv_at hl3 2 rfl) ?_
        refine r_iald hx hb hK hP3 1 (f := wk) (n := 12) rfl i (by decide) dX1_flushOut_13 (by omega) ?_
        rcases hW i (by omega) with hwk | ⟨k, hk, hwk⟩
        · rw [hwk]
          refine lv_istore_n (lv' := [(3, .int (-1)), (0, .ref (qh 0)), (1, .ref (q 0)), (2, .int (nI i))]) hx hb dX1_flushOut_14 rfl hl3 (by decide) rfl (fun ls5 hl5 => ?_)
          clear hl3
          refine lv_iload_n hx hb dX1_flushOut_15 rfl (lv_at hl5 0 rfl) ?_
          refine lv_if_lt (tgt := 108) hx hb dX1_flushOut_16 (by decide) (fun c6 => ?_) (fun c6 => absurd (by decide) c6)
          refine lv_iinc (v := nI (i + 1)) (lv' := [(2, .int (nI (i + 1))), (3, .int (-1)), (0, .ref (qh 0)), (1, .ref (q 0))]) hx hb dX1_flushOut_108 hl5 (k := 3) rfl (nI_add i 1) (by decide) rfl (fun ls7 hl7 => ?_)
          clear hl5
          refine lv_goto (tgt := 2) hx hb dX1_flushOut_111 (by decide) ?_
          have hf' : (c1, L1) = flI wk dr (c, L) (i + 1) := by rw [flI, ← hf, flS_m1 hwk]
          have hL1' := hL1
          exact ih2 (i + 1) c1 L1 (by omega) (hf') (hL1') (by omega) _ _ hP3 hD3 hS3 _ (lv_sub hl7 [2, 3, 0] rfl)
        · rw [hwk]
          refine lv_istore_n (lv' := [(3, .int (nI k)), (0, .ref (qh 0)), (1, .ref (q 0)), (2, .int (nI i))]) hx hb dX1_flushOut_14 rfl hl3 (by decide) rfl (fun ls8 hl8 => ?_)
          clear hl3
          refine lv_iload_n hx hb dX1_flushOut_15 rfl (lv_at hl8 0 rfl) ?_
          refine n_if_lt hx hb (by omega) dX1_flushOut_16 108 (by decide) ?_
          refine lv_iload_n hx hb dX1_flushOut_19 rfl (lv_at hl8 0 rfl) ?_
          refine lv_iconst (v := nI 3) hx hb dX1_flushOut_20 (by decide) ?_
          refine n_icmp_lt (tgt := 27) hx hb (by omega) (by omega) dX1_flushOut_21 (by decide) (fun c9 => ?_) (fun c9 => absurd (by omega) c9)
          refine lv_aload_n hx hb dX1_flushOut_27 rfl (lv_at hl8 2 rfl) ?_
          refine lv_iload_n hx hb dX1_flushOut_28 rfl (lv_at hl8 3 rfl) ?_
          refine lv_aload_n hx hb dX1_flushOut_29 rfl (lv_at hl8 1 rfl) ?_
          refine r_get (own := RX1) (C := RX1) (F := TX1) (N := 3) (ci := 1) (v := .ref (qh 2)) hx hb hK hts in_X1 hown hP3 0 rfl rfl 1 (by decide) kw_125 rfl dX1_flushOut_30 ?_
          have hPc10 : va_P D vwCl (fl [sW T q c1, aW T 0 (qh 2) 3 dr]) _ := hP3.sub [4, 5, 6, 7, 8, 9, 10, 11, 12, 13, 14, 2] rfl
          refine cr_i (va_runV (As := [.int (nI i), .ref (qh 2)]) (rest := []) ⟨hx, hb, hml, hown, hts⟩ (c_X3_pressureAt l D T q c1 i (qh 2) dr (by omega)) (mkV hts okX3_pressureAt kw_308 kw_309 kw_310 ⟨rfl, rfl, Nat.le_of_ble_eq_true rfl, Nat.le_of_ble_eq_true rfl⟩) (pv_ro hK hPc10 (q0 := 0) rfl rfl rfl) rfl rfl hl8.1 rfl (lv_room (Nat.le_of_ble_eq_true rfl)) dX1_flushOut_33 ⟨Nat.le_of_ble_eq_true rfl, Nat.le_of_ble_eq_true rfl⟩) hP3 hS3 (fun r_33 H11 locs11 hq_33 hP11 hS11 => ?_)
          clear hP3 hS3 hPc10
          have hD11 := hD3
          clear hD3
          have hq_33 : r_33 = prC c1 dr i := hq_33
          subst hq_33
          refine lv_aload_n hx hb dX1_flushOut_36 rfl (lv_at hl8 2 rfl) ?_
          refine r_getN (own := RX1) (C := RX3) (F := TX3) (N := 13) (ci := 3) (v := .ref (q 3)) hx hb hK hts in_X3 hown hP11 4 rfl rfl 2 (by decide) kn_5 rfl dX1_flushOut_37 ?_
          refine lv_iconst (v := nI 2) hx hb dX1_flushOut_40 (by decide) ?_
          refine r_iald hx hb hK hP11 7 (f := (c1 2)) (n := 4) rfl 2 (by decide) dX1_flushOut_41 (by decide) ?_
          refine lv_imul hx hb dX1_flushOut_42 ?_
          refine lv_istore (lv' := [(4, .int ((prC c1 dr i) * (c1 2 2))), (3, .int (nI k)), (0, .ref (qh 0)), (1, .ref (q 0)), (2, .int (nI i))]) hx hb dX1_flushOut_43 hl8 (by decide) rfl (fun ls12 hl12 => ?_)
          clear hl8
          refine lv_iload hx hb dX1_flushOut_45 (lv_at hl12 0 rfl) ?_
          refine lv_aload_n hx hb dX1_flushOut_47 rfl (lv_at hl12 3 rfl) ?_
          refine r_getN (own := RX1) (C := RX3) (F := TX3) (N := 13) (ci := 3) (v := .ref (q 4)) hx hb hK hts in_X3 hown hP11 4 rfl rfl 3 (by decide) kn_8 rfl dX1_flushOut_48 ?_
          refine lv_iload_n hx hb dX1_flushOut_51 rfl (lv_at hl12 4 rfl) ?_
          refine r_iald hx hb hK hP11 8 (f := (c1 3)) (n := 12) rfl i (by decide) dX1_flushOut_52 (by omega) ?_
          refine va_mmin hx hb (by rw [hml]; exact hl12.1.symm) hown (hts _ kw_324) (hts _ kw_325) (hts _ kw_13) (hts _ kmin) (Nat.le_of_ble_eq_true rfl) (Nat.le_of_ble_eq_true rfl) (Nat.le_of_ble_eq_true rfl) (Nat.le_of_ble_eq_true rfl) dX1_flushOut_53 ?_
          refine lv_topi (fun x5 e_x5 => ?_)
          refine lv_istore (lv' := [(5, .int x5), (4, .int ((prC c1 dr i) * (c1 2 2))), (3, .int (nI k)), (0, .ref (qh 0)), (1, .ref (q 0)), (2, .int (nI i))]) hx hb dX1_flushOut_56 hl12 (by decide) rfl (fun ls13 hl13 => ?_)
          clear hl12
          refine lv_aload_n hx hb dX1_flushOut_58 rfl (lv_at hl13 4 rfl) ?_
          refine r_getN (own := RX1) (C := RX3) (F := TX3) (N := 13) (ci := 3) (v := .ref (q 4)) hx hb hK hts in_X3 hown hP11 4 rfl rfl 3 (by decide) kn_8 rfl dX1_flushOut_59 ?_
          refine lv_iload_n hx hb dX1_flushOut_62 rfl (lv_at hl13 5 rfl) ?_
          refine lv_dup2_11 hx hb dX1_flushOut_63 rfl rfl ?_
          refine r_iald hx hb hK hP11 8 (f := (c1 3)) (n := 12) rfl i (by decide) dX1_flushOut_64 (by omega) ?_
          refine lv_iload hx hb dX1_flushOut_65 (lv_at hl13 0 rfl) ?_
          refine lv_isub hx hb dX1_flushOut_67 ?_
          refine r_iast hx hb hK hP11 hD11 hS11 8 (f := (c1 3)) (n := 12) rfl i (by decide) dX1_flushOut_68 (by omega) (fun (H14 : Heap) (locs14 : List Loc) (hP14 : va_P D vwCl (fl [hO qh, aW T 0 (qh 1) 12 wk, aW T 0 (qh 2) 3 dr, aW T 0 (qh 3) 3 re, sW T q (vset c1 3 (upd (c1 3) i ((c1 3 i) - x5))), tW T (q 11) (q 12) (nI (L1 0)) (c1 9), tW T (q 13) (q 14) (nI (L1 1)) (c1 10), tW T (q 15) (q 16) (nI (L1 2)) (c1 11)]) H14) (hD14 : va_D A (fl [hO qh, aW T 0 (qh 1) 12 wk, aW T 0 (qh 2) 3 dr, aW T 0 (qh 3) 3 re, sW T q (vset c1 3 (upd (c1 3) i ((c1 3 i) - x5))), tW T (q 11) (q 12) (nI (L1 0)) (c1 9), tW T (q 13) (q 14) (nI (L1 1)) (c1 10), tW T (q 15) (q 16) (nI (L1 2)) (c1 11)])) hS14 => ?_)
          clear hP11 hD11 hS11
          refine lv_aload_n hx hb dX1_flushOut_69 rfl (lv_at hl13 4 rfl) ?_
          refine r_getN (own := RX1) (C := RX3) (F := TX3) (N := 13) (ci := 3) (v := .ref (q 8)) hx hb hK hts in_X3 hown hP14 4 rfl rfl 7 (by decide) kn_14 rfl dX1_flushOut_70 ?_
          refine lv_iload_n hx hb dX1_flushOut_73 rfl (lv_at hl13 5 rfl) ?_
          refine lv_dup2_11 hx hb dX1_flushOut_74 rfl rfl ?_
          refine r_iald hx hb hK hP14 12 (f := ((vset c1 3 (upd (c1 3) i ((c1 3 i) - x5))) 7)) (n := 12) rfl i (by decide) dX1_flushOut_75 (by omega) ?_
          refine lv_iload hx hb dX1_flushOut_76 (lv_at hl13 0 rfl) ?_
          refine lv_iadd hx hb dX1_flushOut_78 ?_
          refine r_iast hx hb hK hP14 hD14 hS14 12 (f := ((vset c1 3 (upd (c1 3) i ((c1 3 i) - x5))) 7)) (n := 12) rfl i (by decide) dX1_flushOut_79 (by omega) (fun (H15 : Heap) (locs15 : List Loc) (hP15 : va_P D vwCl (fl [hO qh, aW T 0 (qh 1) 12 wk, aW T 0 (qh 2) 3 dr, aW T 0 (qh 3) 3 re, sW T q (vset (vset c1 3 (upd (c1 3) i ((c1 3 i) - x5))) 7 (upd ((vset c1 3 (upd (c1 3) i ((c1 3 i) - x5))) 7) i ((((vset c1 3 (upd (c1 3) i ((c1 3 i) - x5))) 7) i) + x5))), tW T (q 11) (q 12) (nI (L1 0)) (c1 9), tW T (q 13) (q 14) (nI (L1 1)) (c1 10), tW T (q 15) (q 16) (nI (L1 2)) (c1 11)]) H15) (hD15 : va_D A (fl [hO qh, aW T 0 (qh 1) 12 wk, aW T 0 (qh 2) 3 dr, aW T 0 (qh 3) 3 re, sW T q (vset (vset c1 3 (upd (c1 3) i ((c1 3 i) - x5))) 7 (upd ((vset c1 3 (upd (c1 3) i ((c1 3 i) - x5))) 7) i ((((vset c1 3 (upd (c1 3) i ((c1 3 i) - x5))) 7) i) + x5))), tW T (q 11) (q 12) (nI (L1 0)) (c1 9), tW T (q 13) (q 14) (nI (L1 1)) (c1 10), tW T (q 15) (q 16) (nI (L1 2)) (c1 11)])) hS15 => ?_)
          clear hP14 hD14 hS14
          refine lv_aload_n hx hb dX1_flushOut_80 rfl (lv_at hl13 4 rfl) ?_
          refine r_getN (own := RX1) (C := RX3) (F := TX3) (N := 13) (ci := 3) (v := .ref (q 9)) hx hb hK hts in_X3 hown hP15 4 rfl rfl 8 (by decide) kn_16 rfl dX1_flushOut_81 ?_
          refine lv_iload_n hx hb dX1_flushOut_84 rfl (lv_at hl13 5 rfl) ?_
          refine lv_dup2_11 hx hb dX1_flushOut_85 rfl rfl ?_
          refine r_iald hx hb hK hP15 13 (f := ((vset (vset c1 3 (upd (c1 3) i ((c1 3 i) - x5))) 7 (upd ((vset c1 3 (upd (c1 3) i ((c1 3 i) - x5))) 7) i ((((vset c1 3 (upd (c1 3) i ((c1 3 i) - x5))) 7) i) + x5))) 8)) (n := 12) rfl i (by decide) dX1_flushOut_86 (by omega) ?_
          refine lv_iconst (v := nI 1) hx hb dX1_flushOut_87 (by decide) ?_
          refine lv_iadd hx hb dX1_flushOut_88 ?_
          refine r_iast hx hb hK hP15 hD15 hS15 13 (f := ((vset (vset c1 3 (upd (c1 3) i ((c1 3 i) - x5))) 7 (upd ((vset c1 3 (upd (c1 3) i ((c1 3 i) - x5))) 7) i ((((vset c1 3 (upd (c1 3) i ((c1 3 i) - x5))) 7) i) + x5))) 8)) (n := 12) rfl i (by decide) dX1_flushOut_89 (by omega) (fun (H16 : Heap) (locs16 : List Loc) (hP16 : va_P D vwCl (fl [hO qh, aW T 0 (qh 1) 12 wk, aW T 0 (qh 2) 3 dr, aW T 0 (qh 3) 3 re, sW T q (vset (vset (vset c1 3 (upd (c1 3) i ((c1 3 i) - x5))) 7 (upd ((vset c1 3 (upd (c1 3) i ((c1 3 i) - x5))) 7) i ((((vset c1 3 (upd (c1 3) i ((c1 3 i) - x5))) 7) i) + x5))) 8 (upd ((vset (vset c1 3 (upd (c1 3) i ((c1 3 i) - x5))) 7 (upd ((vset c1 3 (upd (c1 3) i ((c1 3 i) - x5))) 7) i ((((vset c1 3 (upd (c1 3) i ((c1 3 i) - x5))) 7) i) + x5))) 8) i ((((vset (vset c1 3 (upd (c1 3) i ((c1 3 i) - x5))) 7 (upd ((vset c1 3 (upd (c1 3) i ((c1 3 i) - x5))) 7) i ((((vset c1 3 (upd (c1 3) i ((c1 3 i) - x5))) 7) i) + x5))) 8) i) + (nI 1)))), tW T (q 11) (q 12) (nI (L1 0)) (c1 9), tW T (q 13) (q 14) (nI (L1 1)) (c1 10), tW T (q 15) (q 16) (nI (L1 2)) (c1 11)]) H16) (hD16 : va_D A (fl [hO qh, aW T 0 (qh 1) 12 wk, aW T 0 (qh 2) 3 dr, aW T 0 (qh 3) 3 re, sW T q (vset (vset (vset c1 3 (upd (c1 3) i ((c1 3 i) - x5))) 7 (upd ((vset c1 3 (upd (c1 3) i ((c1 3 i) - x5))) 7) i ((((vset c1 3 (upd (c1 3) i ((c1 3 i) - x5))) 7) i) + x5))) 8 (upd ((vset (vset c1 3 (upd (c1 3) i ((c1 3 i) - x5))) 7 (upd ((vset c1 3 (upd (c1 3) i ((c1 3 i) - x5))) 7) i ((((vset c1 3 (upd (c1 3) i ((c1 3 i) - x5))) 7) i) + x5))) 8) i ((((vset (vset c1 3 (upd (c1 3) i ((c1 3 i) - x5))) 7 (upd ((vset c1 3 (upd (c1 3) i ((c1 3 i) - x5))) 7) i ((((vset c1 3 (upd (c1 3) i ((c1 3 i) - x5))) 7) i) + x5))) 8) i) + (nI 1)))), tW T (q 11) (q 12) (nI (L1 0)) (c1 9), tW T (q 13) (q 14) (nI (L1 1)) (c1 10), tW T (q 15) (q 16) (nI (L1 2)) (c1 11)])) hS16 => ?_)
          clear hP15 hD15 hS15
          refine lv_aload_n hx hb dX1_flushOut_90 rfl (lv_at hl13 4 rfl) ?_
          refine r_getN (own := RX1) (C := RX3) (F := TX3) (N := 13) (ci := 3) (v := .ref (q 4)) hx hb hK hts in_X3 hown hP16 4 rfl rfl 3 (by decide) kn_8 rfl dX1_flushOut_91 ?_
          refine lv_iload_n hx hb dX1_flushOut_94 rfl (lv_at hl13 5 rfl) ?_
          refine r_iald hx hb hK hP16 8 (f := ((vset (vset (vset c1 3 (upd (c1 3) i ((c1 3 i) - x5))) 7 (upd ((vset c1 3 (upd (c1 3) i ((c1 3 i) - x5))) 7) i ((((vset c1 3 (upd (c1 3) i ((c1 3 i) - x5))) 7) i) + x5))) 8 (upd ((vset (vset c1 3 (upd (c1 3) i ((c1 3 i) - x5))) 7 (upd ((vset c1 3 (upd (c1 3) i ((c1 3 i) - x5))) 7) i ((((vset c1 3 (upd (c1 3) i ((c1 3 i) - x5))) 7) i) + x5))) 8) i ((((vset (vset c1 3 (upd (c1 3) i ((c1 3 i) - x5))) 7 (upd ((vset c1 3 (upd (c1 3) i ((c1 3 i) - x5))) 7) i ((((vset c1 3 (upd (c1 3) i ((c1 3 i) - x5))) 7) i) + x5))) 8) i) + (nI 1)))) 3)) (n := 12) rfl i (by decide) dX1_flushOut_95 (by omega) ?_
          refine lv_if_ne (tgt := 108) hx hb dX1_flushOut_96 (by decide) (fun c_96 => ?_) (fun c_96 => ?_)
          · skip
            refine lv_iinc (v := nI (i + 1)) (lv' := [(2, .int (nI (i + 1))), (5, .int x5), (4, .int ((prC c1 dr i) * (c1 2 2))), (3, .int (nI k)), (0, .ref (qh 0)), (1, .ref (q 0))]) hx hb dX1_flushOut_108 hl13 (k := 5) rfl (nI_add i 1) (by decide) rfl (fun ls18 hl18 => ?_)
            clear hl13
            refine lv_goto (tgt := 2) hx hb dX1_flushOut_111 (by decide) ?_
            have hf' : (flC c1 i x5, L1) = flI wk dr (c, L) (i + 1) := by rw [flI, ← hf]; exact (flS_nd (w := (c1, L1)) hwk hk e_x5 c_96).symm
            have hL1' := hL1
            exact ih2 (i + 1) (flC c1 i x5) L1 (by omega) (hf') (hL1') (by omega) _ _ hP16 hD16 hS16 _ (lv_sub hl18 [4, 5, 0] rfl)
          · skip
            rcases (show k = 0 ∨ k = 1 ∨ k = 2 by omega) with rfl | rfl | rfl
            · skip
              refine lv_aload_n hx hb dX1_flushOut_99 rfl (lv_at hl13 4 rfl) ?_
              refine r_getN (own := RX1) (C := RX3) (F := TX3) (N := 13) (ci := 3) (v := .ref (q 10)) hx hb hK hts in_X3 hown hP16 4 rfl rfl 9 (by decide) kn_18 rfl dX1_flushOut_100 ?_
              refine lv_iload_n hx hb dX1_flushOut_103 rfl (lv_at hl13 2 rfl) ?_
              refine r_aald (C := RX4) (v := (q 11)) hx hb hK hP16 14 2 rfl rfl 0 (by decide) dX1_flushOut_104 (by decide) rfl ?_
              have hPc19 : va_P D vwCl (fl [tW T (q 11) (q 12) (nI (L1 0)) (c1 9)]) _ := flP_sub hP16 [5] rfl
              have hDc19 : va_D A (fl [tW T (q 11) (q 12) (nI (L1 0)) (c1 9)]) := flD_sub hD16 [5] (by decide) rfl
              refine cl_v (br := [hO qh, aW T 0 (qh 1) 12 wk, aW T 0 (qh 2) 3 dr, aW T 0 (qh 3) 3 re, sW T q (vset (vset (vset c1 3 (upd (c1 3) i ((c1 3 i) - x5))) 7 (upd ((vset c1 3 (upd (c1 3) i ((c1 3 i) - x5))) 7) i ((((vset c1 3 (upd (c1 3) i ((c1 3 i) - x5))) 7) i) + x5))) 8 (upd ((vset (vset c1 3 (upd (c1 3) i ((c1 3 i) - x5))) 7 (upd ((vset c1 3 (upd (c1 3) i ((c1 3 i) - x5))) 7) i ((((vset c1 3 (upd (c1 3) i ((c1 3 i) - x5))) 7) i) + x5))) 8) i ((((vset (vset c1 3 (upd (c1 3) i ((c1 3 i) - x5))) 7 (upd ((vset c1 3 (upd (c1 3) i ((c1 3 i) - x5))) 7) i ((((vset c1 3 (upd (c1 3) i ((c1 3 i) - x5))) 7) i) + x5))) 8) i) + (nI 1)))), tW T (q 13) (q 14) (nI (L1 1)) (c1 10), tW T (q 15) (q 16) (nI (L1 2)) (c1 11)]) (va_runV (As := []) (rest := []) ⟨hx, hb, hml, hown, hts⟩ (c_X4_dropFirst l D T (q 11) (q 12) (L1 0) (c1 9) (hL1 0 (by omega)) _) (mkV hts okX4_dropFirst kw_327 kw_328 kw_329 ⟨rfl, rfl, Nat.le_of_ble_eq_true rfl, Nat.le_of_ble_eq_true rfl⟩) (pv_rw hK hPc19 hDc19 (q0 := 0) rfl rfl rfl) rfl rfl hl13.1 rfl (lv_room (Nat.le_of_ble_eq_true rfl)) dX1_flushOut_105 ⟨Nat.le_of_ble_eq_true rfl, Nat.le_of_ble_eq_true rfl⟩) hP16 hD16 hS16 hA [0, 1, 2, 3, 4, 6, 7] [5] rfl (by decide) (fun f2_105 H20 locs20 hq_105 hP20 hD20 hS20 => ?_)
              clear hP16 hD16 hS16 hPc19 hDc19
              have hP20 : va_P D vwCl (fl [hO qh, aW T 0 (qh 1) 12 wk, aW T 0 (qh 2) 3 dr, aW T 0 (qh 3) 3 re, sW T q (vset (vset (vset c1 3 (upd (c1 3) i ((c1 3 i) - x5))) 7 (upd ((vset c1 3 (upd (c1 3) i ((c1 3 i) - x5))) 7) i ((((vset c1 3 (upd (c1 3) i ((c1 3 i) - x5))) 7) i) + x5))) 8 (upd ((vset (vset c1 3 (upd (c1 3) i ((c1 3 i) - x5))) 7 (upd ((vset c1 3 (upd (c1 3) i ((c1 3 i) - x5))) 7) i ((((vset c1 3 (upd (c1 3) i ((c1 3 i) - x5))) 7) i) + x5))) 8) i ((((vset (vset c1 3 (upd (c1 3) i ((c1 3 i) - x5))) 7 (upd ((vset c1 3 (upd (c1 3) i ((c1 3 i) - x5))) 7) i ((((vset c1 3 (upd (c1 3) i ((c1 3 i) - x5))) 7) i) + x5))) 8) i) + (nI 1)))), tW T (q 13) (q 14) (nI (L1 1)) (c1 10), tW T (q 15) (q 16) (nI (L1 2)) (c1 11), tW T (q 11) (q 12) (nI ((L1 0) - 1)) f2_105]) _ := hP20
              have hD20 : va_D A (fl [hO qh, aW T 0 (qh 1) 12 wk, aW T 0 (qh 2) 3 dr, aW T 0 (qh 3) 3 re, sW T q (vset (vset (vset c1 3 (upd (c1 3) i ((c1 3 i) - x5))) 7 (upd ((vset c1 3 (upd (c1 3) i ((c1 3 i) - x5))) 7) i ((((vset c1 3 (upd (c1 3) i ((c1 3 i) - x5))) 7) i) + x5))) 8 (upd ((vset (vset c1 3 (upd (c1 3) i ((c1 3 i) - x5))) 7 (upd ((vset c1 3 (upd (c1 3) i ((c1 3 i) - x5))) 7) i ((((vset c1 3 (upd (c1 3) i ((c1 3 i) - x5))) 7) i) + x5))) 8) i ((((vset (vset c1 3 (upd (c1 3) i ((c1 3 i) - x5))) 7 (upd ((vset c1 3 (upd (c1 3) i ((c1 3 i) - x5))) 7) i ((((vset c1 3 (upd (c1 3) i ((c1 3 i) - x5))) 7) i) + x5))) 8) i) + (nI 1)))), tW T (q 13) (q 14) (nI (L1 1)) (c1 10), tW T (q 15) (q 16) (nI (L1 2)) (c1 11), tW T (q 11) (q 12) (nI ((L1 0) - 1)) f2_105]) := hD20
              have hq_105 : drF (L1 0) (c1 9) = f2_105 := hq_105
              have hu_f2_105 : drF (L1 0) (c1 9) = f2_105 := hq_105
              subst hu_f2_105
              refine lv_iinc (v := nI (i + 1)) (lv' := [(2, .int (nI (i + 1))), (5, .int x5), (4, .int ((prC c1 dr i) * (c1 2 2))), (3, .int (nI 0)), (0, .ref (qh 0)), (1, .ref (q 0))]) hx hb dX1_flushOut_108 hl13 (k := 5) rfl (nI_add i 1) (by decide) rfl (fun ls21 hl21 => ?_)
              clear hl13
              refine lv_goto (tgt := 2) hx hb dX1_flushOut_111 (by decide) ?_
              have hf' : (vset (flC c1 i x5) 9 (drF (L1 0) (c1 9)), upN L1 0 (L1 0 - 1)) = flI wk dr (c, L) (i + 1) := by rw [flI, ← hf]; exact (flS_d (w := (c1, L1)) hwk (by omega) e_x5 c_96).symm
              have hL1' := upN_le hL1 0 (by omega)
              have hP22 : va_P D vwCl (fl [hO qh, aW T 0 (qh 1) 12 wk, aW T 0 (qh 2) 3 dr, aW T 0 (qh 3) 3 re, sW T q (vset (vset (vset c1 3 (upd (c1 3) i ((c1 3 i) - x5))) 7 (upd ((vset c1 3 (upd (c1 3) i ((c1 3 i) - x5))) 7) i ((((vset c1 3 (upd (c1 3) i ((c1 3 i) - x5))) 7) i) + x5))) 8 (upd ((vset (vset c1 3 (upd (c1 3) i ((c1 3 i) - x5))) 7 (upd ((vset c1 3 (upd (c1 3) i ((c1 3 i) - x5))) 7) i ((((vset c1 3 (upd (c1 3) i ((c1 3 i) - x5))) 7) i) + x5))) 8) i ((((vset (vset c1 3 (upd (c1 3) i ((c1 3 i) - x5))) 7 (upd ((vset c1 3 (upd (c1 3) i ((c1 3 i) - x5))) 7) i ((((vset c1 3 (upd (c1 3) i ((c1 3 i) - x5))) 7) i) + x5))) 8) i) + (nI 1)))), tW T (q 11) (q 12) (nI ((L1 0) - 1)) (drF (L1 0) (c1 9)), tW T (q 13) (q 14) (nI (L1 1)) (c1 10), tW T (q 15) (q 16) (nI (L1 2)) (c1 11)]) _ := flP_sub hP20 [0, 1, 2, 3, 4, 7, 5, 6] rfl
              have hD22 : va_D A (fl [hO qh, aW T 0 (qh 1) 12 wk, aW T 0 (qh 2) 3 dr, aW T 0 (qh 3) 3 re, sW T q (vset (vset (vset c1 3 (upd (c1 3) i ((c1 3 i) - x5))) 7 (upd ((vset c1 3 (upd (c1 3) i ((c1 3 i) - x5))) 7) i ((((vset c1 3 (upd (c1 3) i ((c1 3 i) - x5))) 7) i) + x5))) 8 (upd ((vset (vset c1 3 (upd (c1 3) i ((c1 3 i) - x5))) 7 (upd ((vset c1 3 (upd (c1 3) i ((c1 3 i) - x5))) 7) i ((((vset c1 3 (upd (c1 3) i ((c1 3 i) - x5))) 7) i) + x5))) 8) i ((((vset (vset c1 3 (upd (c1 3) i ((c1 3 i) - x5))) 7 (upd ((vset c1 3 (upd (c1 3) i ((c1 3 i) - x5))) 7) i ((((vset c1 3 (upd (c1 3) i ((c1 3 i) - x5))) 7) i) + x5))) 8) i) + (nI 1)))), tW T (q 11) (q 12) (nI ((L1 0) - 1)) (drF (L1 0) (c1 9)), tW T (q 13) (q 14) (nI (L1 1)) (c1 10), tW T (q 15) (q 16) (nI (L1 2)) (c1 11)]) := flD_sub hD20 [0, 1, 2, 3, 4, 7, 5, 6] (by decide) rfl
              have hS22 := hS20
              clear hP20 hS20 hD20
              exact ih2 (i + 1) (vset (flC c1 i x5) 9 (drF (L1 0) (c1 9))) (upN L1 0 (L1 0 - 1)) (by omega) (hf') (hL1') (by omega) _ _ hP22 hD22 hS22 _ (lv_sub hl21 [4, 5, 0] rfl)
            · skip
              refine lv_aload_n hx hb dX1_flushOut_99 rfl (lv_at hl13 4 rfl) ?_
              refine r_getN (own := RX1) (C := RX3) (F := TX3) (N := 13) (ci := 3) (v := .ref (q 10)) hx hb hK hts in_X3 hown hP16 4 rfl rfl 9 (by decide) kn_18 rfl dX1_flushOut_100 ?_
              refine lv_iload_n hx hb dX1_flushOut_103 rfl (lv_at hl13 2 rfl) ?_
              refine r_aald (C := RX4) (v := (q 13)) hx hb hK hP16 14 2 rfl rfl 1 (by decide) dX1_flushOut_104 (by decide) rfl ?_
              have hPc23 : va_P D vwCl (fl [tW T (q 13) (q 14) (nI (L1 1)) (c1 10)]) _ := flP_sub hP16 [6] rfl
              have hDc23 : va_D A (fl [tW T (q 13) (q 14) (nI (L1 1)) (c1 10)]) := flD_sub hD16 [6] (by decide) rfl
              refine cl_v (br := [hO qh, aW T 0 (qh 1) 12 wk, aW T 0 (qh 2) 3 dr, aW T 0 (qh 3) 3 re, sW T q (vset (vset (vset c1 3 (upd (c1 3) i ((c1 3 i) - x5))) 7 (upd ((vset c1 3 (upd (c1 3) i ((c1 3 i) - x5))) 7) i ((((vset c1 3 (upd (c1 3) i ((c1 3 i) - x5))) 7) i) + x5))) 8 (upd ((vset (vset c1 3 (upd (c1 3) i ((c1 3 i) - x5))) 7 (upd ((vset c1 3 (upd (c1 3) i ((c1 3 i) - x5))) 7) i ((((vset c1 3 (upd (c1 3) i ((c1 3 i) - x5))) 7) i) + x5))) 8) i ((((vset (vset c1 3 (upd (c1 3) i ((c1 3 i) - x5))) 7 (upd ((vset c1 3 (upd (c1 3) i ((c1 3 i) - x5))) 7) i ((((vset c1 3 (upd (c1 3) i ((c1 3 i) - x5))) 7) i) + x5))) 8) i) + (nI 1)))), tW T (q 11) (q 12) (nI (L1 0)) (c1 9), tW T (q 15) (q 16) (nI (L1 2)) (c1 11)]) (va_runV (As := []) (rest := []) ⟨hx, hb, hml, hown, hts⟩ (c_X4_dropFirst l D T (q 13) (q 14) (L1 1) (c1 10) (hL1 1 (by omega)) _) (mkV hts okX4_dropFirst kw_327 kw_328 kw_329 ⟨rfl, rfl, Nat.le_of_ble_eq_true rfl, Nat.le_of_ble_eq_true rfl⟩) (pv_rw hK hPc23 hDc23 (q0 := 0) rfl rfl rfl) rfl rfl hl13.1 rfl (lv_room (Nat.le_of_ble_eq_true rfl)) dX1_flushOut_105 ⟨Nat.le_of_ble_eq_true rfl, Nat.le_of_ble_eq_true rfl⟩) hP16 hD16 hS16 hA [0, 1, 2, 3, 4, 5, 7] [6] rfl (by decide) (fun f2_105 H24 locs24 hq_105 hP24 hD24 hS24 => ?_)
              clear hP16 hD16 hS16 hPc23 hDc23
              have hP24 : va_P D vwCl (fl [hO qh, aW T 0 (qh 1) 12 wk, aW T 0 (qh 2) 3 dr, aW T 0 (qh 3) 3 re, sW T q (vset (vset (vset c1 3 (upd (c1 3) i ((c1 3 i) - x5))) 7 (upd ((vset c1 3 (upd (c1 3) i ((c1 3 i) - x5))) 7) i ((((vset c1 3 (upd (c1 3) i ((c1 3 i) - x5))) 7) i) + x5))) 8 (upd ((vset (vset c1 3 (upd (c1 3) i ((c1 3 i) - x5))) 7 (upd ((vset c1 3 (upd (c1 3) i ((c1 3 i) - x5))) 7) i ((((vset c1 3 (upd (c1 3) i ((c1 3 i) - x5))) 7) i) + x5))) 8) i ((((vset (vset c1 3 (upd (c1 3) i ((c1 3 i) - x5))) 7 (upd ((vset c1 3 (upd (c1 3) i ((c1 3 i) - x5))) 7) i ((((vset c1 3 (upd (c1 3) i ((c1 3 i) - x5))) 7) i) + x5))) 8) i) + (nI 1)))), tW T (q 11) (q 12) (nI (L1 0)) (c1 9), tW T (q 15) (q 16) (nI (L1 2)) (c1 11), tW T (q 13) (q 14) (nI ((L1 1) - 1)) f2_105]) _ := hP24
              have hD24 : va_D A (fl [hO qh, aW T 0 (qh 1) 12 wk, aW T 0 (qh 2) 3 dr, aW T 0 (qh 3) 3 re, sW T q (vset (vset (vset c1 3 (upd (c1 3) i ((c1 3 i) - x5))) 7 (upd ((vset c1 3 (upd (c1 3) i ((c1 3 i) - x5))) 7) i ((((vset c1 3 (upd (c1 3) i ((c1 3 i) - x5))) 7) i) + x5))) 8 (upd ((vset (vset c1 3 (upd (c1 3) i ((c1 3 i) - x5))) 7 (upd ((vset c1 3 (upd (c1 3) i ((c1 3 i) - x5))) 7) i ((((vset c1 3 (upd (c1 3) i ((c1 3 i) - x5))) 7) i) + x5))) 8) i ((((vset (vset c1 3 (upd (c1 3) i ((c1 3 i) - x5))) 7 (upd ((vset c1 3 (upd (c1 3) i ((c1 3 i) - x5))) 7) i ((((vset c1 3 (upd (c1 3) i ((c1 3 i) - x5))) 7) i) + x5))) 8) i) + (nI 1)))), tW T (q 11) (q 12) (nI (L1 0)) (c1 9), tW T (q 15) (q 16) (nI (L1 2)) (c1 11), tW T (q 13) (q 14) (nI ((L1 1) - 1)) f2_105]) := hD24
              have hq_105 : drF (L1 1) (c1 10) = f2_105 := hq_105
              have hu_f2_105 : drF (L1 1) (c1 10) = f2_105 := hq_105
              subst hu_f2_105
              refine lv_iinc (v := nI (i + 1)) (lv' := [(2, .int (nI (i + 1))), (5, .int x5), (4, .int ((prC c1 dr i) * (c1 2 2))), (3, .int (nI 1)), (0, .ref (qh 0)), (1, .ref (q 0))]) hx hb dX1_flushOut_108 hl13 (k := 5) rfl (nI_add i 1) (by decide) rfl (fun ls25 hl25 => ?_)
              clear hl13
              refine lv_goto (tgt := 2) hx hb dX1_flushOut_111 (by decide) ?_
              have hf' : (vset (flC c1 i x5) 10 (drF (L1 1) (c1 10)), upN L1 1 (L1 1 - 1)) = flI wk dr (c, L) (i + 1) := by rw [flI, ← hf]; exact (flS_d (w := (c1, L1)) hwk (by omega) e_x5 c_96).symm
              have hL1' := upN_le hL1 1 (by omega)
              have hP26 : va_P D vwCl (fl [hO qh, aW T 0 (qh 1) 12 wk, aW T 0 (qh 2) 3 dr, aW T 0 (qh 3) 3 re, sW T q (vset (vset (vset c1 3 (upd (c1 3) i ((c1 3 i) - x5))) 7 (upd ((vset c1 3 (upd (c1 3) i ((c1 3 i) - x5))) 7) i ((((vset c1 3 (upd (c1 3) i ((c1 3 i) - x5))) 7) i) + x5))) 8 (upd ((vset (vset c1 3 (upd (c1 3) i ((c1 3 i) - x5))) 7 (upd ((vset c1 3 (upd (c1 3) i ((c1 3 i) - x5))) 7) i ((((vset c1 3 (upd (c1 3) i ((c1 3 i) - x5))) 7) i) + x5))) 8) i ((((vset (vset c1 3 (upd (c1 3) i ((c1 3 i) - x5))) 7 (upd ((vset c1 3 (upd (c1 3) i ((c1 3 i) - x5))) 7) i ((((vset c1 3 (upd (c1 3) i ((c1 3 i) - x5))) 7) i) + x5))) 8) i) + (nI 1)))), tW T (q 11) (q 12) (nI (L1 0)) (c1 9), tW T (q 13) (q 14) (nI ((L1 1) - 1)) (drF (L1 1) (c1 10)), tW T (q 15) (q 16) (nI (L1 2)) (c1 11)]) _ := flP_sub hP24 [0, 1, 2, 3, 4, 5, 7, 6] rfl
              have hD26 : va_D A (fl [hO qh, aW T 0 (qh 1) 12 wk, aW T 0 (qh 2) 3 dr, aW T 0 (qh 3) 3 re, sW T q (vset (vset (vset c1 3 (upd (c1 3) i ((c1 3 i) - x5))) 7 (upd ((vset c1 3 (upd (c1 3) i ((c1 3 i) - x5))) 7) i ((((vset c1 3 (upd (c1 3) i ((c1 3 i) - x5))) 7) i) + x5))) 8 (upd ((vset (vset c1 3 (upd (c1 3) i ((c1 3 i) - x5))) 7 (upd ((vset c1 3 (upd (c1 3) i ((c1 3 i) - x5))) 7) i ((((vset c1 3 (upd (c1 3) i ((c1 3 i) - x5))) 7) i) + x5))) 8) i ((((vset (vset c1 3 (upd (c1 3) i ((c1 3 i) - x5))) 7 (upd ((vset c1 3 (upd (c1 3) i ((c1 3 i) - x5))) 7) i ((((vset c1 3 (upd (c1 3) i ((c1 3 i) - x5))) 7) i) + x5))) 8) i) + (nI 1)))), tW T (q 11) (q 12) (nI (L1 0)) (c1 9), tW T (q 13) (q 14) (nI ((L1 1) - 1)) (drF (L1 1) (c1 10)), tW T (q 15) (q 16) (nI (L1 2)) (c1 11)]) := flD_sub hD24 [0, 1, 2, 3, 4, 5, 7, 6] (by decide) rfl
              have hS26 := hS24
              clear hP24 hS24 hD24
              exact ih2 (i + 1) (vset (flC c1 i x5) 10 (drF (L1 1) (c1 10))) (upN L1 1 (L1 1 - 1)) (by omega) (hf') (hL1') (by omega) _ _ hP26 hD26 hS26 _ (lv_sub hl25 [4, 5, 0] rfl)
            · skip
              refine lv_aload_n hx hb dX1_flushOut_99 rfl (lv_at hl13 4 rfl) ?_
              refine r_getN (own := RX1) (C := RX3) (F := TX3) (N := 13) (ci := 3) (v := .ref (q 10)) hx hb hK hts in_X3 hown hP16 4 rfl rfl 9 (by decide) kn_18 rfl dX1_flushOut_100 ?_
              refine lv_iload_n hx hb dX1_flushOut_103 rfl (lv_at hl13 2 rfl) ?_
              refine r_aald (C := RX4) (v := (q 15)) hx hb hK hP16 14 2 rfl rfl 2 (by decide) dX1_flushOut_104 (by decide) rfl ?_
              have hPc27 : va_P D vwCl (fl [tW T (q 15) (q 16) (nI (L1 2)) (c1 11)]) _ := flP_sub hP16 [7] rfl
              have hDc27 : va_D A (fl [tW T (q 15) (q 16) (nI (L1 2)) (c1 11)]) := flD_sub hD16 [7] (by decide) rfl
              refine cl_v (br := [hO qh, aW T 0 (qh 1) 12 wk, aW T 0 (qh 2) 3 dr, aW T 0 (qh 3) 3 re, sW T q (vset (vset (vset c1 3 (upd (c1 3) i ((c1 3 i) - x5))) 7 (upd ((vset c1 3 (upd (c1 3) i ((c1 3 i) - x5))) 7) i ((((vset c1 3 (upd (c1 3) i ((c1 3 i) - x5))) 7) i) + x5))) 8 (upd ((vset (vset c1 3 (upd (c1 3) i ((c1 3 i) - x5))) 7 (upd ((vset c1 3 (upd (c1 3) i ((c1 3 i) - x5))) 7) i ((((vset c1 3 (upd (c1 3) i ((c1 3 i) - x5))) 7) i) + x5))) 8) i ((((vset (vset c1 3 (upd (c1 3) i ((c1 3 i) - x5))) 7 (upd ((vset c1 3 (upd (c1 3) i ((c1 3 i) - x5))) 7) i ((((vset c1 3 (upd (c1 3) i ((c1 3 i) - x5))) 7) i) + x5))) 8) i) + (nI 1)))), tW T (q 11) (q 12) (nI (L1 0)) (c1 9), tW T (q 13) (q 14) (nI (L1 1)) (c1 10)]) (va_runV (As := []) (rest := []) ⟨hx, hb, hml, hown, hts⟩ (c_X4_dropFirst l D T (q 15) (q 16) (L1 2) (c1 11) (hL1 2 (by omega)) _) (mkV hts okX4_dropFirst kw_327 kw_328 kw_329 ⟨rfl, rfl, Nat.le_of_ble_eq_true rfl, Nat.le_of_ble_eq_true rfl⟩) (pv_rw hK hPc27 hDc27 (q0 := 0) rfl rfl rfl) rfl rfl hl13.1 rfl (lv_room (Nat.le_of_ble_eq_true rfl)) dX1_flushOut_105 ⟨Nat.le_of_ble_eq_true rfl, Nat.le_of_ble_eq_true rfl⟩) hP16 hD16 hS16 hA [0, 1, 2, 3, 4, 5, 6] [7] rfl (by decide) (fun f2_105 H28 locs28 hq_105 hP28 hD28 hS28 => ?_)
              clear hP16 hD16 hS16 hPc27 hDc27
              have hP28 : va_P D vwCl (fl [hO qh, aW T 0 (qh 1) 12 wk, aW T 0 (qh 2) 3 dr, aW T 0 (qh 3) 3 re, sW T q (vset (vset (vset c1 3 (upd (c1 3) i ((c1 3 i) - x5))) 7 (upd ((vset c1 3 (upd (c1 3) i ((c1 3 i) - x5))) 7) i ((((vset c1 3 (upd (c1 3) i ((c1 3 i) - x5))) 7) i) + x5))) 8 (upd ((vset (vset c1 3 (upd (c1 3) i ((c1 3 i) - x5))) 7 (upd ((vset c1 3 (upd (c1 3) i ((c1 3 i) - x5))) 7) i ((((vset c1 3 (upd (c1 3) i ((c1 3 i) - x5))) 7) i) + x5))) 8) i ((((vset (vset c1 3 (upd (c1 3) i ((c1 3 i) - x5))) 7 (upd ((vset c1 3 (upd (c1 3) i ((c1 3 i) - x5))) 7) i ((((vset c1 3 (upd (c1 3) i ((c1 3 i) - x5))) 7) i) + x5))) 8) i) + (nI 1)))), tW T (q 11) (q 12) (nI (L1 0)) (c1 9), tW T (q 13) (q 14) (nI (L1 1)) (c1 10), tW T (q 15) (q 16) (nI ((L1 2) - 1)) f2_105]) _ := hP28
              have hD28 : va_D A (fl [hO qh, aW T 0 (qh 1) 12 wk, aW T 0 (qh 2) 3 dr, aW T 0 (qh 3) 3 re, sW T q (vset (vset (vset c1 3 (upd (c1 3) i ((c1 3 i) - x5))) 7 (upd ((vset c1 3 (upd (c1 3) i ((c1 3 i) - x5))) 7) i ((((vset c1 3 (upd (c1 3) i ((c1 3 i) - x5))) 7) i) + x5))) 8 (upd ((vset (vset c1 3 (upd (c1 3) i ((c1 3 i) - x5))) 7 (upd ((vset c1 3 (upd (c1 3) i ((c1 3 i) - x5))) 7) i ((((vset c1 3 (upd (c1 3) i ((c1 3 i) - x5))) 7) i) + x5))) 8) i ((((vset (vset c1 3 (upd (c1 3) i ((c1 3 i) - x5))) 7 (upd ((vset c1 3 (upd (c1 3) i ((c1 3 i) - x5))) 7) i ((((vset c1 3 (upd (c1 3) i ((c1 3 i) - x5))) 7) i) + x5))) 8) i) + (nI 1)))), tW T (q 11) (q 12) (nI (L1 0)) (c1 9), tW T (q 13) (q 14) (nI (L1 1)) (c1 10), tW T (q 15) (q 16) (nI ((L1 2) - 1)) f2_105]) := hD28
              have hq_105 : drF (L1 2) (c1 11) = f2_105 := hq_105
              have hu_f2_105 : drF (L1 2) (c1 11) = f2_105 := hq_105
              subst hu_f2_105
              refine lv_iinc (v := nI (i + 1)) (lv' := [(2, .int (nI (i + 1))), (5, .int x5), (4, .int ((prC c1 dr i) * (c1 2 2))), (3, .int (nI 2)), (0, .ref (qh 0)), (1, .ref (q 0))]) hx hb dX1_flushOut_108 hl13 (k := 5) rfl (nI_add i 1) (by decide) rfl (fun ls29 hl29 => ?_)
              clear hl13
              refine lv_goto (tgt := 2) hx hb dX1_flushOut_111 (by decide) ?_
              have hf' : (vset (flC c1 i x5) 11 (drF (L1 2) (c1 11)), upN L1 2 (L1 2 - 1)) = flI wk dr (c, L) (i + 1) := by rw [flI, ← hf]; exact (flS_d (w := (c1, L1)) hwk (by omega) e_x5 c_96).symm
              have hL1' := upN_le hL1 2 (by omega)
              exact ih2 (i + 1) (vset (flC c1 i x5) 11 (drF (L1 2) (c1 11))) (upN L1 2 (L1 2 - 1)) (by omega) (hf') (hL1') (by omega) _ _ hP28 hD28 hS28 _ (lv_sub hl29 [4, 5, 0] rfl)
  exact loop2 ((12 - 0) + 1) 0 c L (by omega) (rfl) (hL) (Nat.lt_succ_self _) _ _ hP0 hD0 hS0 _ (lv_sub hl1 [1, 2, 0] rfl)
set_option maxHeartbeats 4000000 in
set_option maxRecDepth 100000 in
theorem c_X1_carryOn (l : Launch) (D : va_G) (T : TI) (qh : Nat → Nat) (wk : Nat → Int32) (dr : Nat → Int32) (re : Nat → Int32) (q : Nat → Nat) (c : Nat → Nat → Int32)  : CV l yX1_carryOn cX1_carryOn 5 (rmD 2 0 0) D T [.ref (qh 0), .ref (q 0)] [hO qh, aW T 0 (qh 1) 12 wk, aW T 0 (qh 2) 3 dr, aW T 0 (qh 3) 3 re, sW T q c] 0 0 (β := Nat → Nat → Int32) (fun (c2 : Nat → Nat → Int32) => [hO qh, aW T 0 (qh 1) 12 wk, aW T 0 (qh 2) 3 dr, aW T 0 (qh 3) 3 re, sW T q c2]) (fun (c2 : Nat → Nat → Int32) => c2 = caI wk c 12) := by
  intro sz
  refine met_rw (Qc := fun A => va_Qv _ (PST D _ A) A) rfl (Nat.le_of_ble_eq_true rfl) ?_
  intro pX eX sX mX bX mtX cX A hAe hC hA hP0 hD0 hS0 ls0 hl0 TG hTG
  clear hAe
  obtain ⟨hx, hb, hr, hml, hown, hts, hlocks, hin, hK⟩ := hC
  have hown : sX.vm.findClass RX1 = some mX.cls := hown
  have hl0 : lv_has ls0 5 [(0, .ref (qh 0)), (1, .ref (q 0))] := hl0
  refine lv_bipush (v := nI 11) hx hb dX1_carryOn_0 (by decide) ?_
  refine lv_istore_n (lv' := [(2, .int (nI 11)), (0, .ref (qh 0)), (1, .ref (q 0))]) hx hb dX1_carryOn_2 rfl hl0 (by decide) rfl (fun ls1 hl1 => ?_)
  clear hl0
  have loop3 : ∀ (n_ : Nat) (j : Nat) (c1 : Nat → Nat → Int32), (j ≤ 12) → (c1 = caI wk c (12 - j)) → j < n_ → ∀ (H : Heap) (locs : List Loc), va_P D vwCl (fl [hO qh, aW T 0 (qh 1) 12 wk, aW T 0 (qh 2) 3 dr, aW T 0 (qh 3) 3 re, sW T q c1]) H → va_D A (fl [hO qh, aW T 0 (qh 1) 12 wk, aW T 0 (qh 2) 3 dr, aW T 0 (qh 3) 3 re, sW T q c1]) → va_S A sX.heap H locs → ∀ ls : Array Slot, lv_has ls 5 [(0, .ref (qh 0)), (1, .ref (q 0)), (2, .int (jm j))] → W pX l eX (rmD 2 0 0) sX mX ([.ref (qh 0), .ref (q 0)] : List Value).toArray bX mtX cX H locs 0 0 TG (F0 mX 3 ls []) := by
    intro n_
    induction n_ with
    | zero => intro j c1 hj hc hmu_ ; exact absurd hmu_ (Nat.not_lt_zero _)
    | succ n_ ih3 =>
      intro j c1 hj hc hmu_3 H3 locs3 hP3 hD3 hS3 ls3 hl3
      rcases j with _ | k
      · skip
        have hl3 : lv_has ls3 5 [(0, .ref (qh 0)), (1, .ref (q 0)), (2, .int (-1))] := hl3
        refine lv_iload_n hx hb dX1_carryOn_3 rfl (lv_at hl3 2 rfl) ?_
        refine lv_if_lt (tgt := 62) hx hb dX1_carryOn_4 (by decide) (fun c4 => ?_) (fun c4 => absurd (by decide) c4)
        refine ret_v hTG (Nat.le_refl _) (Nat.le_refl _) hx hb hr hlocks (c1) hP3 hD3 hS3 [0, 1, 2, 3, 4] rfl (by decide) dX1_carryOn_62 ?_
        exact hc
      · skip
        have hl3 : lv_has ls3 5 [(0, .ref (qh 0)), (1, .ref (q 0)), (2, .int (nI k))] := hl3
        refine lv_iload_n hx hb dX1_carryOn_3 rfl (lv_at hl3 2 rfl) ?_
        refine n_if_lt hx hb (by omega) dX1_carryOn_4 62 (by decide) ?_
        refine lv_aload_n hx hb dX1_carryOn_7 rfl (lv_at hl3 1 rfl) ?_
        refine lv_iload_n hx hb dX1_carryOn_8 rfl (lv_at hl3 2 rfl) ?_
        have hPc5 : va_P D vwCl (fl [sW T q c1]) _ := hP3.sub [4, 5, 6, 7, 8, 9, 10, 11, 12, 13, 14] rfl
        refine cr_i (va_runV (As := [.int (nI k)]) (rest := []) ⟨hx, hb, hml, hown, hts⟩ (c_X3_fedBy l D T q c1 k (by omega)) (mkV hts okX3_fedBy kw_335 kw_336 kw_337 ⟨rfl, rfl, Nat.le_of_ble_eq_true rfl, Nat.le_of_ble_eq_true rfl⟩) (pv_ro hK hPc5 (q0 := 0) rfl rfl rfl) rfl rfl hl3.1 rfl (lv_room (Nat.le_of_ble_eq_true rfl)) dX1_carryOn_9 ⟨Nat.le_of_ble_eq_true rfl, Nat.le_of_ble_eq_true rfl⟩) hP3 hS3 (fun r_9 H6 locs6 hq_9 hP6 hS6 => ?_)
        clear hP3 hS3 hPc5
        have hD6 := hD3
        clear hD3
        have hq_9 : r_9 = fedI c1 k := hq_9
        subst hq_9
        rcases fedI_or c1 k with hfe | ⟨hfe, hfk⟩
        · rw [hfe]
          refine lv_istore_n (lv' := [(3, .int (-1)), (0, .ref (qh 0)), (1, .ref (q 0)), (2, .int (nI k))]) hx hb dX1_carryOn_12 rfl hl3 (by decide) rfl (fun ls7 hl7 => ?_)
          clear hl3
          refine lv_iload_n hx hb dX1_carryOn_13 rfl (lv_at hl7 0 rfl) ?_
          refine lv_if_lt (tgt := 56) hx hb dX1_carryOn_14 (by decide) (fun c8 => ?_) (fun c8 => absurd (by decide) c8)
          refine lv_iinc (v := jm k) (lv' := [(2, .int (jm k)), (3, .int (-1)), (0, .ref (qh 0)), (1, .ref (q 0))]) hx hb dX1_carryOn_56 hl7 (k := 3) rfl (jm_pred k) (by decide) rfl (fun ls9 hl9 => ?_)
          clear hl7
          refine lv_goto (tgt := 3) hx hb dX1_carryOn_59 (by decide) ?_
          exact ih3 k c1 (by omega) (by rw [show 12 - k = (12 - (k + 1)) + 1 by omega, caI, ← hc, show 11 - (12 - (k + 1)) = k by omega]; first | exact (caS_a hfe).symm | exact (caS_b hfe (by omega) c_24).symm | exact (caS_c hfe (by omega) c_24).symm) (by omega) _ _ hP6 hD6 hS6 _ (lv_sub hl9 [2, 3, 0] rfl)
        · rw [hfe]
          refine lv_istore_n (lv' := [(3, .int (nI (k + 1))), (0, .ref (qh 0)), (1, .ref (q 0)), (2, .int (nI k))]) hx hb dX1_carryOn_12 rfl hl3 (by decide) rfl (fun ls10 hl10 => ?_)
          clear hl3
          refine lv_iload_n hx hb dX1_carryOn_13 rfl (lv_at hl10 0 rfl) ?_
          refine n_if_lt hx hb (by omega) dX1_carryOn_14 56 (by decide) ?_
          refine lv_aload_n hx hb dX1_carryOn_17 rfl (lv_at hl10 1 rfl) ?_
          refine r_get (own := RX1) (C := RX1) (F := TX1) (N := 3) (ci := 1) (v := .ref (qh 1)) hx hb hK hts in_X1 hown hP6 0 rfl rfl 0 (by decide) kw_124 rfl dX1_carryOn_18 ?_
          refine lv_iload_n hx hb dX1_carryOn_21 rfl (lv_at hl10 3 rfl) ?_
          refine r_iald hx hb hK hP6 1 (f := wk) (n := 12) rfl k (by decide) dX1_carryOn_22 (by omega) ?_
          refine lv_iconst (v := (-1)) hx hb dX1_carryOn_23 (by decide) ?_
          refine lv_icmp_ne (tgt := 56) hx hb dX1_carryOn_24 (by decide) (fun c_24 => ?_) (fun c_24 => ?_)
          · skip
            refine lv_iinc (v := jm k) (lv' := [(2, .int (jm k)), (3, .int (nI (k + 1))), (0, .ref (qh 0)), (1, .ref (q 0))]) hx hb dX1_carryOn_56 hl10 (k := 3) rfl (jm_pred k) (by decide) rfl (fun ls12 hl12 => ?_)
            clear hl10
            refine lv_goto (tgt := 3) hx hb dX1_carryOn_59 (by decide) ?_
            exact ih3 k c1 (by omega) (by rw [show 12 - k = (12 - (k + 1)) + 1 by omega, caI, ← hc, show 11 - (12 - (k + 1)) = k by omega]; first | exact (caS_a hfe).symm | exact (caS_b hfe (by omega) c_24).symm | exact (caS_c hfe (by omega) c_24).symm) (by omega) _ _ hP6 hD6 hS6 _ (lv_sub hl12 [2, 3, 0] rfl)
          · skip
            refine lv_aload_n hx hb dX1_carryOn_27 rfl (lv_at hl10 2 rfl) ?_
            refine r_getN (own := RX1) (C := RX3) (F := TX3) (N := 13) (ci := 3) (v := .ref (q 4)) hx hb hK hts in_X3 hown hP6 4 rfl rfl 3 (by decide) kn_8 rfl dX1_carryOn_28 ?_
            refine lv_iload_n hx hb dX1_carryOn_31 rfl (lv_at hl10 3 rfl) ?_
            refine r_iald hx hb hK hP6 8 (f := (c1 3)) (n := 12) rfl k (by decide) dX1_carryOn_32 (by omega) ?_
            refine lv_bipush (v := nI 10) hx hb dX1_carryOn_33 (by decide) ?_
            refine lv_idiv hx hb dX1_carryOn_35 (by decide) ?_
            refine lv_istore (lv' := [(4, .int ((c1 3 k) / (nI 10))), (3, .int (nI (k + 1))), (0, .ref (qh 0)), (1, .ref (q 0)), (2, .int (nI k))]) hx hb dX1_carryOn_36 hl10 (by decide) rfl (fun ls13 hl13 => ?_)
            clear hl10
            refine lv_aload_n hx hb dX1_carryOn_38 rfl (lv_at hl13 3 rfl) ?_
            refine r_getN (own := RX1) (C := RX3) (F := TX3) (N := 13) (ci := 3) (v := .ref (q 4)) hx hb hK hts in_X3 hown hP6 4 rfl rfl 3 (by decide) kn_8 rfl dX1_carryOn_39 ?_
            refine lv_iload_n hx hb dX1_carryOn_42 rfl (lv_at hl13 4 rfl) ?_
            refine lv_dup2_11 hx hb dX1_carryOn_43 rfl rfl ?_
            refine r_iald hx hb hK hP6 8 (f := (c1 3)) (n := 12) rfl k (by decide) dX1_carryOn_44 (by omega) ?_
            refine lv_iload hx hb dX1_carryOn_45 (lv_at hl13 0 rfl) ?_
            refine lv_isub hx hb dX1_carryOn_47 ?_
            refine r_iast hx hb hK hP6 hD6 hS6 8 (f := (c1 3)) (n := 12) rfl k (by decide) dX1_carryOn_48 (by omega) (fun (H14 : Heap) (locs14 : List Loc) (hP14 : va_P D vwCl (fl [hO qh, aW T 0 (qh 1) 12 wk, aW T 0 (qh 2) 3 dr, aW T 0 (qh 3) 3 re, sW T q (vset c1 3 (upd (c1 3) k ((c1 3 k) - ((c1 3 k) / (nI 10)))))]) H14) (hD14 : va_D A (fl [hO qh, aW T 0 (qh 1) 12 wk, aW T 0 (qh 2) 3 dr, aW T 0 (qh 3) 3 re, sW T q (vset c1 3 (upd (c1 3) k ((c1 3 k) - ((c1 3 k) / (nI 10)))))])) hS14 => ?_)
            clear hP6 hD6 hS6
            refine lv_aload_n hx hb dX1_carryOn_49 rfl (lv_at hl13 3 rfl) ?_
            refine lv_iload_n hx hb dX1_carryOn_50 rfl (lv_at hl13 1 rfl) ?_
            refine lv_iload hx hb dX1_carryOn_51 (lv_at hl13 0 rfl) ?_
            have hPc15 : va_P D vwCl (fl [sW T q (vset c1 3 (upd (c1 3) k ((c1 3 k) - ((c1 3 k) / (nI 10)))))]) _ := flP_sub hP14 [4] rfl
            have hDc15 : va_D A (fl [sW T q (vset c1 3 (upd (c1 3) k ((c1 3 k) - ((c1 3 k) / (nI 10)))))]) := flD_sub hD14 [4] (by decide) rfl
            refine cl_v (br := [hO qh, aW T 0 (qh 1) 12 wk, aW T 0 (qh 2) 3 dr, aW T 0 (qh 3) 3 re]) (va_runV (As := [.int (nI (k + 1)), .int ((c1 3 k) / (nI 10))]) (rest := []) ⟨hx, hb, hml, hown, hts⟩ (c_X3_addDirt l D T q (vset c1 3 (upd (c1 3) k ((c1 3 k) - ((c1 3 k) / (nI 10))))) (k + 1) ((c1 3 k) / (nI 10)) (by omega) _) (mkV hts okX3_addDirt kw_340 kw_341 kw_342 ⟨rfl, rfl, Nat.le_of_ble_eq_true rfl, Nat.le_of_ble_eq_true rfl⟩) (pv_rw hK hPc15 hDc15 (q0 := 0) rfl rfl rfl) rfl rfl hl13.1 rfl (lv_room (Nat.le_of_ble_eq_true rfl)) dX1_carryOn_53 ⟨Nat.le_of_ble_eq_true rfl, Nat.le_of_ble_eq_true rfl⟩) hP14 hD14 hS14 hA [0, 1, 2, 3] [4] rfl (by decide) (fun _u16 H16 locs16 hq_53 hP16 hD16 hS16 => ?_)
            clear hP14 hD14 hS14 hPc15 hDc15
            have hP16 : va_P D vwCl (fl [hO qh, aW T 0 (qh 1) 12 wk, aW T 0 (qh 2) 3 dr, aW T 0 (qh 3) 3 re, sW T q (addDC (vset c1 3 (upd (c1 3) k ((c1 3 k) - ((c1 3 k) / (nI 10))))) (k + 1) ((c1 3 k) / (nI 10)))]) _ := hP16
            have hD16 : va_D A (fl [hO qh, aW T 0 (qh 1) 12 wk, aW T 0 (qh 2) 3 dr, aW T 0 (qh 3) 3 re, sW T q (addDC (vset c1 3 (upd (c1 3) k ((c1 3 k) - ((c1 3 k) / (nI 10))))) (k + 1) ((c1 3 k) / (nI 10)))]) := hD16
            refine lv_iinc (v := jm k) (lv' := [(2, .int (jm k)), (4, .int ((c1 3 k) / (nI 10))), (3, .int (nI (k + 1))), (0, .ref (qh 0)), (1, .ref (q 0))]) hx hb dX1_carryOn_56 hl13 (k := 4) rfl (jm_pred k) (by decide) rfl (fun ls17 hl17 => ?_)
            clear hl13
            refine lv_goto (tgt := 3) hx hb dX1_carryOn_59 (by decide) ?_
            exact ih3 k (addDC (vset c1 3 (upd (c1 3) k ((c1 3 k) - ((c1 3 k) / (nI 10))))) (k + 1) ((c1 3 k) / (nI 10))) (by omega) (by rw [show 12 - k = (12 - (k + 1)) + 1 by omega, caI, ← hc, show 11 - (12 - (k + 1)) = k by omega]; first | exact (caS_a hfe).symm | exact (caS_b hfe (by omega) c_24).symm | exact (caS_c hfe (by omega) c_24).symm) (by omega) _ _ hP16 hD16 hS16 _ (lv_sub hl17 [3, 4, 0] rfl)
  exact loop3 (12 + 1) 12 c (by omega) (rfl) (Nat.lt_succ_self _) _ _ hP0 hD0 hS0 _ (lv_sub hl1 [1, 2, 0] rfl)
set_option maxHeartbeats 4000000 in
set_option maxRecDepth 100000 in
theorem c_X1_complain (l : Launch) (D : va_G) (T : TI) (qh : Nat → Nat) (q : Nat → Nat) (c : Nat → Nat → Int32)  : CV l yX1_complain cX1_complain 4 (rmD 1 0 0) D T [.ref (qh 0), .ref (q 0)] [hO qh, sW T q c] 0 0 (β := Nat → Nat → Int32) (fun (c2 : Nat → Nat → Int32) => [hO qh, sW T q c2]) (fun (c2 : Nat → Nat → Int32) => c2 = coI c 12) := by
  intro sz
  refine met_rw (Qc := fun A => va_Qv _ (PST D _ A) A) rfl (Nat.le_of_ble_eq_true rfl) ?_
  intro pX eX sX mX bX mtX cX A hAe hC hA hP0 hD0 hS0 ls0 hl0 TG hTG
  clear hAe
  obtain ⟨hx, hb, hr, hml, hown, hts, hlocks, hin, hK⟩ := hC
  have hown : sX.vm.findClass RX1 = some mX.cls := hown
  have hl0 : lv_has ls0 4 [(0, .ref (qh 0)), (1, .ref (q 0))] := hl0
  refine lv_iconst (v := nI 0) hx hb dX1_complain_0 (by decide) ?_
  refine lv_istore_n (lv' := [(2, .int (nI 0)), (0, .ref (qh 0)), (1, .ref (q 0))]) hx hb dX1_complain_1 rfl hl0 (by decide) rfl (fun ls1 hl1 => ?_)
  clear hl0
  have loop2 : ∀ (n_ : Nat) (i : Nat) (c1 : Nat → Nat → Int32), (i ≤ 12) → (c1 = coI c i) → (12 - i) < n_ → ∀ (H : Heap) (locs : List Loc), va_P D vwCl (fl [hO qh, sW T q c1]) H → va_D A (fl [hO qh, sW T q c1]) → va_S A sX.heap H locs → ∀ ls : Array Slot, lv_has ls 4 [(0, .ref (qh 0)), (1, .ref (q 0)), (2, .int (nI i))] → W pX l eX (rmD 1 0 0) sX mX ([.ref (qh 0), .ref (q 0)] : List Value).toArray bX mtX cX H locs 0 0 TG (F0 mX 2 ls []) := by
    intro n_
    induction n_ with
    | zero => intro i c1 hi hc hmu_ ; exact absurd hmu_ (Nat.not_lt_zero _)
    | succ n_ ih2 =>
      intro i c1 hi hc hmu_2 H3 locs3 hP3 hD3 hS3 ls3 hl3
      refine lv_iload_n hx hb dX1_complain_2 rfl (lv_at hl3 2 rfl) ?_
      refine lv_bipush (v := nI 12) hx hb dX1_complain_3 (by decide) ?_
      refine n_icmp_ge (tgt := 54) hx hb (by omega) (by omega) dX1_complain_5 (by decide) (fun c_5 => ?_) (fun c_5 => ?_)
      · skip
        have hi2 : i = 12 := by omega
        subst hi2
        refine ret_v hTG (Nat.le_refl _) (Nat.le_refl _) hx hb hr hlocks (c1) hP3 hD3 hS3 [0, 1] rfl (by decide) dX1_complain_54 ?_
        exact hc
      · skip
        refine lv_aload_n hx hb dX1_complain_8 rfl (lv_at hl3 1 rfl) ?_
        refine lv_iload_n hx hb dX1_complain_9 rfl (lv_at hl3 2 rfl) ?_
        have hPc5 : va_P D vwCl (fl [sW T q c1]) _ := hP3.sub [1, 2, 3, 4, 5, 6, 7, 8, 9, 10, 11] rfl
        refine cr_i (va_runV (As := [.int (nI i)]) (rest := []) ⟨hx, hb, hml, hown, hts⟩ (c_X3_isBrown l D T q c1 i (by omega)) (mkV hts okX3_isBrown kw_316 kw_317 kw_318 ⟨rfl, rfl, Nat.le_of_ble_eq_true rfl, Nat.le_of_ble_eq_true rfl⟩) (pv_ro hK hPc5 (q0 := 0) rfl rfl rfl) rfl rfl hl3.1 rfl (lv_room (Nat.le_of_ble_eq_true rfl)) dX1_complain_10 ⟨Nat.le_of_ble_eq_true rfl, Nat.le_of_ble_eq_true rfl⟩) hP3 hS3 (fun r_10 H6 locs6 hq_10 hP6 hS6 => ?_)
        clear hP3 hS3 hPc5
        have hD6 := hD3
        clear hD3
        have hq_10 : r_10 = bI (brB c1 i) := hq_10
        subst hq_10
        refine lv_istore_n (lv' := [(3, .int (bI (brB c1 i))), (0, .ref (qh 0)), (1, .ref (q 0)), (2, .int (nI i))]) hx hb dX1_complain_13 rfl hl3 (by decide) rfl (fun ls7 hl7 => ?_)
        clear hl3
        refine lv_iload_n hx hb dX1_complain_14 rfl (lv_at hl7 0 rfl) ?_
        refine z_if_eq (tgt := 41) hx hb dX1_complain_15 (by decide) (fun c_15 => ?_) (fun c_15 => ?_)
        · skip
          refine lv_aload_n hx hb dX1_complain_41 rfl (lv_at hl7 2 rfl) ?_
          refine r_getN (own := RX1) (C := RX3) (F := TX3) (N := 13) (ci := 3) (v := .ref (q 6)) hx hb hK hts in_X3 hown hP6 1 rfl rfl 5 (by decide) kn_11 rfl dX1_complain_42 ?_
          refine lv_iload_n hx hb dX1_complain_45 rfl (lv_at hl7 3 rfl) ?_
          refine lv_iload_n hx hb dX1_complain_46 rfl (lv_at hl7 0 rfl) ?_
          refine r_zast hx hb hK hP6 hD6 hS6 7 (f := (c1 5)) (n := 12) rfl i (by decide) dX1_complain_47 (by omega) (fun (H9 : Heap) (locs9 : List Loc) (hP9 : va_P D vwCl (fl [hO qh, sW T q (vset c1 5 (upd (c1 5) i (bI (brB c1 i))))]) H9) (hD9 : va_D A (fl [hO qh, sW T q (vset c1 5 (upd (c1 5) i (bI (brB c1 i))))])) hS9 => ?_)
          clear hP6 hD6 hS6
          refine lv_iinc (v := nI (i + 1)) (lv' := [(2, .int (nI (i + 1))), (3, .int (bI (brB c1 i))), (0, .ref (qh 0)), (1, .ref (q 0))]) hx hb dX1_complain_48 hl7 (k := 3) rfl (nI_add i 1) (by decide) rfl (fun ls10 hl10 => ?_)
          clear hl7
          refine lv_goto (tgt := 2) hx hb dX1_complain_51 (by decide) ?_
          exact ih2 (i + 1) (vset c1 5 (upd (c1 5) i (bI (brB c1 i)))) (by omega) (by rw [coI, ← hc]; first | exact (coS_1 c_15).symm | exact (coS_2 c_15 c_31).symm | exact (coS_3 c_15 c_31).symm) (by omega) _ _ hP9 hD9 hS9 _ (lv_sub hl10 [2, 3, 0] rfl)
        · skip
          refine lv_aload_n hx hb dX1_complain_18 rfl (lv_at hl7 2 rfl) ?_
          refine r_getN (own := RX1) (C := RX3) (F := TX3) (N := 13) (ci := 3) (v := .ref (q 7)) hx hb hK hts in_X3 hown hP6 1 rfl rfl 6 (by decide) kn_12 rfl dX1_complain_19 ?_
          refine lv_iload_n hx hb dX1_complain_22 rfl (lv_at hl7 3 rfl) ?_
          refine lv_dup2_11 hx hb dX1_complain_23 rfl rfl ?_
          refine r_iald hx hb hK hP6 8 (f := (c1 6)) (n := 12) rfl i (by decide) dX1_complain_24 (by omega) ?_
          refine lv_aload_n hx hb dX1_complain_25 rfl (lv_at hl7 2 rfl) ?_
          refine r_getN (own := RX1) (C := RX3) (F := TX3) (N := 13) (ci := 3) (v := .ref (q 6)) hx hb hK hts in_X3 hown hP6 1 rfl rfl 5 (by decide) kn_11 rfl dX1_complain_26 ?_
          refine lv_iload_n hx hb dX1_complain_29 rfl (lv_at hl7 3 rfl) ?_
          refine r_zald hx hb hK hP6 7 (f := (c1 5)) (n := 12) rfl i (by decide) dX1_complain_30 (by omega) ?_
          refine lv_if_eq (tgt := 38) hx hb dX1_complain_31 (by decide) (fun c_31 => ?_) (fun c_31 => ?_)
          · skip
            refine lv_iconst (v := nI 1) hx hb dX1_complain_38 (by decide) ?_
            refine lv_iadd hx hb dX1_complain_39 ?_
            refine r_iast hx hb hK hP6 hD6 hS6 8 (f := (c1 6)) (n := 12) rfl i (by decide) dX1_complain_40 (by omega) (fun (H12 : Heap) (locs12 : List Loc) (hP12 : va_P D vwCl (fl [hO qh, sW T q (vset c1 6 (upd (c1 6) i ((c1 6 i) + (nI 1))))]) H12) (hD12 : va_D A (fl [hO qh, sW T q (vset c1 6 (upd (c1 6) i ((c1 6 i) + (nI 1))))])) hS12 => ?_)
            clear hP6 hD6 hS6
            refine lv_aload_n hx hb dX1_complain_41 rfl (lv_at hl7 2 rfl) ?_
            refine r_getN (own := RX1) (C := RX3) (F := TX3) (N := 13) (ci := 3) (v := .ref (q 6)) hx hb hK hts in_X3 hown hP12 1 rfl rfl 5 (by decide) kn_11 rfl dX1_complain_42 ?_
            refine lv_iload_n hx hb dX1_complain_45 rfl (lv_at hl7 3 rfl) ?_
            refine lv_iload_n hx hb dX1_complain_46 rfl (lv_at hl7 0 rfl) ?_
            refine r_zast hx hb hK hP12 hD12 hS12 7 (f := ((vset c1 6 (upd (c1 6) i ((c1 6 i) + (nI 1)))) 5)) (n := 12) rfl i (by decide) dX1_complain_47 (by omega) (fun (H13 : Heap) (locs13 : List Loc) (hP13 : va_P D vwCl (fl [hO qh, sW T q (vset (vset c1 6 (upd (c1 6) i ((c1 6 i) + (nI 1)))) 5 (upd ((vset c1 6 (upd (c1 6) i ((c1 6 i) + (nI 1)))) 5) i (bI (brB c1 i))))]) H13) (hD13 : va_D A (fl [hO qh, sW T q (vset (vset c1 6 (upd (c1 6) i ((c1 6 i) + (nI 1)))) 5 (upd ((vset c1 6 (upd (c1 6) i ((c1 6 i) + (nI 1)))) 5) i (bI (brB c1 i))))])) hS13 => ?_)
            clear hP12 hD12 hS12
            refine lv_iinc (v := nI (i + 1)) (lv' := [(2, .int (nI (i + 1))), (3, .int (bI (brB c1 i))), (0, .ref (qh 0)), (1, .ref (q 0))]) hx hb dX1_complain_48 hl7 (k := 3) rfl (nI_add i 1) (by decide) rfl (fun ls14 hl14 => ?_)
            clear hl7
            refine lv_goto (tgt := 2) hx hb dX1_complain_51 (by decide) ?_
            exact ih2 (i + 1) (vset (vset c1 6 (upd (c1 6) i ((c1 6 i) + (nI 1)))) 5 (upd ((vset c1 6 (upd (c1 6) i ((c1 6 i) + (nI 1)))) 5) i (bI (brB c1 i)))) (by omega) (by rw [coI, ← hc]; first | exact (coS_1 c_15).symm | exact (coS_2 c_15 c_31).symm | exact (coS_3 c_15 c_31).symm) (by omega) _ _ hP13 hD13 hS13 _ (lv_sub hl14 [2, 3, 0] rfl)
          · skip
            refine lv_iconst (v := nI 2) hx hb dX1_complain_34 (by decide) ?_
            refine lv_goto (tgt := 39) hx hb dX1_complain_35 (by decide) ?_
            refine lv_iadd hx hb dX1_complain_39 ?_
            refine r_iast hx hb hK hP6 hD6 hS6 8 (f := (c1 6)) (n := 12) rfl i (by decide) dX1_complain_40 (by omega) (fun (H15 : Heap) (locs15 : List Loc) (hP15 : va_P D vwCl (fl [hO qh, sW T q (vset c1 6 (upd (c1 6) i ((c1 6 i) + (nI 2))))]) H15) (hD15 : va_D A (fl [hO qh, sW T q (vset c1 6 (upd (c1 6) i ((c1 6 i) + (nI 2))))])) hS15 => ?_)
            clear hP6 hD6 hS6
            refine lv_aload_n hx hb dX1_complain_41 rfl (lv_at hl7 2 rfl) ?_
            refine r_getN (own := RX1) (C := RX3) (F := TX3) (N := 13) (ci := 3) (v := .ref (q 6)) hx hb hK hts in_X3 hown hP15 1 rfl rfl 5 (by decide) kn_11 rfl dX1_complain_42 ?_
            refine lv_iload_n hx hb dX1_complain_45 rfl (lv_at hl7 3 rfl) ?_
            refine lv_iload_n hx hb dX1_complain_46 rfl (lv_at hl7 0 rfl) ?_
            refine r_zast hx hb hK hP15 hD15 hS15 7 (f := ((vset c1 6 (upd (c1 6) i ((c1 6 i) + (nI 2)))) 5)) (n := 12) rfl i (by decide) dX1_complain_47 (by omega) (fun (H16 : Heap) (locs16 : List Loc) (hP16 : va_P D vwCl (fl [hO qh, sW T q (vset (vset c1 6 (upd (c1 6) i ((c1 6 i) + (nI 2)))) 5 (upd ((vset c1 6 (upd (c1 6) i ((c1 6 i) + (nI 2)))) 5) i (bI (brB c1 i))))]) H16) (hD16 : va_D A (fl [hO qh, sW T q (vset (vset c1 6 (upd (c1 6) i ((c1 6 i) + (nI 2)))) 5 (upd ((vset c1 6 (upd (c1 6) i ((c1 6 i) + (nI 2)))) 5) i (bI (brB c1 i))))])) hS16 => ?_)
            clear hP15 hD15 hS15
            refine lv_iinc (v := nI (i + 1)) (lv' := [(2, .int (nI (i + 1))), (3, .int (bI (brB c1 i))), (0, .ref (qh 0)), (1, .ref (q 0))]) hx hb dX1_complain_48 hl7 (k := 3) rfl (nI_add i 1) (by decide) rfl (fun ls17 hl17 => ?_)
            clear hl7
            refine lv_goto (tgt := 2) hx hb dX1_complain_51 (by decide) ?_
            exact ih2 (i + 1) (vset (vset c1 6 (upd (c1 6) i ((c1 6 i) + (nI 2)))) 5 (upd ((vset c1 6 (upd (c1 6) i ((c1 6 i) + (nI 2)))) 5) i (bI (brB c1 i)))) (by omega) (by rw [coI, ← hc]; first | exact (coS_1 c_15).symm | exact (coS_2 c_15 c_31).symm | exact (coS_3 c_15 c_31).symm) (by omega) _ _ hP16 hD16 hS16 _ (lv_sub hl17 [2, 3, 0] rfl)
  exact loop2 ((12 - 0) + 1) 0 c (by omega) (rfl) (Nat.lt_succ_self _) _ _ hP0 hD0 hS0 _ (lv_sub hl1 [1, 2, 0] rfl)
