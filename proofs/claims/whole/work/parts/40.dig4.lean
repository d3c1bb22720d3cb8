theorem crN_wh (m wh wh' : Nat → Int32) (h : Int64) : ∀ n, n ≤ 3 → crN m wh n h = crN m wh' n h
  | 0, _ => rfl
  | n + 1, hn => by rw [crN, crN, crN_wh m wh wh' h n (by omega), (laI_eq m wh wh' 3).2 n (by omega)]
def dm4 (m : Nat → Int32) (kp : Nat) : Int64 := crN m (fun _ => 0) 3 (stN m 12 (mixN m 9 (mixN (cntd m kp) 9 3169)))
def dm8 (m : Nat → Int32) (kp : Nat) : Int64 := mixL (mixL (mixL (mixN (fun w => byP m m 6 w) 4 (dm4 m kp)) (bsI m 12).1.toInt64) (clG m 0 201).toInt64) (shareD (12 - brNM m 12)).toInt64
def dgM (m : Nat → Int32) (kp ty : Nat) (f : Nat → Int32) : Int64 := mixN f ty (mixL (dm8 m kp) (nI ty).toInt64)
set_option maxHeartbeats 4000000 in
set_option maxRecDepth 100000 in
theorem c_X6_digest (l : Launch) (D : va_G) (T : TI) (q : Nat → Nat) (kp : Nat) (ty : Nat) (th : Int32) (at_ : Nat) (isF : Bool) (op : Int32) (now : Nat → Int32) (thn : Nat → Int32) (txt : Nat → Int32) (wh : Nat → Int32) (hS : okS now) (hty : ty ≤ 60) : CL l yX6_digest cX6_digest 5 (rmD 6 0 0) D T [.ref (q 0)] [mO q (nI kp) (nI ty) th (nI at_) isF op, aW T 0 (q 1) 111 now, aW T 0 (q 2) 111 thn, aW T 0 (q 4) 60 txt, aW T 0 (q 6) 3 wh] 0 0 (β := Int32 × Int32 × (Nat → Int32) × (Nat → Int32)) (fun ⟨th2, op2, thn2, wh2⟩ => [mO q (nI kp) (nI ty) th2 (nI at_) isF op2, aW T 0 (q 1) 111 now, aW T 0 (q 2) 111 thn2, aW T 0 (q 4) 60 txt, aW T 0 (q 6) 3 wh2]) (fun (r : Int64) ⟨th2, op2, thn2, wh2⟩ => r = dgM now kp ty txt ∧ th2 = nI 0) := by
  intro sz
  refine met_rw (Qc := fun A => va_Ql _ (PST D _ A) A) rfl (Nat.le_of_ble_eq_true rfl) ?_
  intro pX eX sX mX bX mtX cX A hAe hC hA hP0 hD0 hS0 ls0 hl0 TG hTG
  clear hAe
  obtain ⟨hx, hb, hr, hml, hown, hts, hlocks, hin, hK⟩ := hC
  have hown : sX.vm.findClass RX6 = some mX.cls := hown
  have hl0 : lv_has ls0 5 [(0, .ref (q 0))] := hl0
  refine lv_aload_n hx hb dX6_digest_0 rfl (lv_at hl0 0 rfl) ?_
  refine lv_iconst (v := nI 0) hx hb dX6_digest_1 (by decide) ?_
  refine r_put (own := RX6) (C := RX6) (F := TX6) (N := 12) (ci := 6) (v := nI 0) hx hb hK hts in_X6 tyX6 tyX6_ok nmX6 hown hP0 hD0 hS0 0 rfl rfl 6 (by decide) kw_676 rfl rfl (Nat.le_of_ble_eq_true rfl) dX6_digest_2 (fun (H1 : Heap) (locs1 : List Loc) (hP1 : va_P D vwCl (fl [mO q (nI kp) (nI ty) (nI 0) (nI at_) isF op, aW T 0 (q 1) 111 now, aW T 0 (q 2) 111 thn, aW T 0 (q 4) 60 txt, aW T 0 (q 6) 3 wh]) H1) (hD1 : va_D A (fl [mO q (nI kp) (nI ty) (nI 0) (nI at_) isF op, aW T 0 (q 1) 111 now, aW T 0 (q 2) 111 thn, aW T 0 (q 4) 60 txt, aW T 0 (q 6) 3 wh])) hS1 => ?_)
  clear hP0 hD0 hS0
  refine lv_ldc2 (v := 3169) hx hb hown (hts _ kw_920) dX6_digest_5 ?_
  refine lv_lstore_n (lv' := [(1, .long 3169), (0, .ref (q 0))]) hx hb dX6_digest_8 rfl hl0 (by decide) rfl (fun ls2 hl2 => ?_)
  clear hl0
  refine lv_iconst (v := nI 0) hx hb dX6_digest_9 (by decide) ?_
  refine lv_istore_n (lv' := [(3, .int (nI 0)), (1, .long 3169), (0, .ref (q 0))]) hx hb dX6_digest_10 rfl hl2 (by decide) rfl (fun ls3 hl3 => ?_)
  clear hl2
  have loop11 : ∀ (n_ : Nat) (i : Nat) (v : Int64), (i ≤ 9) → (v = mixN (cntd now kp) i 3169) → (9 - i) < n_ → ∀ (H : Heap) (locs : List Loc), va_P D vwCl (fl [mO q (nI kp) (nI ty) (nI 0) (nI at_) isF op, aW T 0 (q 1) 111 now, aW T 0 (q 2) 111 thn, aW T 0 (q 4) 60 txt, aW T 0 (q 6) 3 wh]) H → va_D A (fl [mO q (nI kp) (nI ty) (nI 0) (nI at_) isF op, aW T 0 (q 1) 111 now, aW T 0 (q 2) 111 thn, aW T 0 (q 4) 60 txt, aW T 0 (q 6) 3 wh]) → va_S A sX.heap H locs → ∀ ls : Array Slot, lv_has ls 5 [(0, .ref (q 0)), (1, .long v), (3, .int (nI i))] → W pX l eX (rmD 6 0 0) sX mX ([.ref (q 0)] : List Value).toArray bX mtX cX H locs 0 0 TG (F0 mX 11 ls []) := by
    intro n_
    induction n_ with
    | zero => intro i v hi hv hmu_ ; exact absurd hmu_ (Nat.not_lt_zero _)
    | succ n_ ih11 =>
      intro i v hi hv hmu_11 H5 locs5 hP5 hD5 hS5 ls5 hl5
      refine lv_iload_n hx hb dX6_digest_11 rfl (lv_at hl5 2 rfl) ?_
      refine lv_bipush (v := nI 9) hx hb dX6_digest_12 (by decide) ?_
      refine n_icmp_ge (tgt := 36) hx hb (by omega) (by omega) dX6_digest_14 (by decide) (fun c_14 => ?_) (fun c_14 => ?_)
      · skip
        have hi2 : i = 9 := by omega
        subst hi2
        refine lv_iconst (v := nI 0) hx hb dX6_digest_36 (by decide) ?_
        refine lv_istore_n (lv' := [(3, .int (nI 0)), (0, .ref (q 0)), (1, .long v)]) hx hb dX6_digest_37 rfl hl5 (by decide) rfl (fun ls7 hl7 => ?_)
        clear hl5
        have loop38 : ∀ (n_ : Nat) (j : Nat) (v2 : Int64), (j ≤ 9) → (v2 = mixN now j v) → (9 - j) < n_ → ∀ (H : Heap) (locs : List Loc), va_P D vwCl (fl [mO q (nI kp) (nI ty) (nI 0) (nI at_) isF op, aW T 0 (q 1) 111 now, aW T 0 (q 2) 111 thn, aW T 0 (q 4) 60 txt, aW T 0 (q 6) 3 wh]) H → va_D A (fl [mO q (nI kp) (nI ty) (nI 0) (nI at_) isF op, aW T 0 (q 1) 111 now, aW T 0 (q 2) 111 thn, aW T 0 (q 4) 60 txt, aW T 0 (q 6) 3 wh]) → va_S A sX.heap H locs → ∀ ls : Array Slot, lv_has ls 5 [(0, .ref (q 0)), (1, .long v2), (3, .int (nI j))] → W pX l eX (rmD 6 0 0) sX mX ([.ref (q 0)] : List Value).toArray bX mtX cX H locs 0 0 TG (F0 mX 38 ls []) := by
          intro n_
          induction n_ with
          | zero => intro j v2 hj hv2 hmu_ ; exact absurd hmu_ (Nat.not_lt_zero _)
          | succ n_ ih38 =>
            intro j v2 hj hv2 hmu_38 H9 locs9 hP9 hD9 hS9 ls9 hl9
            refine lv_iload_n hx hb dX6_digest_38 rfl (lv_at hl9 2 rfl) ?_
            refine lv_bipush (v := nI 9) hx hb dX6_digest_39 (by decide) ?_
            refine n_icmp_ge (tgt := 64) hx hb (by omega) (by omega) dX6_digest_41 (by decide) (fun c_41 => ?_) (fun c_41 => ?_)
            · skip
              have hj2 : j = 9 := by omega
              subst hj2
              refine lv_iconst (v := nI 0) hx hb dX6_digest_64 (by decide) ?_
              refine lv_istore_n (lv' := [(3, .int (nI 0)), (0, .ref (q 0)), (1, .long v2)]) hx hb dX6_digest_65 rfl hl9 (by decide) rfl (fun ls11 hl11 => ?_)
              clear hl9
              have loop66 : ∀ (n_ : Nat) (s : Nat) (v3 : Int64) (thn1 : Nat → Int32), (s ≤ 12) → (v3 = stN now s v2) → (12 - s) < n_ → ∀ (H : Heap) (locs : List Loc), va_P D vwCl (fl [mO q (nI kp) (nI ty) (nI 0) (nI at_) isF op, aW T 0 (q 1) 111 now, aW T 0 (q 2) 111 thn1, aW T 0 (q 4) 60 txt, aW T 0 (q 6) 3 wh]) H → va_D A (fl [mO q (nI kp) (nI ty) (nI 0) (nI at_) isF op, aW T 0 (q 1) 111 now, aW T 0 (q 2) 111 thn1, aW T 0 (q 4) 60 txt, aW T 0 (q 6) 3 wh]) → va_S A sX.heap H locs → ∀ ls : Array Slot, lv_has ls 5 [(0, .ref (q 0)), (1, .long v3), (3, .int (nI s))] → W pX l eX (rmD 6 0 0) sX mX ([.ref (q 0)] : List Value).toArray bX mtX cX H locs 0 0 TG (F0 mX 66 ls []) := by
                intro n_
                induction n_ with
                | zero => intro s v3 thn1 hs hv3 hmu_ ; exact absurd hmu_ (Nat.not_lt_zero _)
                | succ n_ ih66 =>
                  intro s v3 thn1 hs hv3 hmu_66 H13 locs13 hP13 hD13 hS13 ls13 hl13
                  refine lv_iload_n hx hb dX6_digest_66 rfl (lv_at hl13 2 rfl) ?_
                  refine lv_bipush (v := nI 12) hx hb dX6_digest_67 (by decide) ?_
                  refine n_icmp_ge (tgt := 137) hx hb (by omega) (by omega) dX6_digest_69 (by decide) (fun c_69 => ?_) (fun c_69 => ?_)
                  · skip
                    have hs2 : s = 12 := by omega
                    subst hs2
                    refine lv_aload_n hx hb dX6_digest_137 rfl (lv_at hl13 0 rfl) ?_
                    refine lv_aload_n hx hb dX6_digest_138 rfl (lv_at hl13 0 rfl) ?_
                    refine r_get (own := RX6) (C := RX6) (F := TX6) (N := 12) (ci := 6) (v := .ref (q 1)) hx hb hK hts in_X6 hown hP13 0 rfl rfl 0 (by decide) kw_670 rfl dX6_digest_139 ?_
                    have hPc15 : va_P D vwCl (fl [mO q (nI kp) (nI ty) (nI 0) (nI at_) isF op, aW T 0 (q 1) 111 now, aW T 0 (q 6) 3 wh]) _ := flP_sub hP13 [0, 1, 4] rfl
                    have hDc15 : va_D A (fl [mO q (nI kp) (nI ty) (nI 0) (nI at_) isF op, aW T 0 (q 1) 111 now, aW T 0 (q 6) 3 wh]) := flD_sub hD13 [0, 1, 4] (by decide) rfl
                    refine cl_v (br := [aW T 0 (q 2) 111 thn1, aW T 0 (q 4) 60 txt]) (va_runV (As := [.ref (q 1)]) (rest := []) ⟨hx, hb, hml, hown, hts⟩ (c_X6_lays l D T q kp ty (nI 0) at_ isF op (q 1) now wh (hS.okM) _) (mkV hts okX6_lays kw_790 kw_792 ks_16 ⟨rfl, rfl, Nat.le_of_ble_eq_true rfl, Nat.le_of_ble_eq_true rfl⟩) (pv_rw hK hPc15 hDc15 (q0 := 0) rfl rfl rfl) rfl rfl hl13.1 rfl (lv_room (Nat.le_of_ble_eq_true rfl)) dX6_digest_142 ⟨Nat.le_of_ble_eq_true rfl, Nat.le_of_ble_eq_true rfl⟩) hP13 hD13 hS13 hA [2, 3] [0, 1, 4] rfl (by decide) (fun u_142 H16 locs16 hq_142 hP16 hD16 hS16 => ?_)
                    clear hP13 hD13 hS13 hPc15 hDc15
                    obtain ⟨op2_142, wh2_142⟩ := u_142
                    have hP16 : va_P D vwCl (fl [aW T 0 (q 2) 111 thn1, aW T 0 (q 4) 60 txt, mO q (nI kp) (nI ty) (nI 0) (nI at_) isF op2_142, aW T 0 (q 1) 111 now, aW T 0 (q 6) 3 wh2_142]) _ := hP16
                    have hD16 : va_D A (fl [aW T 0 (q 2) 111 thn1, aW T 0 (q 4) 60 txt, mO q (nI kp) (nI ty) (nI 0) (nI at_) isF op2_142, aW T 0 (q 1) 111 now, aW T 0 (q 6) 3 wh2_142]) := hD16
                    have hq_142 : (op2_142, wh2_142) = laI now wh 3 := hq_142
                    have hwh : wh2_142 = (laI now wh 3).2 := by rw [← hq_142]
                    refine lv_iconst (v := nI 0) hx hb dX6_digest_145 (by decide) ?_
                    refine lv_istore_n (lv' := [(3, .int (nI 0)), (0, .ref (q 0)), (1, .long v3)]) hx hb dX6_digest_146 rfl hl13 (by decide) rfl (fun ls17 hl17 => ?_)
                    clear hl13
                    have hP18 : va_P D vwCl (fl [mO q (nI kp) (nI ty) (nI 0) (nI at_) isF op2_142, aW T 0 (q 1) 111 now, aW T 0 (q 2) 111 thn1, aW T 0 (q 4) 60 txt, aW T 0 (q 6) 3 wh2_142]) _ := flP_sub hP16 [2, 3, 0, 1, 4] rfl
                    have hD18 : va_D A (fl [mO q (nI kp) (nI ty) (nI 0) (nI at_) isF op2_142, aW T 0 (q 1) 111 now, aW T 0 (q 2) 111 thn1, aW T 0 (q 4) 60 txt, aW T 0 (q 6) 3 wh2_142]) := flD_sub hD16 [2, 3, 0, 1, 4] (by decide) rfl
                    have hS18 := hS16
                    clear hP16 hS16 hD16
                    have loop147 : ∀ (n_ : Nat) (k : Nat) (v5 : Int64), (k ≤ 3) → (v5 = crN now wh k v3) → (3 - k) < n_ → ∀ (H : Heap) (locs : List Loc), va_P D vwCl (fl [mO q (nI kp) (nI ty) (nI 0) (nI at_) isF op2_142, aW T 0 (q 1) 111 now, aW T 0 (q 2) 111 thn1, aW T 0 (q 4) 60 txt, aW T 0 (q 6) 3 wh2_142]) H → va_D A (fl [mO q (nI kp) (nI ty) (nI 0) (nI at_) isF op2_142, aW T 0 (q 1) 111 now, aW T 0 (q 2) 111 thn1, aW T 0 (q 4) 60 txt, aW T 0 (q 6) 3 wh2_142]) → va_S A sX.heap H locs → ∀ ls : Array Slot, lv_has ls 5 [(0, .ref (q 0)), (1, .long v5), (3, .int (nI k))] → W pX l eX (rmD 6 0 0) sX mX ([.ref (q 0)] : List Value).toArray bX mtX cX H locs 0 0 TG (F0 mX 147 ls []) := by
                      intro n_
                      induction n_ with
                      | zero => intro k v5 hk hv5 hmu_ ; exact absurd hmu_ (Nat.not_lt_zero _)
                      | succ n_ ih147 =>
                        intro k v5 hk hv5 hmu_147 H20 locs20 hP20 hD20 hS20 ls20 hl20
                        refine lv_iload_n hx hb dX6_digest_147 rfl (lv_at hl20 2 rfl) ?_
                        refine lv_iconst (v := nI 3) hx hb dX6_digest_148 (by decide) ?_
                        refine n_icmp_ge (tgt := 221) hx hb (by omega) (by omega) dX6_digest_149 (by decide) (fun c_149 => ?_) (fun c_149 => ?_)
                        · skip
                          have hk2 : k = 3 := by omega
                          subst hk2
                          refine lv_iconst (v := nI 0) hx hb dX6_digest_221 (by decide) ?_
                          refine lv_istore_n (lv' := [(3, .int (nI 0)), (0, .ref (q 0)), (1, .long v5)]) hx hb dX6_digest_222 rfl hl20 (by decide) rfl (fun ls22 hl22 => ?_)
                          clear hl20
                          have loop223 : ∀ (n_ : Nat) (w : Nat) (v7 : Int64) (op1 : Int32) (thn3 : Nat → Int32) (wh3 : Nat → Int32), (w ≤ 4) → (v7 = mixN (fun x => byP now now 6 x) w v5) → (4 - w) < n_ → ∀ (H : Heap) (locs : List Loc), va_P D vwCl (fl [mO q (nI kp) (nI ty) (nI 0) (nI at_) isF op1, aW T 0 (q 1) 111 now, aW T 0 (q 2) 111 thn3, aW T 0 (q 4) 60 txt, aW T 0 (q 6) 3 wh3]) H → va_D A (fl [mO q (nI kp) (nI ty) (nI 0) (nI at_) isF op1, aW T 0 (q 1) 111 now, aW T 0 (q 2) 111 thn3, aW T 0 (q 4) 60 txt, aW T 0 (q 6) 3 wh3]) → va_S A sX.heap H locs → ∀ ls : Array Slot, lv_has ls 5 [(0, .ref (q 0)), (1, .long v7), (3, .int (nI w))] → W pX l eX (rmD 6 0 0) sX mX ([.ref (q 0)] : List Value).toArray bX mtX cX H locs 0 0 TG (F0 mX 223 ls []) := by
                            intro n_
                            induction n_ with
                            | zero => intro w v7 op1 thn3 wh3 hw hv7 hmu_ ; exact absurd hmu_ (Nat.not_lt_zero _)
                            | succ n_ ih223 =>
                              intro w v7 op1 thn3 wh3 hw hv7 hmu_223 H24 locs24 hP24 hD24 hS24 ls24 hl24
                              refine lv_iload_n hx hb dX6_digest_223 rfl (lv_at hl24 2 rfl) ?_
                              refine lv_iconst (v := nI 4) hx hb dX6_digest_224 (by decide) ?_
                              refine n_icmp_ge (tgt := 249) hx hb (by omega) (by omega) dX6_digest_225 (by decide) (fun c_225 => ?_) (fun c_225 => ?_)
                              · skip
                                have hw2 : w = 4 := by omega
                                subst hw2
                                refine lv_ldc2 (v := 31) hx hb hown (hts _ kw_921) dX6_digest_249 ?_
                                refine lv_ldc2 (v := 31) hx hb hown (hts _ kw_921) dX6_digest_252 ?_
                                refine lv_lload_n hx hb dX6_digest_255 rfl (lv_at hl24 1 rfl) ?_
                                refine lv_lmul hx hb dX6_digest_256 ?_
                                refine lv_aload_n hx hb dX6_digest_257 rfl (lv_at hl24 0 rfl) ?_
                                have hPc26 : va_P D vwCl (fl [mO q (nI kp) (nI ty) (nI 0) (nI at_) isF op1, aW T 0 (q 1) 111 now, aW T 0 (q 2) 111 thn3, aW T 0 (q 6) 3 wh3]) _ := flP_sub hP24 [0, 1, 2, 4] rfl
                                have hDc26 : va_D A (fl [mO q (nI kp) (nI ty) (nI 0) (nI at_) isF op1, aW T 0 (q 1) 111 now, aW T 0 (q 2) 111 thn3, aW T 0 (q 6) 3 wh3]) := flD_sub hD24 [0, 1, 2, 4] (by decide) rfl
                                refine cl_i (br := [aW T 0 (q 4) 60 txt]) (va_runV (As := []) (rest := [.long (31 * v7), .long 31]) ⟨hx, hb, hml, hown, hts⟩ (c_X6_best l D T q kp ty (nI 0) at_ isF op1 now thn3 wh3 (hS) _) (mkV hts okX6_best kw_887 kw_889 ks_24 ⟨rfl, rfl, Nat.le_of_ble_eq_true rfl, Nat.le_of_ble_eq_true rfl⟩) (pv_rw hK hPc26 hDc26 (q0 := 0) rfl rfl rfl) rfl rfl hl24.1 rfl (lv_room (Nat.le_of_ble_eq_true rfl)) dX6_digest_258 ⟨Nat.le_of_ble_eq_true rfl, Nat.le_of_ble_eq_true rfl⟩) hP24 hD24 hS24 hA [3] [0, 1, 2, 4] rfl (by decide) (fun r_258 u_258 H27 locs27 hq_258 hP27 hD27 hS27 => ?_)
                                clear hP24 hD24 hS24 hPc26 hDc26
                                obtain ⟨op2_258, thn2_258, wh2_258⟩ := u_258
                                have hP27 : va_P D vwCl (fl [aW T 0 (q 4) 60 txt, mO q (nI kp) (nI ty) (nI 0) (nI at_) isF op2_258, aW T 0 (q 1) 111 now, aW T 0 (q 2) 111 thn2_258, aW T 0 (q 6) 3 wh2_258]) _ := hP27
                                have hD27 : va_D A (fl [aW T 0 (q 4) 60 txt, mO q (nI kp) (nI ty) (nI 0) (nI at_) isF op2_258, aW T 0 (q 1) 111 now, aW T 0 (q 2) 111 thn2_258, aW T 0 (q 6) 3 wh2_258]) := hD27
                                have hq_258 : r_258 = (bsI now 12).1 := hq_258
                                refine lv_i2l hx hb dX6_digest_261 rfl ?_
                                refine lv_ladd hx hb dX6_digest_262 ?_
                                refine lv_lmul hx hb dX6_digest_263 ?_
                                refine lv_aload_n hx hb dX6_digest_264 rfl (lv_at hl24 0 rfl) ?_
                                have hPc28 : va_P D vwCl (fl [mO q (nI kp) (nI ty) (nI 0) (nI at_) isF op2_258, aW T 0 (q 1) 111 now, aW T 0 (q 2) 111 thn2_258, aW T 0 (q 6) 3 wh2_258]) _ := flP_sub hP27 [1, 2, 3, 4] rfl
                                have hDc28 : va_D A (fl [mO q (nI kp) (nI ty) (nI 0) (nI at_) isF op2_258, aW T 0 (q 1) 111 now, aW T 0 (q 2) 111 thn2_258, aW T 0 (q 6) 3 wh2_258]) := flD_sub hD27 [1, 2, 3, 4] (by decide) rfl
                                refine cl_i (br := [aW T 0 (q 4) 60 txt]) (va_runV (As := []) (rest := [.long (31 * ((31 * v7) + ((r_258).toInt64)))]) ⟨hx, hb, hml, hown, hts⟩ (c_X6_clears l D T q kp ty (nI 0) at_ isF op2_258 now thn2_258 wh2_258 (hS) _) (mkV hts okX6_clears kw_895 kw_897 ks_25 ⟨rfl, rfl, Nat.le_of_ble_eq_true rfl, Nat.le_of_ble_eq_true rfl⟩) (pv_rw hK hPc28 hDc28 (q0 := 0) rfl rfl rfl) rfl rfl hl24.1 rfl (lv_room (Nat.le_of_ble_eq_true rfl)) dX6_digest_265 ⟨Nat.le_of_ble_eq_true rfl, Nat.le_of_ble_eq_true rfl⟩) hP27 hD27 hS27 hA [0] [1, 2, 3, 4] rfl (by decide) (fun r_265 u_265 H29 locs29 hq_265 hP29 hD29 hS29 => ?_)
                                clear hP27 hD27 hS27 hPc28 hDc28
                                obtain ⟨op2_265, thn2_265, wh2_265⟩ := u_265
                                have hP29 : va_P D vwCl (fl [aW T 0 (q 4) 60 txt, mO q (nI kp) (nI ty) (nI 0) (nI at_) isF op2_265, aW T 0 (q 1) 111 now, aW T 0 (q 2) 111 thn2_265, aW T 0 (q 6) 3 wh2_265]) _ := hP29
                                have hD29 : va_D A (fl [aW T 0 (q 4) 60 txt, mO q (nI kp) (nI ty) (nI 0) (nI at_) isF op2_265, aW T 0 (q 1) 111 now, aW T 0 (q 2) 111 thn2_265, aW T 0 (q 6) 3 wh2_265]) := hD29
                                have hq_265 : r_265 = clG now 0 201 := hq_265
                                refine lv_i2l hx hb dX6_digest_268 rfl ?_
                                refine lv_ladd hx hb dX6_digest_269 ?_
                                refine lv_lstore_n (lv' := [(1, .long ((31 * ((31 * v7) + ((r_258).toInt64))) + ((r_265).toInt64))), (0, .ref (q 0)), (3, .int (nI 4))]) hx hb dX6_digest_270 rfl hl24 (by decide) rfl (fun ls30 hl30 => ?_)
                                clear hl24
                                have hb12 := brNM_le now 12
                                refine lv_ldc2 (v := 31) hx hb hown (hts _ kw_921) dX6_digest_271 ?_
                                refine lv_ldc2 (v := 31) hx hb hown (hts _ kw_921) dX6_digest_274 ?_
                                refine lv_lload_n hx hb dX6_digest_277 rfl (lv_at hl30 0 rfl) ?_
                                refine lv_lmul hx hb dX6_digest_278 ?_
                                refine lv_aload_n hx hb dX6_digest_279 rfl (lv_at hl30 1 rfl) ?_
                                have hPc31 : va_P D vwCl (fl [mO q (nI kp) (nI ty) (nI 0) (nI at_) isF op2_265, aW T 0 (q 1) 111 now]) _ := hP29.sub [1, 2] rfl
                                refine cr_d (va_runV (As := []) (rest := [.long (31 * ((31 * ((31 * v7) + ((r_258).toInt64))) + ((r_265).toInt64))), .long 31]) ⟨hx, hb, hml, hown, hts⟩ (c_X6_share l D T q kp ty (nI 0) at_ isF op2_265 now ) (mkV hts okX6_share kw_911 kw_913 ks_27 ⟨rfl, rfl, Nat.le_of_ble_eq_true rfl, Nat.le_of_ble_eq_true rfl⟩) (pv_ro hK hPc31 (q0 := 0) rfl rfl rfl) rfl rfl hl30.1 rfl (lv_room (Nat.le_of_ble_eq_true rfl)) dX6_digest_280 ⟨Nat.le_of_ble_eq_true rfl, Nat.le_of_ble_eq_true rfl⟩) hP29 hS29 (fun r_280 H32 locs32 hq_280 hP32 hS32 => ?_)
                                clear hP29 hS29 hPc31
                                have hD32 := hD29
                                clear hD29
                                have hq_280 : r_280 = shareD (12 - brNM now 12) := hq_280
                                subst hq_280
                                have hPc33 : va_P D vwCl (fl []) _ := hP32.sub [] rfl
                                refine cr_l (va_runS (As := [.double (shareD (12 - brNM now 12))]) (rest := [.long (31 * ((31 * ((31 * v7) + ((r_258).toInt64))) + ((r_265).toInt64))), .long 31]) ⟨hx, hb, hml, hown, hts⟩ (c_d2lb l D T (shareD (12 - brNM now 12)) (shareD_nn _ (by omega))) (mkS hts okJxe99ae_doubleToLongBits_ccdee kw_922 kw_923 ⟨rfl, rfl, Nat.le_of_ble_eq_true rfl, Nat.le_of_ble_eq_true rfl⟩) (ps_ro hK hPc33) rfl rfl hl30.1 rfl (lv_room (Nat.le_of_ble_eq_true rfl)) dX6_digest_283 ⟨Nat.le_of_ble_eq_true rfl, Nat.le_of_ble_eq_true rfl⟩) hP32 hS32 (fun r_283 H34 locs34 hq_283 hP34 hS34 => ?_)
                                clear hP32 hS32 hPc33
                                have hD34 := hD32
                                clear hD32
                                subst hq_283
                                refine lv_ladd hx hb dX6_digest_286 ?_
                                refine lv_lmul hx hb dX6_digest_287 ?_
                                refine lv_aload_n hx hb dX6_digest_288 rfl (lv_at hl30 1 rfl) ?_
                                refine r_get (own := RX6) (C := RX6) (F := TX6) (N := 12) (ci := 6) (v := .int (nI ty)) hx hb hK hts in_X6 hown hP34 1 rfl rfl 5 (by decide) kw_675 rfl dX6_digest_289 ?_
                                refine lv_i2l hx hb dX6_digest_292 rfl ?_
                                refine lv_ladd hx hb dX6_digest_293 ?_
                                refine lv_lstore_n (lv' := [(1, .long ((31 * ((31 * ((31 * ((31 * v7) + ((r_258).toInt64))) + ((r_265).toInt64))) + ((shareD (12 - brNM now 12)).toInt64))) + ((nI ty).toInt64))), (0, .ref (q 0)), (3, .int (nI 4))]) hx hb dX6_digest_294 rfl hl30 (by decide) rfl (fun ls35 hl35 => ?_)
                                clear hl30
                                obtain ⟨v9, hv9⟩ : ∃ x, (31 * ((31 * ((31 * ((31 * v7) + ((r_258).toInt64))) + ((r_265).toInt64))) + ((shareD (12 - brNM now 12)).toInt64))) + ((nI ty).toInt64) = x := ⟨_, rfl⟩
                                refine lv_iconst (v := nI 0) hx hb dX6_digest_295 (by decide) ?_
                                refine lv_istore_n (lv' := [(3, .int (nI 0)), (1, .long ((31 * ((31 * ((31 * ((31 * v7) + ((r_258).toInt64))) + ((r_265).toInt64))) + ((shareD (12 - brNM now 12)).toInt64))) + ((nI ty).toInt64))), (0, .ref (q 0))]) hx hb dX6_digest_296 rfl hl35 (by decide) rfl (fun ls36 hl36 => ?_)
                                clear hl35
                                have loop297 : ∀ (n_ : Nat) (i : Nat) (v8 : Int64), (i ≤ ty) → (v8 = mixN txt i v9) → (ty - i) < n_ → ∀ (H : Heap) (locs : List Loc), va_P D vwCl (fl [aW T 0 (q 4) 60 txt, mO q (nI kp) (nI ty) (nI 0) (nI at_) isF op2_265, aW T 0 (q 1) 111 now, aW T 0 (q 2) 111 thn2_265, aW T 0 (q 6) 3 wh2_265]) H → va_D A (fl [aW T 0 (q 4) 60 txt, mO q (nI kp) (nI ty) (nI 0) (nI at_) isF op2_265, aW T 0 (q 1) 111 now, aW T 0 (q 2) 111 thn2_265, aW T 0 (q 6) 3 wh2_265]) → va_S A sX.heap H locs → ∀ ls : Array Slot, lv_has ls 5 [(0, .ref (q 0)), (1, .long v8), (3, .int (nI i))] → W pX l eX (rmD 6 0 0) sX mX ([.ref (q 0)] : List Value).toArray bX mtX cX H locs 0 0 TG (F0 mX 297 ls []) := by
                                  intro n_
                                  induction n_ with
                                  | zero => intro i v8 hi hv8 hmu_ ; exact absurd hmu_ (Nat.not_lt_zero _)
                                  | succ n_ ih297 =>
                                    intro i v8 hi hv8 hmu_297 H38 locs38 hP38 hD38 hS38 ls38 hl38
                                    refine lv_iload_n hx hb dX6_digest_297 rfl (lv_at hl38 2 rfl) ?_
                                    refine lv_aload_n hx hb dX6_digest_298 rfl (lv_at hl38 0 rfl) ?_
                                    refine r_get (own := RX6) (C := RX6) (F := TX6) (N := 12) (ci := 6) (v := .int (nI ty)) hx hb hK hts in_X6 hown hP38 1 rfl rfl 5 (by decide) kw_675 rfl dX6_digest_299 ?_
                                    refine n_icmp_ge (tgt := 325) hx hb (by omega) (by omega) dX6_digest_302 (by decide) (fun c_302 => ?_) (fun c_302 => ?_)
                                    · skip
                                      have hi2 : ty = i := by omega
                                      subst hi2
                                      refine lv_lload_n hx hb dX6_digest_325 rfl (lv_at hl38 1 rfl) ?_
                                      refine ret_l hTG (Nat.le_refl _) (Nat.le_refl _) hx hb hr hlocks (((nI 0), op2_265, thn2_265, wh2_265)) hP38 hD38 hS38 [1, 2, 3, 0, 4] rfl (by decide) dX6_digest_326 ?_
                                      refine ⟨?_, rfl⟩
                                      rw [hv8, dgM, dm8, dm4, ← hv, ← hv2, ← hv3, crN_wh now (fun _ => 0) wh _ 3 (by omega), ← hv5, ← hv7, ← hq_258, ← hq_265, ← hv9]
                                      rfl
                                    · skip
                                      refine lv_ldc2 (v := 31) hx hb hown (hts _ kw_921) dX6_digest_305 ?_
                                      refine lv_lload_n hx hb dX6_digest_308 rfl (lv_at hl38 1 rfl) ?_
                                      refine lv_lmul hx hb dX6_digest_309 ?_
                                      refine lv_aload_n hx hb dX6_digest_310 rfl (lv_at hl38 0 rfl) ?_
                                      refine r_get (own := RX6) (C := RX6) (F := TX6) (N := 12) (ci := 6) (v := .ref (q 4)) hx hb hK hts in_X6 hown hP38 1 rfl rfl 4 (by decide) kw_674 rfl dX6_digest_311 ?_
                                      refine lv_iload_n hx hb dX6_digest_314 rfl (lv_at hl38 2 rfl) ?_
                                      refine r_iald hx hb hK hP38 0 (f := txt) (n := 60) rfl i (by decide) dX6_digest_315 (by omega) ?_
                                      refine lv_i2l hx hb dX6_digest_316 rfl ?_
                                      refine lv_ladd hx hb dX6_digest_317 ?_
                                      refine lv_lstore_n (lv' := [(1, .long ((31 * v8) + ((txt i).toInt64))), (0, .ref (q 0)), (3, .int (nI i))]) hx hb dX6_digest_318 rfl hl38 (by decide) rfl (fun ls40 hl40 => ?_)
                                      clear hl38
                                      refine lv_iinc (v := nI (i + 1)) (lv' := [(3, .int (nI (i + 1))), (1, .long ((31 * v8) + ((txt i).toInt64))), (0, .ref (q 0))]) hx hb dX6_digest_319 hl40 (k := 2) rfl (nI_add i 1) (by decide) rfl (fun ls41 hl41 => ?_)
                                      clear hl40
                                      refine lv_goto (tgt := 297) hx hb dX6_digest_322 (by decide) ?_
                                      exact ih297 (i + 1) ((31 * v8) + ((txt i).toInt64)) (by omega) (by rw [mixN, ← hv8]; rfl) (by omega) _ _ hP38 hD38 hS38 _ (lv_sub hl41 [2, 1, 0] rfl)
                                exact loop297 ((ty - 0) + 1) 0 ((31 * ((31 * ((31 * ((31 * v7) + ((r_258).toInt64))) + ((r_265).toInt64))) + ((shareD (12 - brNM now 12)).toInt64))) + ((nI ty).toInt64)) (by omega) (hv9) (Nat.lt_succ_self _) _ _ hP34 hD34 hS34 _ (lv_sub hl36 [2, 1, 0] rfl)
                              · skip
                                refine lv_ldc2 (v := 31) hx hb hown (hts _ kw_921) dX6_digest_228 ?_
                                refine lv_lload_n hx hb dX6_digest_231 rfl (lv_at hl24 1 rfl) ?_
                                refine lv_lmul hx hb dX6_digest_232 ?_
                                refine lv_aload_n hx hb dX6_digest_233 rfl (lv_at hl24 0 rfl) ?_
                                refine lv_bipush (v := nI 6) hx hb dX6_digest_234 (by decide) ?_
                                refine lv_iload_n hx hb dX6_digest_236 rfl (lv_at hl24 2 rfl) ?_
                                have hPc42 : va_P D vwCl (fl [mO q (nI kp) (nI ty) (nI 0) (nI at_) isF op1, aW T 0 (q 1) 111 now, aW T 0 (q 2) 111 thn3, aW T 0 (q 6) 3 wh3]) _ := flP_sub hP24 [0, 1, 2, 4] rfl
                                have hDc42 : va_D A (fl [mO q (nI kp) (nI ty) (nI 0) (nI at_) isF op1, aW T 0 (q 1) 111 now, aW T 0 (q 2) 111 thn3, aW T 0 (q 6) 3 wh3]) := flD_sub hD24 [0, 1, 2, 4] (by decide) rfl
                                refine cl_i (br := [aW T 0 (q 4) 60 txt]) (va_runV (As := [.int (nI 6), .int (nI w)]) (rest := [.long (31 * v7)]) ⟨hx, hb, hml, hown, hts⟩ (c_X6_byPassing l D T q kp ty (nI 0) at_ isF op1 now thn3 wh3 6 w (by omega) (by omega) (hS) _) (mkV hts okX6_byPassing kw_879 kw_881 ks_23 ⟨rfl, rfl, Nat.le_of_ble_eq_true rfl, Nat.le_of_ble_eq_true rfl⟩) (pv_rw hK hPc42 hDc42 (q0 := 0) rfl rfl rfl) rfl rfl hl24.1 rfl (lv_room (Nat.le_of_ble_eq_true rfl)) dX6_digest_237 ⟨Nat.le_of_ble_eq_true rfl, Nat.le_of_ble_eq_true rfl⟩) hP24 hD24 hS24 hA [3] [0, 1, 2, 4] rfl (by decide) (fun r_237 u_237 H43 locs43 hq_237 hP43 hD43 hS43 => ?_)
                                clear hP24 hD24 hS24 hPc42 hDc42
                                obtain ⟨op2_237, thn2_237, wh2_237⟩ := u_237
                                have hP43 : va_P D vwCl (fl [aW T 0 (q 4) 60 txt, mO q (nI kp) (nI ty) (nI 0) (nI at_) isF op2_237, aW T 0 (q 1) 111 now, aW T 0 (q 2) 111 thn2_237, aW T 0 (q 6) 3 wh2_237]) _ := hP43
                                have hD43 : va_D A (fl [aW T 0 (q 4) 60 txt, mO q (nI kp) (nI ty) (nI 0) (nI at_) isF op2_237, aW T 0 (q 1) 111 now, aW T 0 (q 2) 111 thn2_237, aW T 0 (q 6) 3 wh2_237]) := hD43
                                have hq_237 : r_237 = byP (va_cpy now thn3 0 0 111) now 6 w := hq_237
                                refine lv_i2l hx hb dX6_digest_240 rfl ?_
                                refine lv_ladd hx hb dX6_digest_241 ?_
                                refine lv_lstore_n (lv' := [(1, .long ((31 * v7) + ((r_237).toInt64))), (0, .ref (q 0)), (3, .int (nI w))]) hx hb dX6_digest_242 rfl hl24 (by decide) rfl (fun ls44 hl44 => ?_)
                                clear hl24
                                refine lv_iinc (v := nI (w + 1)) (lv' := [(3, .int (nI (w + 1))), (1, .long ((31 * v7) + ((r_237).toInt64))), (0, .ref (q 0))]) hx hb dX6_digest_243 hl44 (k := 2) rfl (nI_add w 1) (by decide) rfl (fun ls45 hl45 => ?_)
                                clear hl44
                                refine lv_goto (tgt := 223) hx hb dX6_digest_246 (by decide) ?_
                                have hP46 : va_P D vwCl (fl [mO q (nI kp) (nI ty) (nI 0) (nI at_) isF op2_237, aW T 0 (q 1) 111 now, aW T 0 (q 2) 111 thn2_237, aW T 0 (q 4) 60 txt, aW T 0 (q 6) 3 wh2_237]) _ := flP_sub hP43 [1, 2, 3, 0, 4] rfl
                                have hD46 : va_D A (fl [mO q (nI kp) (nI ty) (nI 0) (nI at_) isF op2_237, aW T 0 (q 1) 111 now, aW T 0 (q 2) 111 thn2_237, aW T 0 (q 4) 60 txt, aW T 0 (q 6) 3 wh2_237]) := flD_sub hD43 [1, 2, 3, 0, 4] (by decide) rfl
                                have hS46 := hS43
                                clear hP43 hS43 hD43
                                exact ih223 (w + 1) ((31 * v7) + ((r_237).toInt64)) op2_237 thn2_237 wh2_237 (by omega) (by rw [mixN, ← hv7, ← (okS_self hS (e111_cpy now thn3)).by_ 6 w, ← hq_237]; rfl) (by omega) _ _ hP46 hD46 hS46 _ (lv_sub hl45 [2, 1, 0] rfl)
                          exact loop223 ((4 - 0) + 1) 0 v5 op2_142 thn1 wh2_142 (by omega) (rfl) (Nat.lt_succ_self _) _ _ hP20 hD20 hS20 _ (lv_sub hl22 [1, 2, 0] rfl)
                        · skip
                          obtain ⟨nn, hn8, hna, -⟩ := hS.okM k (by omega)
                          refine lv_ldc2 (v := 31) hx hb hown (hts _ kw_921) dX6_digest_152 ?_
                          refine lv_lload_n hx hb dX6_digest_155 rfl (lv_at hl20 1 rfl) ?_
                          refine lv_lmul hx hb dX6_digest_156 ?_
                          refine lv_aload_n hx hb dX6_digest_157 rfl (lv_at hl20 0 rfl) ?_
                          refine r_get (own := RX6) (C := RX6) (F := TX6) (N := 12) (ci := 6) (v := .ref (q 6)) hx hb hK hts in_X6 hown hP20 0 rfl rfl 10 (by decide) kw_680 rfl dX6_digest_158 ?_
                          refine lv_iload_n hx hb dX6_digest_161 rfl (lv_at hl20 2 rfl) ?_
                          refine r_iald hx hb hK hP20 4 (f := wh2_142) (n := 3) rfl k (by decide) dX6_digest_162 (by omega) ?_
                          refine lv_i2l hx hb dX6_digest_163 rfl ?_
                          refine lv_ladd hx hb dX6_digest_164 ?_
                          refine lv_lstore_n (lv' := [(1, .long ((31 * v5) + ((wh2_142 k).toInt64))), (0, .ref (q 0)), (3, .int (nI k))]) hx hb dX6_digest_165 rfl hl20 (by decide) rfl (fun ls47 hl47 => ?_)
                          clear hl20
                          refine lv_iconst (v := nI 1) hx hb dX6_digest_166 (by decide) ?_
                          refine lv_istore (lv' := [(4, .int (nI 1)), (1, .long ((31 * v5) + ((wh2_142 k).toInt64))), (0, .ref (q 0)), (3, .int (nI k))]) hx hb dX6_digest_167 hl47 (by decide) rfl (fun ls48 hl48 => ?_)
                          clear hl47
                          have loop169 : ∀ (n_ : Nat) (j : Nat) (v6 : Int64), (j ≤ nn) → (v6 = mixN (fun y => now (84 + 9 * k + 1 + y)) j (mixL v5 (wh2_142 k).toInt64)) → (nn - j) < n_ → ∀ (H : Heap) (locs : List Loc), va_P D vwCl (fl [mO q (nI kp) (nI ty) (nI 0) (nI at_) isF op2_142, aW T 0 (q 1) 111 now, aW T 0 (q 2) 111 thn1, aW T 0 (q 4) 60 txt, aW T 0 (q 6) 3 wh2_142]) H → va_D A (fl [mO q (nI kp) (nI ty) (nI 0) (nI at_) isF op2_142, aW T 0 (q 1) 111 now, aW T 0 (q 2) 111 thn1, aW T 0 (q 4) 60 txt, aW T 0 (q 6) 3 wh2_142]) → va_S A sX.heap H locs → ∀ ls : Array Slot, lv_has ls 5 [(0, .ref (q 0)), (1, .long v6), (3, .int (nI k)), (4, .int (nI (j + 1)))] → W pX l eX (rmD 6 0 0) sX mX ([.ref (q 0)] : List Value).toArray bX mtX cX H locs 0 0 TG (F0 mX 169 ls []) := by
                            intro n_
                            induction n_ with
                            | zero => intro j v6 hj2 hv6 hmu_ ; exact absurd hmu_ (Nat.not_lt_zero _)
                            | succ n_ ih169 =>
                              intro j v6 hj2 hv6 hmu_169 H50 locs50 hP50 hD50 hS50 ls50 hl50
                              refine lv_iload hx hb dX6_digest_169 (lv_at hl50 3 rfl) ?_
                              refine lv_aload_n hx hb dX6_digest_171 rfl (lv_at hl50 0 rfl) ?_
                              refine r_get (own := RX6) (C := RX6) (F := TX6) (N := 12) (ci := 6) (v := .ref (q 1)) hx hb hK hts in_X6 hown hP50 0 rfl rfl 0 (by decide) kw_670 rfl dX6_digest_172 ?_
                              refine lv_bipush (v := nI 84) hx hb dX6_digest_175 (by decide) ?_
                              refine lv_bipush (v := nI 9) hx hb dX6_digest_177 (by decide) ?_
                              refine lv_iload_n hx hb dX6_digest_179 rfl (lv_at hl50 2 rfl) ?_
                              refine lv_imul hx hb dX6_digest_180 ?_
                              refine tp_i (y := nI (9 * k)) (pk_mul _ _) ?_
                              refine lv_iadd hx hb dX6_digest_181 ?_
                              refine tp_i (y := nI (84 + (9 * k))) (nI_add _ _) ?_
                              refine r_iald hx hb hK hP50 1 (f := now) (n := 111) rfl (84 + (9 * k)) (by decide) dX6_digest_182 (by omega) ?_
                              refine tp_i (y := nI nn) (hna) ?_
                              refine n_icmp_gt (tgt := 215) hx hb (by omega) (by omega) dX6_digest_183 (by decide) (fun c_183 => ?_) (fun c_183 => ?_)
                              · skip
                                have hj3 : nn = j := by omega
                                subst hj3
                                refine lv_iinc (v := nI (k + 1)) (lv' := [(3, .int (nI (k + 1))), (0, .ref (q 0)), (1, .long v6), (4, .int (nI (nn + 1)))]) hx hb dX6_digest_215 hl50 (k := 2) rfl (nI_add k 1) (by decide) rfl (fun ls52 hl52 => ?_)
                                clear hl50
                                refine lv_goto (tgt := 147) hx hb dX6_digest_218 (by decide) ?_
                                exact ih147 (k + 1) v6 (by omega) (by rw [crN, ← hv5, hna, nIcl (show nn < 2147483648 by omega), ← hwh, hv6]) (by omega) _ _ hP50 hD50 hS50 _ (lv_sub hl52 [1, 2, 0] rfl)
                              · skip
                                refine lv_ldc2 (v := 31) hx hb hown (hts _ kw_921) dX6_digest_186 ?_
                                refine lv_lload_n hx hb dX6_digest_189 rfl (lv_at hl50 1 rfl) ?_
                                refine lv_lmul hx hb dX6_digest_190 ?_
                                refine lv_aload_n hx hb dX6_digest_191 rfl (lv_at hl50 0 rfl) ?_
                                refine r_get (own := RX6) (C := RX6) (F := TX6) (N := 12) (ci := 6) (v := .ref (q 1)) hx hb hK hts in_X6 hown hP50 0 rfl rfl 0 (by decide) kw_670 rfl dX6_digest_192 ?_
                                refine lv_bipush (v := nI 84) hx hb dX6_digest_195 (by decide) ?_
                                refine lv_bipush (v := nI 9) hx hb dX6_digest_197 (by decide) ?_
                                refine lv_iload_n hx hb dX6_digest_199 rfl (lv_at hl50 2 rfl) ?_
                                refine lv_imul hx hb dX6_digest_200 ?_
                                refine tp_i (y := nI (9 * k)) (pk_mul _ _) ?_
                                refine lv_iadd hx hb dX6_digest_201 ?_
                                refine tp_i (y := nI (84 + (9 * k))) (nI_add _ _) ?_
                                refine lv_iload hx hb dX6_digest_202 (lv_at hl50 3 rfl) ?_
                                refine lv_iadd hx hb dX6_digest_204 ?_
                                refine tp_i (y := nI (84 + (9 * k) + (j + 1))) (nI_add _ _) ?_
                                refine r_iald hx hb hK hP50 1 (f := now) (n := 111) rfl (84 + (9 * k) + (j + 1)) (by decide) dX6_digest_205 (by omega) ?_
                                refine lv_i2l hx hb dX6_digest_206 rfl ?_
                                refine lv_ladd hx hb dX6_digest_207 ?_
                                refine lv_lstore_n (lv' := [(1, .long ((31 * v6) + ((now (84 + (9 * k) + (j + 1))).toInt64))), (0, .ref (q 0)), (3, .int (nI k)), (4, .int (nI (j + 1)))]) hx hb dX6_digest_208 rfl hl50 (by decide) rfl (fun ls53 hl53 => ?_)
                                clear hl50
                                refine lv_iinc (v := nI (j + 1 + 1)) (lv' := [(4, .int (nI (j + 1 + 1))), (1, .long ((31 * v6) + ((now (84 + (9 * k) + (j + 1))).toInt64))), (0, .ref (q 0)), (3, .int (nI k))]) hx hb dX6_digest_209 hl53 (k := 3) rfl (nI_add (j + 1) 1) (by decide) rfl (fun ls54 hl54 => ?_)
                                clear hl53
                                refine lv_goto (tgt := 169) hx hb dX6_digest_212 (by decide) ?_
                                exact ih169 (j + 1) ((31 * v6) + ((now (84 + (9 * k) + (j + 1))).toInt64)) (by omega) (by rw [mixN, ← hv6, show 84 + 9 * k + 1 + j = 84 + 9 * k + (j + 1) by omega]; rfl) (by omega) _ _ hP50 hD50 hS50 _ (lv_sub hl54 [2, 1, 3, 0] rfl)
                          exact loop169 ((nn - 0) + 1) 0 ((31 * v5) + ((wh2_142 k).toInt64)) (by omega) (rfl) (Nat.lt_succ_self _) _ _ hP20 hD20 hS20 _ (lv_sub hl48 [2, 1, 3, 0] rfl)
                    exact loop147 ((3 - 0) + 1) 0 v3 (by omega) (rfl) (Nat.lt_succ_self _) _ _ hP18 hD18 hS18 _ (lv_sub hl17 [1, 2, 0] rfl)
                  · skip
                    refine lv_iconst (v := nI 0) hx hb dX6_digest_72 (by decide) ?_
                    refine lv_istore (lv' := [(4, .int (nI 0)), (0, .ref (q 0)), (1, .long v3), (3, .int (nI s))]) hx hb dX6_digest_73 hl13 (by decide) rfl (fun ls55 hl55 => ?_)
                    clear hl13
                    have loop75 : ∀ (n_ : Nat) (w : Nat) (v4 : Int64), (w ≤ 8) → (v4 = mixN (ofSt now s) w v3) → (8 - w) < n_ → ∀ (H : Heap) (locs : List Loc), va_P D vwCl (fl [mO q (nI kp) (nI ty) (nI 0) (nI at_) isF op, aW T 0 (q 1) 111 now, aW T 0 (q 2) 111 thn1, aW T 0 (q 4) 60 txt, aW T 0 (q 6) 3 wh]) H → va_D A (fl [mO q (nI kp) (nI ty) (nI 0) (nI at_) isF op, aW T 0 (q 1) 111 now, aW T 0 (q 2) 111 thn1, aW T 0 (q 4) 60 txt, aW T 0 (q 6) 3 wh]) → va_S A sX.heap H locs → ∀ ls : Array Slot, lv_has ls 5 [(0, .ref (q 0)), (1, .long v4), (3, .int (nI s)), (4, .int (nI w))] → W pX l eX (rmD 6 0 0) sX mX ([.ref (q 0)] : List Value).toArray bX mtX cX H locs 0 0 TG (F0 mX 75 ls []) := by
                      intro n_
                      induction n_ with
                      | zero => intro w v4 hw hv4 hmu_ ; exact absurd hmu_ (Nat.not_lt_zero _)
                      | succ n_ ih75 =>
                        intro w v4 hw hv4 hmu_75 H57 locs57 hP57 hD57 hS57 ls57 hl57
                        refine lv_iload hx hb dX6_digest_75 (lv_at hl57 3 rfl) ?_
                        refine lv_bipush (v := nI 8) hx hb dX6_digest_77 (by decide) ?_
                        refine n_icmp_ge (tgt := 103) hx hb (by omega) (by omega) dX6_digest_79 (by decide) (fun c_79 => ?_) (fun c_79 => ?_)
                        · skip
                          have hw2 : w = 8 := by omega
                          subst hw2
                          refine lv_ldc2 (v := 31) hx hb hown (hts _ kw_921) dX6_digest_103 ?_
                          refine lv_ldc2 (v := 31) hx hb hown (hts _ kw_921) dX6_digest_106 ?_
                          refine lv_lload_n hx hb dX6_digest_109 rfl (lv_at hl57 1 rfl) ?_
                          refine lv_lmul hx hb dX6_digest_110 ?_
                          refine lv_aload_n hx hb dX6_digest_111 rfl (lv_at hl57 0 rfl) ?_
                          refine r_get (own := RX6) (C := RX6) (F := TX6) (N := 12) (ci := 6) (v := .ref (q 1)) hx hb hK hts in_X6 hown hP57 0 rfl rfl 0 (by decide) kw_670 rfl dX6_digest_112 ?_
                          refine lv_iload_n hx hb dX6_digest_115 rfl (lv_at hl57 2 rfl) ?_
                          refine lv_iconst (v := nI 2) hx hb dX6_digest_116 (by decide) ?_
                          have hPc59 : va_P D vwCl (fl [aW T 0 (q 1) 111 now]) _ := hP57.sub [1] rfl
                          refine cr_i (va_runS (As := [.ref (q 1), .int (nI s), .int (nI 2)]) (rest := [.long (31 * v4), .long 31]) ⟨hx, hb, hml, hown, hts⟩ (c_X6_of l D T (q 1) now s 2 (by omega) (by omega)) (mkS hts okX6_of kw_783 kw_784 ⟨rfl, rfl, Nat.le_of_ble_eq_true rfl, Nat.le_of_ble_eq_true rfl⟩) (ps_ro hK hPc59) rfl rfl hl57.1 rfl (lv_room (Nat.le_of_ble_eq_true rfl)) dX6_digest_117 ⟨Nat.le_of_ble_eq_true rfl, Nat.le_of_ble_eq_true rfl⟩) hP57 hS57 (fun r_117 H60 locs60 hq_117 hP60 hS60 => ?_)
                          clear hP57 hS57 hPc59
                          have hD60 := hD57
                          clear hD57
                          have hq_117 : r_117 = now (12 + 6 * s + 2) := hq_117
                          subst hq_117
                          refine lv_i2l hx hb dX6_digest_120 rfl ?_
                          refine lv_ladd hx hb dX6_digest_121 ?_
                          refine lv_lmul hx hb dX6_digest_122 ?_
                          refine lv_aload_n hx hb dX6_digest_123 rfl (lv_at hl57 0 rfl) ?_
                          refine lv_iload_n hx hb dX6_digest_124 rfl (lv_at hl57 2 rfl) ?_
                          have hPc61 : va_P D vwCl (fl [mO q (nI kp) (nI ty) (nI 0) (nI at_) isF op, aW T 0 (q 1) 111 now, aW T 0 (q 2) 111 thn1]) _ := flP_sub hP60 [0, 1, 2] rfl
                          have hDc61 : va_D A (fl [mO q (nI kp) (nI ty) (nI 0) (nI at_) isF op, aW T 0 (q 1) 111 now, aW T 0 (q 2) 111 thn1]) := flD_sub hD60 [0, 1, 2] (by decide) rfl
                          refine cl_i (br := [aW T 0 (q 4) 60 txt, aW T 0 (q 6) 3 wh]) (va_runV (As := [.int (nI s)]) (rest := [.long (31 * ((31 * v4) + ((now (12 + 6 * s + 2)).toInt64)))]) ⟨hx, hb, hml, hown, hts⟩ (c_X6_least l D T q kp ty (nI 0) at_ isF op now thn1 s (by omega) _) (mkV hts okX6_least kw_903 kw_905 ks_26 ⟨rfl, rfl, Nat.le_of_ble_eq_true rfl, Nat.le_of_ble_eq_true rfl⟩) (pv_rw hK hPc61 hDc61 (q0 := 0) rfl rfl rfl) rfl rfl hl57.1 rfl (lv_room (Nat.le_of_ble_eq_true rfl)) dX6_digest_125 ⟨Nat.le_of_ble_eq_true rfl, Nat.le_of_ble_eq_true rfl⟩) hP60 hD60 hS60 hA [3, 4] [0, 1, 2] rfl (by decide) (fun r_125 thn2_125 H62 locs62 hq_125 hP62 hD62 hS62 => ?_)
                          clear hP60 hD60 hS60 hPc61 hDc61
                          have hP62 : va_P D vwCl (fl [aW T 0 (q 4) 60 txt, aW T 0 (q 6) 3 wh, mO q (nI kp) (nI ty) (nI 0) (nI at_) isF op, aW T 0 (q 1) 111 now, aW T 0 (q 2) 111 thn2_125]) _ := hP62
                          have hD62 : va_D A (fl [aW T 0 (q 4) 60 txt, aW T 0 (q 6) 3 wh, mO q (nI kp) (nI ty) (nI 0) (nI at_) isF op, aW T 0 (q 1) 111 now, aW T 0 (q 2) 111 thn2_125]) := hD62
                          have hq_125 : r_125 = lsG now s 0 100 := hq_125
                          refine lv_i2l hx hb dX6_digest_128 rfl ?_
                          refine lv_ladd hx hb dX6_digest_129 ?_
                          refine lv_lstore_n (lv' := [(1, .long ((31 * ((31 * v4) + ((now (12 + 6 * s + 2)).toInt64))) + ((r_125).toInt64))), (0, .ref (q 0)), (3, .int (nI s)), (4, .int (nI 8))]) hx hb dX6_digest_130 rfl hl57 (by decide) rfl (fun ls63 hl63 => ?_)
                          clear hl57
                          refine lv_iinc (v := nI (s + 1)) (lv' := [(3, .int (nI (s + 1))), (1, .long ((31 * ((31 * v4) + ((now (12 + 6 * s + 2)).toInt64))) + ((r_125).toInt64))), (0, .ref (q 0)), (4, .int (nI 8))]) hx hb dX6_digest_131 hl63 (k := 2) rfl (nI_add s 1) (by decide) rfl (fun ls64 hl64 => ?_)
                          clear hl63
                          refine lv_goto (tgt := 66) hx hb dX6_digest_134 (by decide) ?_
                          have hP65 : va_P D vwCl (fl [mO q (nI kp) (nI ty) (nI 0) (nI at_) isF op, aW T 0 (q 1) 111 now, aW T 0 (q 2) 111 thn2_125, aW T 0 (q 4) 60 txt, aW T 0 (q 6) 3 wh]) _ := flP_sub hP62 [2, 3, 4, 0, 1] rfl
                          have hD65 : va_D A (fl [mO q (nI kp) (nI ty) (nI 0) (nI at_) isF op, aW T 0 (q 1) 111 now, aW T 0 (q 2) 111 thn2_125, aW T 0 (q 4) 60 txt, aW T 0 (q 6) 3 wh]) := flD_sub hD62 [2, 3, 4, 0, 1] (by decide) rfl
                          have hS65 := hS62
                          clear hP62 hS62 hD62
                          exact ih66 (s + 1) ((31 * ((31 * v4) + ((now (12 + 6 * s + 2)).toInt64))) + ((r_125).toInt64)) thn2_125 (by omega) (by rw [stN, ← hv3, ← hv4, ← hq_125]; rfl) (by omega) _ _ hP65 hD65 hS65 _ (lv_sub hl64 [2, 1, 0] rfl)
                        · skip
                          refine lv_ldc2 (v := 31) hx hb hown (hts _ kw_921) dX6_digest_82 ?_
                          refine lv_lload_n hx hb dX6_digest_85 rfl (lv_at hl57 1 rfl) ?_
                          refine lv_lmul hx hb dX6_digest_86 ?_
                          refine lv_aload_n hx hb dX6_digest_87 rfl (lv_at hl57 0 rfl) ?_
                          refine lv_iload_n hx hb dX6_digest_88 rfl (lv_at hl57 2 rfl) ?_
                          refine lv_iload hx hb dX6_digest_89 (lv_at hl57 3 rfl) ?_
                          have hPc66 : va_P D vwCl (fl [mO q (nI kp) (nI ty) (nI 0) (nI at_) isF op, aW T 0 (q 1) 111 now]) _ := hP57.sub [0, 1] rfl
                          refine cr_i (va_runV (As := [.int (nI s), .int (nI w)]) (rest := [.long (31 * v4)]) ⟨hx, hb, hml, hown, hts⟩ (c_X6_ofStreet l D T q kp ty (nI 0) at_ isF op now s w (by omega) (by omega)) (mkV hts okX6_ofStreet kw_848 kw_850 ks_21 ⟨rfl, rfl, Nat.le_of_ble_eq_true rfl, Nat.le_of_ble_eq_true rfl⟩) (pv_ro hK hPc66 (q0 := 0) rfl rfl rfl) rfl rfl hl57.1 rfl (lv_room (Nat.le_of_ble_eq_true rfl)) dX6_digest_91 ⟨Nat.le_of_ble_eq_true rfl, Nat.le_of_ble_eq_true rfl⟩) hP57 hS57 (fun r_91 H67 locs67 hq_91 hP67 hS67 => ?_)
                          clear hP57 hS57 hPc66
                          have hD67 := hD57
                          clear hD57
                          have hq_91 : r_91 = ofSt now s w := hq_91
                          subst hq_91
                          refine lv_i2l hx hb dX6_digest_94 rfl ?_
                          refine lv_ladd hx hb dX6_digest_95 ?_
                          refine lv_lstore_n (lv' := [(1, .long ((31 * v4) + ((ofSt now s w).toInt64))), (0, .ref (q 0)), (3, .int (nI s)), (4, .int (nI w))]) hx hb dX6_digest_96 rfl hl57 (by decide) rfl (fun ls68 hl68 => ?_)
                          clear hl57
                          refine lv_iinc (v := nI (w + 1)) (lv' := [(4, .int (nI (w + 1))), (1, .long ((31 * v4) + ((ofSt now s w).toInt64))), (0, .ref (q 0)), (3, .int (nI s))]) hx hb dX6_digest_97 hl68 (k := 3) rfl (nI_add w 1) (by decide) rfl (fun ls69 hl69 => ?_)
                          clear hl68
                          refine lv_goto (tgt := 75) hx hb dX6_digest_100 (by decide) ?_
                          exact ih75 (w + 1) ((31 * v4) + ((ofSt now s w).toInt64)) (by omega) (by rw [mixN, ← hv4]; rfl) (by omega) _ _ hP67 hD67 hS67 _ (lv_sub hl69 [2, 1, 3, 0] rfl)
                    exact loop75 ((8 - 0) + 1) 0 v3 (by omega) (rfl) (Nat.lt_succ_self _) _ _ hP13 hD13 hS13 _ (lv_sub hl55 [1, 2, 3, 0] rfl)
              exact loop66 ((12 - 0) + 1) 0 v2 thn (by omega) (rfl) (Nat.lt_succ_self _) _ _ hP9 hD9 hS9 _ (lv_sub hl11 [1, 2, 0] rfl)
            · skip
              refine lv_ldc2 (v := 31) hx hb hown (hts _ kw_921) dX6_digest_44 ?_
              refine lv_lload_n hx hb dX6_digest_47 rfl (lv_at hl9 1 rfl) ?_
              refine lv_lmul hx hb dX6_digest_48 ?_
              refine lv_aload_n hx hb dX6_digest_49 rfl (lv_at hl9 0 rfl) ?_
              refine r_get (own := RX6) (C := RX6) (F := TX6) (N := 12) (ci := 6) (v := .ref (q 1)) hx hb hK hts in_X6 hown hP9 0 rfl rfl 0 (by decide) kw_670 rfl dX6_digest_50 ?_
              refine lv_iload_n hx hb dX6_digest_53 rfl (lv_at hl9 2 rfl) ?_
              refine r_iald hx hb hK hP9 1 (f := now) (n := 111) rfl j (by decide) dX6_digest_54 (by omega) ?_
              refine lv_i2l hx hb dX6_digest_55 rfl ?_
              refine lv_ladd hx hb dX6_digest_56 ?_
              refine lv_lstore_n (lv' := [(1, .long ((31 * v2) + ((now j).toInt64))), (0, .ref (q 0)), (3, .int (nI j))]) hx hb dX6_digest_57 rfl hl9 (by decide) rfl (fun ls70 hl70 => ?_)
              clear hl9
              refine lv_iinc (v := nI (j + 1)) (lv' := [(3, .int (nI (j + 1))), (1, .long ((31 * v2) + ((now j).toInt64))), (0, .ref (q 0))]) hx hb dX6_digest_58 hl70 (k := 2) rfl (nI_add j 1) (by decide) rfl (fun ls71 hl71 => ?_)
              clear hl70
              refine lv_goto (tgt := 38) hx hb dX6_digest_61 (by decide) ?_
              exact ih38 (j + 1) ((31 * v2) + ((now j).toInt64)) (by omega) (by rw [mixN, ← hv2]; rfl) (by omega) _ _ hP9 hD9 hS9 _ (lv_sub hl71 [2, 1, 0] rfl)
        exact loop38 ((9 - 0) + 1) 0 v (by omega) (rfl) (Nat.lt_succ_self _) _ _ hP5 hD5 hS5 _ (lv_sub hl7 [1, 2, 0] rfl)
      · skip
        refine lv_ldc2 (v := 31) hx hb hown (hts _ kw_921) dX6_digest_17 ?_
        refine lv_lload_n hx hb dX6_digest_20 rfl (lv_at hl5 1 rfl) ?_
        refine lv_lmul hx hb dX6_digest_21 ?_
        refine lv_aload_n hx hb dX6_digest_22 rfl (lv_at hl5 0 rfl) ?_
        refine lv_iload_n hx hb dX6_digest_23 rfl (lv_at hl5 2 rfl) ?_
        have hPc72 : va_P D vwCl (fl [mO q (nI kp) (nI ty) (nI 0) (nI at_) isF op, aW T 0 (q 1) 111 now]) _ := hP5.sub [0, 1] rfl
        refine cr_i (va_runV (As := [.int (nI i)]) (rest := [.long (31 * v)]) ⟨hx, hb, hml, hown, hts⟩ (c_X6_counted l D T q kp ty (nI 0) at_ isF op now i (by omega)) (mkV hts okX6_counted kw_860 kw_862 ks_22 ⟨rfl, rfl, Nat.le_of_ble_eq_true rfl, Nat.le_of_ble_eq_true rfl⟩) (pv_ro hK hPc72 (q0 := 0) rfl rfl rfl) rfl rfl hl5.1 rfl (lv_room (Nat.le_of_ble_eq_true rfl)) dX6_digest_24 ⟨Nat.le_of_ble_eq_true rfl, Nat.le_of_ble_eq_true rfl⟩) hP5 hS5 (fun r_24 H73 locs73 hq_24 hP73 hS73 => ?_)
        clear hP5 hS5 hPc72
        have hD73 := hD5
        clear hD5
        have hq_24 : r_24 = cntd now kp i := hq_24
        subst hq_24
        refine lv_i2l hx hb dX6_digest_27 rfl ?_
        refine lv_ladd hx hb dX6_digest_28 ?_
        refine lv_lstore_n (lv' := [(1, .long ((31 * v) + ((cntd now kp i).toInt64))), (0, .ref (q 0)), (3, .int (nI i))]) hx hb dX6_digest_29 rfl hl5 (by decide) rfl (fun ls74 hl74 => ?_)
        clear hl5
        refine lv_iinc (v := nI (i + 1)) (lv' := [(3, .int (nI (i + 1))), (1, .long ((31 * v) + ((cntd now kp i).toInt64))), (0, .ref (q 0))]) hx hb dX6_digest_30 hl74 (k := 2) rfl (nI_add i 1) (by decide) rfl (fun ls75 hl75 => ?_)
        clear hl74
        refine lv_goto (tgt := 11) hx hb dX6_digest_33 (by decide) ?_
        exact ih11 (i + 1) ((31 * v) + ((cntd now kp i).toInt64)) (by omega) (by rw [mixN, ← hv]; rfl) (by omega) _ _ hP73 hD73 hS73 _ (lv_sub hl75 [2, 1, 0] rfl)
  exact loop11 ((9 - 0) + 1) 0 3169 (by omega) (rfl) (Nat.lt_succ_self _) _ _ hP1 hD1 hS1 _ (lv_sub hl3 [2, 1, 0] rfl)
