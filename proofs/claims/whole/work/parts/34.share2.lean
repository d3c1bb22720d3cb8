def shQ (n s : Nat) : Int64 := (nI n).toInt64 <<< ((nI s).toInt64 &&& 63)
def shL (n : Nat) : Nat → Nat → Nat
  | 0, s => s
  | f + 1, s => if 0 ≤ lg_cmp (shQ n s / 12) 4503599627370496 then s else shL n f (s + 1)
def shB (n : Nat) : Int64 := if n = 0 then 0 else (nI 1075 - nI (shL n 4 52)).toInt64 <<< ((nI 52).toInt64 &&& 63) + ((shQ n (shL n 4 52) + 6) / 12 - 4503599627370496)
set_option maxHeartbeats 4000000 in
set_option maxRecDepth 100000 in
theorem c_X5_shareBits (l : Launch) (D : va_G) (T : TI) (n : Nat) (hn : n ≤ 12) : OL l yX5_shareBits cX5_shareBits 6 (rmD 0 0 0) D T [.int (nI n)] [] (fun r => r = shB n) := by
  refine met_ro rfl (Nat.le_of_ble_eq_true rfl) ?_
  intro pX eX sX mX bX mtX cX hC hP0 hS0 ls0 hl0 TG hTG
  obtain ⟨hx, hb, hr, hml, hown, hts, hlocks, hin, hK⟩ := hC
  have hown : sX.vm.findClass RX5 = some mX.cls := hown
  have hl0 : lv_has ls0 6 [(0, .int (nI n))] := hl0
  refine lv_iload_n hx hb dX5_shareBits_0 rfl (lv_at hl0 0 rfl) ?_
  refine n_if_gt (tgt := 6) hx hb (by omega) dX5_shareBits_1 (by decide) (fun c_1 => ?_) (fun c_1 => ?_)
  · skip
    refine lv_ldc2 (v := 4503599627370496) hx hb hown (hts _ kw_481) dX5_shareBits_6 ?_
    refine lv_lstore_n (lv' := [(1, .long 4503599627370496), (0, .int (nI n))]) hx hb dX5_shareBits_9 rfl hl0 (by decide) rfl (fun ls2 hl2 => ?_)
    clear hl0
    refine lv_bipush (v := nI 52) hx hb dX5_shareBits_10 (by decide) ?_
    refine lv_istore_n (lv' := [(3, .int (nI 52)), (1, .long 4503599627370496), (0, .int (nI n))]) hx hb dX5_shareBits_12 rfl hl2 (by decide) rfl (fun ls3 hl3 => ?_)
    clear hl2
    have loop13 : ∀ (n_ : Nat) (s : Nat), (52 ≤ s) → (s ≤ 56) → (shL n 4 52 = shL n (56 - s) s) → (56 - s) < n_ → ∀ (H : Heap) (locs : List Loc), va_P D vwCl (fl []) H → va_S NO sX.heap H locs → ∀ ls : Array Slot, lv_has ls 6 [(0, .int (nI n)), (1, .long 4503599627370496), (3, .int (nI s))] → W pX l eX (rmD 0 0 0) sX mX ([.int (nI n)] : List Value).toArray bX mtX cX H locs 0 0 TG (F0 mX 13 ls []) := by
      intro n_
      induction n_ with
      | zero => intro s h1 hs hl2 hmu_ ; exact absurd hmu_ (Nat.not_lt_zero _)
      | succ n_ ih13 =>
        intro s h1 hs hl2 hmu_13 H5 locs5 hP5  hS5 ls5 hl5
        refine lv_iload_n hx hb dX5_shareBits_13 rfl (lv_at hl5 2 rfl) ?_
        refine lv_bipush (v := nI 56) hx hb dX5_shareBits_14 (by decide) ?_
        refine n_icmp_ge (tgt := 38) hx hb (by omega) (by omega) dX5_shareBits_16 (by decide) (fun c_16 => ?_) (fun c_16 => ?_)
        · skip
          have hs3 : shL n 4 52 = s := by
            rw [hl2]
            first | (have q29 : 0 ≤ lg_cmp (shQ n s / 12) 4503599627370496 := c_29
                     rw [show 56 - s = (55 - s) + 1 by omega, shL, if_pos q29]) | (rw [show 56 - s = 0 by omega]; rfl)
          refine lv_iload_n hx hb dX5_shareBits_38 rfl (lv_at hl5 0 rfl) ?_
          refine lv_i2l hx hb dX5_shareBits_39 rfl ?_
          refine lv_iload_n hx hb dX5_shareBits_40 rfl (lv_at hl5 2 rfl) ?_
          refine lv_lshl hx hb dX5_shareBits_41 rfl ?_
          refine lv_ldc2 (v := 6) hx hb hown (hts _ kw_483) dX5_shareBits_42 ?_
          refine lv_ladd hx hb dX5_shareBits_45 ?_
          refine lv_ldc2 (v := 12) hx hb hown (hts _ kw_482) dX5_shareBits_46 ?_
          refine lv_ldiv hx hb dX5_shareBits_49 (by decide) ?_
          refine lv_lstore (lv' := [(4, .long (((((nI n).toInt64) <<< ((nI s).toInt64 &&& 63)) + 6) / 12)), (0, .int (nI n)), (1, .long 4503599627370496), (3, .int (nI s))]) hx hb dX5_shareBits_50 hl5 (by decide) rfl (fun ls7 hl7 => ?_)
          clear hl5
          refine lv_sipush (v := nI 1075) hx hb dX5_shareBits_52 (by decide) ?_
          refine lv_iload_n hx hb dX5_shareBits_55 rfl (lv_at hl7 3 rfl) ?_
          refine lv_isub hx hb dX5_shareBits_56 ?_
          refine lv_i2l hx hb dX5_shareBits_57 rfl ?_
          refine lv_bipush (v := nI 52) hx hb dX5_shareBits_58 (by decide) ?_
          refine lv_lshl hx hb dX5_shareBits_60 rfl ?_
          refine lv_lload hx hb dX5_shareBits_61 (lv_at hl7 0 rfl) ?_
          refine lv_lload_n hx hb dX5_shareBits_63 rfl (lv_at hl7 2 rfl) ?_
          refine lv_lsub hx hb dX5_shareBits_64 ?_
          refine lv_ladd hx hb dX5_shareBits_65 ?_
          refine ro_l hTG (Nat.le_refl _) (Nat.le_refl _) hx hb hr hlocks hS5 dX5_shareBits_66 ?_
          unfold shB
          rw [if_neg (by omega), hs3]
          rfl
        · skip
          refine lv_iload_n hx hb dX5_shareBits_19 rfl (lv_at hl5 0 rfl) ?_
          refine lv_i2l hx hb dX5_shareBits_20 rfl ?_
          refine lv_iload_n hx hb dX5_shareBits_21 rfl (lv_at hl5 2 rfl) ?_
          refine lv_lshl hx hb dX5_shareBits_22 rfl ?_
          refine lv_ldc2 (v := 12) hx hb hown (hts _ kw_482) dX5_shareBits_23 ?_
          refine lv_ldiv hx hb dX5_shareBits_26 (by decide) ?_
          refine lv_lload_n hx hb dX5_shareBits_27 rfl (lv_at hl5 1 rfl) ?_
          refine W.lcmp hx hb dX5_shareBits_28 ?_
          refine lv_if_ge (tgt := 38) hx hb dX5_shareBits_29 (by decide) (fun c_29 => ?_) (fun c_29 => ?_)
          · skip
            have hs3 : shL n 4 52 = s := by
              rw [hl2]
              first | (have q29 : 0 ≤ lg_cmp (shQ n s / 12) 4503599627370496 := c_29
                       rw [show 56 - s = (55 - s) + 1 by omega, shL, if_pos q29]) | (rw [show 56 - s = 0 by omega]; rfl)
            refine lv_iload_n hx hb dX5_shareBits_38 rfl (lv_at hl5 0 rfl) ?_
            refine lv_i2l hx hb dX5_shareBits_39 rfl ?_
            refine lv_iload_n hx hb dX5_shareBits_40 rfl (lv_at hl5 2 rfl) ?_
            refine lv_lshl hx hb dX5_shareBits_41 rfl ?_
            refine lv_ldc2 (v := 6) hx hb hown (hts _ kw_483) dX5_shareBits_42 ?_
            refine lv_ladd hx hb dX5_shareBits_45 ?_
            refine lv_ldc2 (v := 12) hx hb hown (hts _ kw_482) dX5_shareBits_46 ?_
            refine lv_ldiv hx hb dX5_shareBits_49 (by decide) ?_
            refine lv_lstore (lv' := [(4, .long (((((nI n).toInt64) <<< ((nI s).toInt64 &&& 63)) + 6) / 12)), (0, .int (nI n)), (1, .long 4503599627370496), (3, .int (nI s))]) hx hb dX5_shareBits_50 hl5 (by decide) rfl (fun ls9 hl9 => ?_)
            clear hl5
            refine lv_sipush (v := nI 1075) hx hb dX5_shareBits_52 (by decide) ?_
            refine lv_iload_n hx hb dX5_shareBits_55 rfl (lv_at hl9 3 rfl) ?_
            refine lv_isub hx hb dX5_shareBits_56 ?_
            refine lv_i2l hx hb dX5_shareBits_57 rfl ?_
            refine lv_bipush (v := nI 52) hx hb dX5_shareBits_58 (by decide) ?_
            refine lv_lshl hx hb dX5_shareBits_60 rfl ?_
            refine lv_lload hx hb dX5_shareBits_61 (lv_at hl9 0 rfl) ?_
            refine lv_lload_n hx hb dX5_shareBits_63 rfl (lv_at hl9 2 rfl) ?_
            refine lv_lsub hx hb dX5_shareBits_64 ?_
            refine lv_ladd hx hb dX5_shareBits_65 ?_
            refine ro_l hTG (Nat.le_refl _) (Nat.le_refl _) hx hb hr hlocks hS5 dX5_shareBits_66 ?_
            unfold shB
            rw [if_neg (by omega), hs3]
            rfl
          · skip
            have q29 : ¬ 0 ≤ lg_cmp (shQ n s / 12) 4503599627370496 := c_29
            refine lv_iinc (v := nI (s + 1)) (lv' := [(3, .int (nI (s + 1))), (0, .int (nI n)), (1, .long 4503599627370496)]) hx hb dX5_shareBits_32 hl5 (k := 2) rfl (nI_add s 1) (by decide) rfl (fun ls10 hl10 => ?_)
            clear hl5
            refine lv_goto (tgt := 13) hx hb dX5_shareBits_35 (by decide) ?_
            exact ih13 (s + 1) (by omega) (by omega) (by rw [hl2, show 56 - s = (56 - (s + 1)) + 1 by omega, shL, if_neg q29]) (by omega) _ _ hP5  hS5 _ (lv_sub hl10 [1, 2, 0] rfl)
    exact loop13 ((56 - 52) + 1) 52 (by omega) (by omega) (rfl) (Nat.lt_succ_self _) _ _ hP0  hS0 _ (lv_sub hl3 [2, 1, 0] rfl)
  · skip
    refine lv_lconst (v := 0) hx hb dX5_shareBits_4 (by decide) ?_
    refine ro_l hTG (Nat.le_refl _) (Nat.le_refl _) hx hb hr hlocks hS0 dX5_shareBits_5 ?_
    have hn0 : n = 0 := by omega
    subst hn0
    rfl
theorem shB_ok : ∀ n, n < 13 → (shB n).toUInt64 = shareD n := by decide +kernel
