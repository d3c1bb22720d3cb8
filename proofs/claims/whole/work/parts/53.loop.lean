theorem and31 (x : Int32) : ∃ j, j < 32 ∧ x &&& nI 31 = nI j := by
  refine ⟨(x.toBitVec &&& 31#32).toNat, ?_, ?_⟩
  · rw [BitVec.toNat_and]
    exact Nat.lt_of_le_of_lt Nat.and_le_right (by decide)
  · apply Int32.toBitVec_inj.mp
    rw [Int32.toBitVec_and]
    apply BitVec.eq_of_toNat_eq
    show _ = (BitVec.ofNat 32 _).toNat
    rw [BitVec.toNat_ofNat, Nat.mod_eq_of_lt (BitVec.isLt _)]
    rfl
theorem len3 {k L : Nat} (hL : L ≤ 1536) (hk : k ≤ 512) (h : ¬ Int32.ofNat L - nI 3 < nI (3 * k)) : 3 * k + 3 ≤ L := by
  have h1 := Int32.not_lt.mp h
  rw [Int32.le_iff_toInt_le, nI_toInt (by omega), show Int32.ofNat L = nI L from rfl, Int32.toInt_sub, nI_toInt (by omega), nI_toInt (by omega)] at h1
  rw [Int.bmod_eq_of_le (by omega) (by omega)] at h1
  omega
set_option maxHeartbeats 4000000 in
set_option maxRecDepth 100000 in
theorem law_loop {pX : Program} {l : Launch} {eX : Env} {sX : State} {mX : MethodId} {bX : List Frame} {mtX : Method} {cX : Code} {D : va_G} {T : TI} {A : Nat → Prop} {b L : Nat} {xs : Nat → Int32} {xa o : Nat} {q : Nat → Nat} {TG : State → Prop} (hCX : LCX pX l sX mX cX D T A b L xs) (hA2 : ∀ z, A z → sX.heap.size ≤ z) (hEnd : ∀ (H : Heap) (ls : Array Slot), W pX l eX room_1 sX mX #[Value.ref b] bX mtX cX H [] 604008 7284081 TG (F0 mX 1370 ls [.int (nI 1)])) : ∀ (N k : Nat), 600 ≤ N + k → k ≤ 512 → LWP pX l eX sX mX bX mtX cX D T A b xa o q TG (96 * k) (160 + 3 * k) (2200 + 18 * k) k 23 := by
  obtain ⟨hx, hb, hml, hown, hts, hXs0, hls0, hns0, hK, hST, hA, hl, hL15⟩ := id hCX
  intro N
  induction N with
  | zero => intro k h1 h2; omega
  | succ N ih =>
    intro k h1 h2 w g th at_ isF op thn told wh mm past f kp n hI H locs hP hD hS ls hl0
    refine lv_iload hx hb dL_law_23 (lv_at hl0 4 rfl) ?_
    refine lv_aload_n hx hb dL_law_25 rfl (lv_at hl0 0 rfl) ?_
    refine va_slen hx hb hXs0 hls0 hns0 hS dL_law_26 ?_
    refine lv_iconst (v := nI 3) hx hb dL_law_27 (by decide) ?_
    refine lv_isub hx hb dL_law_28 ?_
    refine lv_icmp_gt (tgt := 1369) hx hb dL_law_29 (by decide) (fun c_29 => ?_) (fun c_29 => ?_)
    · refine lv_iconst (v := nI 1) hx hb dL_law_1369 (by decide) ?_
      refine va_forget (fun z hz => hA2 _ (hS.2.2 z hz)) ?_
      refine W.widen (k := 604008) (n := 7284081) (by omega) (by omega) ?_
      exact hEnd _ _
    · have hk : 3 * k + 3 ≤ L := len3 hL15 (by omega) c_29
      have KK : LWP pX l eX sX mX bX mtX cX D T A b xa o q TG (96 * k + 96) (160 + 3 * k + 3) (2200 + 18 * k + 18) k 1363 := by
        intro w g th at_ isF op thn told wh mm past f kp n hI H locs hP hD hS ls hl1
        refine lv_iinc (v := nI (3 * (k + 1))) (lv' := [(4, .int (nI (3 * (k + 1)))), (0, .ref b), (1, .ref xa), (2, .ref (q 0)), (3, .ref o)]) hx hb dL_law_1363 hl1 (k := 4) rfl (nI_add (3 * k) 3) (by decide) rfl (fun ls2 hl2 => ?_)
        refine lv_goto (tgt := 23) hx hb dL_law_1366 (by decide) ?_
        have hn := ih (k + 1) (by omega) (by omega)
        rw [show 96 * (k + 1) = 96 * k + 96 by omega, show 160 + 3 * (k + 1) = 160 + 3 * k + 3 by omega, show 2200 + 18 * (k + 1) = 2200 + 18 * k + 18 by omega] at hn
        exact hn w g th at_ isF op thn told wh mm past f kp n hI H locs hP hD hS ls2 (lv_sub hl2 [1, 2, 3, 4, 0] rfl)
      refine lv_aload_n hx hb dL_law_32 rfl (lv_at hl0 0 rfl) ?_
      refine lv_iload hx hb dL_law_33 (lv_at hl0 4 rfl) ?_
      refine r_sld hx hb hXs0 hls0 hns0 hS (3 * k) dL_law_35 (by omega) ?_
      refine lv_bipush (v := nI 31) hx hb dL_law_36 (by decide) ?_
      refine lv_iand hx hb dL_law_38 ?_
      obtain ⟨j, hj, ej⟩ := and31 (xs (3 * k))
      refine tp_i (y := nI j) ej ?_
      clear ej
      rcases (show j = 0 ∨ j = 1 ∨ j = 2 ∨ j = 3 ∨ j = 4 ∨ j = 5 ∨ j = 6 ∨ j = 7 ∨ j = 8 ∨ j = 9 ∨ j = 10 ∨ j = 11 ∨ j = 12 ∨ j = 13 ∨ j = 14 ∨ j = 15 ∨ j = 16 ∨ j = 17 ∨ j = 18 ∨ j = 19 ∨ j = 20 ∨ j = 21 ∨ j = 22 ∨ j = 23 ∨ j = 24 ∨ j = 25 ∨ j = 26 ∨ j = 27 ∨ j = 28 ∨ j = 29 ∨ j = 30 ∨ j = 31 by omega) with rfl | rfl | rfl | rfl | rfl | rfl | rfl | rfl | rfl | rfl | rfl | rfl | rfl | rfl | rfl | rfl | rfl | rfl | rfl | rfl | rfl | rfl | rfl | rfl | rfl | rfl | rfl | rfl | rfl | rfl | rfl | rfl
      · refine lv_tableIn (tgt := 148) hx hb dL_law_39 (by decide) (by decide) rfl (by decide) ?_
        exact law_pressure hCX k hk KK w g th at_ isF op thn told wh mm past f kp n hI H locs hP hD hS ls hl0
      · refine lv_tableIn (tgt := 216) hx hb dL_law_39 (by decide) (by decide) rfl (by decide) ?_
        exact law_valve hCX k hk KK w g th at_ isF op thn told wh mm past f kp n hI H locs hP hD hS ls hl0
      · refine lv_tableIn (tgt := 300) hx hb dL_law_39 (by decide) (by decide) rfl (by decide) ?_
        exact law_dirt hCX k hk KK w g th at_ isF op thn told wh mm past f kp n hI H locs hP hD hS ls hl0
      · refine lv_tableIn (tgt := 368) hx hb dL_law_39 (by decide) (by decide) rfl (by decide) ?_
        exact law_hydrant hCX k hk KK w g th at_ isF op thn told wh mm past f kp n hI H locs hP hD hS ls hl0
      · refine lv_tableIn (tgt := 436) hx hb dL_law_39 (by decide) (by decide) rfl (by decide) ?_
        exact law_send hCX k hk KK w g th at_ isF op thn told wh mm past f kp n hI H locs hP hD hS ls hl0
      · refine lv_tableIn (tgt := 504) hx hb dL_law_39 (by decide) (by decide) rfl (by decide) ?_
        exact law_skip hCX k hk KK w g th at_ isF op thn told wh mm past f kp n hI H locs hP hD hS ls hl0
      · refine lv_tableIn (tgt := 560) hx hb dL_law_39 (by decide) (by decide) rfl (by decide) ?_
        exact law_set hCX k hk KK w g th at_ isF op thn told wh mm past f kp n hI H locs hP hD hS ls hl0
      · refine lv_tableIn (tgt := 628) hx hb dL_law_39 (by decide) (by decide) rfl (by decide) ?_
        exact law_pass hCX k hk KK w g th at_ isF op thn told wh mm past f kp n hI H locs hP hD hS ls hl0
      · refine lv_tableIn (tgt := 684) hx hb dL_law_39 (by decide) (by decide) rfl (by decide) ?_
        exact law_append hCX k hk KK w g th at_ isF op thn told wh mm past f kp n hI H locs hP hD hS ls hl0
      · refine lv_tableIn (tgt := 740) hx hb dL_law_39 (by decide) (by decide) rfl (by decide) ?_
        exact law_clearBuffer hCX k hk KK w g th at_ isF op thn told wh mm past f kp n hI H locs hP hD hS ls hl0
      · refine lv_tableIn (tgt := 753) hx hb dL_law_39 (by decide) (by decide) rfl (by decide) ?_
        exact law_firstError hCX k hk KK w g th at_ isF op thn told wh mm past f kp n hI H locs hP hD hS ls hl0
      · refine lv_tableIn (tgt := 766) hx hb dL_law_39 (by decide) (by decide) rfl (by decide) ?_
        exact law_rounds hCX k hk KK w g th at_ isF op thn told wh mm past f kp n hI H locs hP hD hS ls hl0
      · refine lv_tableIn (tgt := 810) hx hb dL_law_39 (by decide) (by decide) rfl (by decide) ?_
        exact law_undo hCX k hk KK w g th at_ isF op thn told wh mm past f kp n hI H locs hP hD hS ls hl0
      · refine lv_tableIn (tgt := 854) hx hb dL_law_39 (by decide) (by decide) rfl (by decide) ?_
        exact law_street hCX k hk KK w g th at_ isF op thn told wh mm past f kp n hI H locs hP hD hS ls hl0
      · refine lv_tableIn (tgt := 922) hx hb dL_law_39 (by decide) (by decide) rfl (by decide) ?_
        exact law_round hCX k hk KK w g th at_ isF op thn told wh mm past f kp n hI H locs hP hD hS ls hl0
      · refine lv_tableIn (tgt := 990) hx hb dL_law_39 (by decide) (by decide) rfl (by decide) ?_
        exact law_count hCX k hk KK w g th at_ isF op thn told wh mm past f kp n hI H locs hP hD hS ls hl0
      · refine lv_tableIn (tgt := 1046) hx hb dL_law_39 (by decide) (by decide) rfl (by decide) ?_
        exact law_setting hCX k hk KK w g th at_ isF op thn told wh mm past f kp n hI H locs hP hD hS ls hl0
      · refine lv_tableIn (tgt := 1102) hx hb dL_law_39 (by decide) (by decide) rfl (by decide) ?_
        exact law_waits hCX k hk KK w g th at_ isF op thn told wh mm past f kp n hI H locs hP hD hS ls hl0
      · refine lv_tableIn (tgt := 1158) hx hb dL_law_39 (by decide) (by decide) rfl (by decide) ?_
        exact law_ifPassed hCX k hk KK w g th at_ isF op thn told wh mm past f kp n hI H locs hP hD hS ls hl0
      · refine lv_tableIn (tgt := 1226) hx hb dL_law_39 (by decide) (by decide) rfl (by decide) ?_
        exact law_bestStreet hCX k hk KK w g th at_ isF op thn told wh mm past f kp n hI H locs hP hD hS ls hl0
      · refine lv_tableIn (tgt := 1239) hx hb dL_law_39 (by decide) (by decide) rfl (by decide) ?_
        exact law_clearIn hCX k hk KK w g th at_ isF op thn told wh mm past f kp n hI H locs hP hD hS ls hl0
      · refine lv_tableIn (tgt := 1252) hx hb dL_law_39 (by decide) (by decide) rfl (by decide) ?_
        exact law_leastPressure hCX k hk KK w g th at_ isF op thn told wh mm past f kp n hI H locs hP hD hS ls hl0
      · refine lv_tableIn (tgt := 1308) hx hb dL_law_39 (by decide) (by decide) rfl (by decide) ?_
        exact law_cleanShare hCX k hk KK w g th at_ isF op thn told wh mm past f kp n hI H locs hP hD hS ls hl0
      · refine lv_tableIn (tgt := 1349) hx hb dL_law_39 (by decide) (by decide) rfl (by decide) ?_
        exact law_digest hCX k hk KK w g th at_ isF op thn told wh mm past f kp n hI H locs hP hD hS ls hl0
      · refine lv_tableOut (tgt := 1363) hx hb dL_law_39 (by decide) (by decide) ?_
        refine W.widen (k := 160 + 3 * k + 3) (n := 2200 + 18 * k + 18) (by omega) (by omega) ?_
        exact KK w g th at_ isF op thn told wh mm past f kp n (hI.le (by omega)) H locs hP hD hS ls hl0
      · refine lv_tableOut (tgt := 1363) hx hb dL_law_39 (by decide) (by decide) ?_
        refine W.widen (k := 160 + 3 * k + 3) (n := 2200 + 18 * k + 18) (by omega) (by omega) ?_
        exact KK w g th at_ isF op thn told wh mm past f kp n (hI.le (by omega)) H locs hP hD hS ls hl0
      · refine lv_tableOut (tgt := 1363) hx hb dL_law_39 (by decide) (by decide) ?_
        refine W.widen (k := 160 + 3 * k + 3) (n := 2200 + 18 * k + 18) (by omega) (by omega) ?_
        exact KK w g th at_ isF op thn told wh mm past f kp n (hI.le (by omega)) H locs hP hD hS ls hl0
      · refine lv_tableOut (tgt := 1363) hx hb dL_law_39 (by decide) (by decide) ?_
        refine W.widen (k := 160 + 3 * k + 3) (n := 2200 + 18 * k + 18) (by omega) (by omega) ?_
        exact KK w g th at_ isF op thn told wh mm past f kp n (hI.le (by omega)) H locs hP hD hS ls hl0
      · refine lv_tableOut (tgt := 1363) hx hb dL_law_39 (by decide) (by decide) ?_
        refine W.widen (k := 160 + 3 * k + 3) (n := 2200 + 18 * k + 18) (by omega) (by omega) ?_
        exact KK w g th at_ isF op thn told wh mm past f kp n (hI.le (by omega)) H locs hP hD hS ls hl0
      · refine lv_tableOut (tgt := 1363) hx hb dL_law_39 (by decide) (by decide) ?_
        refine W.widen (k := 160 + 3 * k + 3) (n := 2200 + 18 * k + 18) (by omega) (by omega) ?_
        exact KK w g th at_ isF op thn told wh mm past f kp n (hI.le (by omega)) H locs hP hD hS ls hl0
      · refine lv_tableOut (tgt := 1363) hx hb dL_law_39 (by decide) (by decide) ?_
        refine W.widen (k := 160 + 3 * k + 3) (n := 2200 + 18 * k + 18) (by omega) (by omega) ?_
        exact KK w g th at_ isF op thn told wh mm past f kp n (hI.le (by omega)) H locs hP hD hS ls hl0
      · refine lv_tableOut (tgt := 1363) hx hb dL_law_39 (by decide) (by decide) ?_
        refine W.widen (k := 160 + 3 * k + 3) (n := 2200 + 18 * k + 18) (by omega) (by omega) ?_
        exact KK w g th at_ isF op thn told wh mm past f kp n (hI.le (by omega)) H locs hP hD hS ls hl0
