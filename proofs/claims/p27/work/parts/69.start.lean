theorem fl_tail (a X : List va_W) : fl (a ++ [fl X]) = fl (a ++ X) := by simp [fl]
theorem fl_tailP {D : va_G} {H : Heap} (a X : List va_W) (h : va_P D vwCl (fl (a ++ X)) H) : va_P D vwCl (fl (a ++ [fl X])) H := by rw [fl_tail]; exact h
theorem fl_tailD {A : Nat → Prop} (a X : List va_W) (h : va_D A (fl (a ++ X))) : va_D A (fl (a ++ [fl X])) := by rw [fl_tail]; exact h
theorem sim00 : Sim c00 (fun _ => 0) m00 := by
  refine ⟨⟨by decide +kernel, by decide +kernel, by decide +kernel⟩, ⟨by decide +kernel, by decide +kernel, by decide +kernel, by decide +kernel, by decide +kernel, by decide +kernel⟩, ⟨by decide +kernel, by decide +kernel, by decide +kernel⟩, ⟨by decide +kernel, fun k hk j hj => absurd hj (Nat.not_lt_zero _)⟩, fun k hk => ⟨Nat.zero_le 8, fun j hj => absurd hj (Nat.not_lt_zero _)⟩, by decide +kernel, by decide +kernel⟩
theorem inv00 {T : TI} {xa : Nat} {qn qt qh : Nat → Nat} {ya yb ga gb : Nat} {F : Nat → Option Nat} {gq : Nat → Nat → Nat} (hF : ∀ k, k < 6 → F k = some (gq k 0)) : XN T xa (XW T xa qn c00 (fun _ => 0) qt c00 (fun _ => 0) qh (fun _ => nI 0) (fun _ => nI 0) (fun _ => nI 0) ya yb F gq (fun _ => c00) (fun _ _ => 0) 0 ga gb (fun _ => nI 0) 0 0 0) m00 (fun _ => nI 0) 0 :=
  ⟨qn, c00, fun _ => 0, qt, c00, fun _ => 0, qh, _, _, _, ya, yb, F, gq, fun _ => c00, fun _ _ => 0, ga, gb, 0, 0, rfl, sim00, ⟨by omega, hF, fun i hi => absurd hi (by omega)⟩, by omega, by omega, trivial⟩
def bnd (j : Nat) : Nat := if j < 2 then 99 else if j = 2 then 9 else if j = 3 then 20 else if j < 7 then 99 else if j < 12 then 0 else if (j - 12) % 6 = 0 then 999 else if (j - 12) % 6 = 1 then 30 else if (j - 12) % 6 = 2 then 1 else 0
def isNb (x : Int32) (b : Nat) : Bool := decide (x.toNatClampNeg ≤ b) && decide (x = nI x.toNatClampNeg)
theorem isNb_ok {x : Int32} {b : Nat} (h : isNb x b = true) : isN x b := by
  unfold isNb at h
  rw [Bool.and_eq_true, decide_eq_true_eq, decide_eq_true_eq] at h
  exact ⟨_, h.1, h.2⟩
theorem m00_b : ∀ j, j < 84 → isNb (m00 j) (bnd j) = true := by decide +kernel
theorem okV_b {j : Nat} {x : Int32} (hx : isN x (bnd j)) : okV 0 0 j x := by
  have le : ∀ b, bnd j ≤ b → isN x b := fun b hb => hx.le hb
  refine ⟨fun _ => le _ ?_, fun _ _ => le _ ?_, fun _ => le _ ?_, fun _ => le _ ?_, fun h => ?_, fun _ _ => le _ ?_, fun _ _ => le _ ?_, fun _ _ => le _ ?_, fun _ _ => ?_⟩
  · unfold bnd; repeat' split
    all_goals omega
  · unfold bnd; repeat' split
    all_goals omega
  · unfold bnd; repeat' split
    all_goals omega
  · unfold bnd; repeat' split
    all_goals omega
  · subst h
    obtain ⟨v, h1, h2⟩ := le 0 (by decide)
    rw [h2]
    exact congrArg nI (by omega)
  · unfold bnd; repeat' split
    all_goals omega
  · unfold bnd; repeat' split
    all_goals omega
  · unfold bnd; repeat' split
    all_goals omega
  · rw [if_neg (Nat.not_lt_zero _)]
    refine le _ ?_
    unfold bnd; repeat' split
    all_goals omega
theorem rg00 : RGB m00 (fun _ => nI 0) 0 (6 * 0) := ⟨⟨0, Nat.le_refl 0, fun j hj => okV_b (isNb_ok (m00_b j hj))⟩, fun i hi => absurd hi (Nat.not_lt_zero _)⟩
theorem div3 {L : Nat} (hL : L ≤ 260) : (nI L) / nI 3 = nI (L / 3) := pk_div (by omega) (by omega) (by omega)
set_option maxHeartbeats 4000000 in
set_option maxRecDepth 100000 in
theorem law_entry {pX : Program} {l : Launch} {eX : Env} {sX : State} {mX : MethodId} {bX : List Frame} {mtX : Method} {cX : Code} {D : va_G} {T : TI} {A : Nat → Prop} {b L : Nat} {xs : Nat → Int32} {TG : State → Prop} (hCX : LCX pX l sX mX cX D T A b L xs) (hA2 : ∀ z, A z → sX.heap.size ≤ z) (hEnd : ∀ (H : Heap) (ls : Array Slot), W pX l eX room_1 sX mX #[Value.ref b] bX mtX cX H [] 614934 7256381 TG (F0 mX 419 ls [.int (nI 1)])) (ls0 : Array Slot) (hl0 : lv_has ls0 16 [(0, .ref b)]) : W pX l eX room_1 sX mX #[Value.ref b] bX mtX cX sX.heap [] 0 0 TG (F0 mX 0 ls0 []) := by
  obtain ⟨hx, hb, hml, hown, hts, hSC, hK, hST, hA, hl, hL26⟩ := id hCX
  obtain ⟨hXs0, hls0, hns0⟩ := id hSC
  have hP0 : va_P D vwCl (fl []) sX.heap := fun k q h => by simp [fl] at h
  have hD0 : va_D A (fl []) := ⟨fun i j p q h => by simp [fl] at h, fun k q h => by simp [fl] at h⟩
  have hS0 : va_S A sX.heap sX.heap [] := va_S.rf
  refine r_new (C := RX5) (F := TX5) (N := 5) (ci := 5) hx hb hts in_X5 tyX5 tyX5_ok hown kw_16 kw_17 kw_1 hK hP0 hD0 hS0 hA rfl [.null, .null, .null, .null, .null] (by decide) (Nat.le_of_ble_eq_true rfl) (Nat.le_of_ble_eq_true rfl) dL_law_0 (fun (b_0_1 : Nat) (H2 : Heap) (hP2 : va_P D vwCl (fl [obW b_0_1 5 [.null, .null, .null, .null, .null]]) H2) (hD2 : va_D A (fl [obW b_0_1 5 [.null, .null, .null, .null, .null]])) hS2 => ?_)
  clear hP0 hD0 hS0
  refine lv_dup hx hb dL_law_3 rfl ?_
  have hPc3 : va_P D vwCl (fl [obW b_0_1 5 [.null, .null, .null, .null, .null]]) _ := flP_sub hP2 [0] rfl
  have hDc3 : va_D A (fl [obW b_0_1 5 [.null, .null, .null, .null, .null]]) := flD_sub hD2 [0] (by decide) rfl
  refine cl_v (br := []) (va_runI (As := []) (rest := [.ref b_0_1]) ⟨hx, hb, hml, hown, hts⟩ (c_X5_init l D T b_0_1  _) (mkI hts okX5_init kw_18 kw_19 rfl ⟨rfl, rfl, Nat.le_of_ble_eq_true rfl, Nat.le_of_ble_eq_true rfl⟩) (ps_x hK hST hS2 hPc3 hDc3 (vA_c (br := []) hP2 hD2 hS2 hA (isR := []) (isC := [0]) rfl (by decide))) rfl rfl hl0.1 rfl (lv_room (Nat.le_of_ble_eq_true rfl)) dL_law_4 ⟨Nat.le_of_ble_eq_true rfl, Nat.le_of_ble_eq_true rfl⟩) hP2 hD2 hS2 hA [] [0] rfl (by decide) (fun u_4 H4 locs4 hq_4 hP4 hD4 hS4 => ?_)
  clear hP2 hD2 hS2 hPc3 hDc3
  obtain ⟨qn_4_5, qt_4_6, qh_4_7, ya_4_8, yb_4_9, F_4_10, gq_4_11, ga_4_12, gb_4_13⟩ := u_4
  have hP4 : va_P D vwCl (fl [xW b_0_1 (qn_4_5 0) (qt_4_6 0) (qh_4_7 0) ya_4_8 ga_4_12, sW T qn_4_5 c00, tW T (qn_4_5 11) (qn_4_5 12) (nI 0) (fun _ => nI 0), tW T (qn_4_5 13) (qn_4_5 14) (nI 0) (fun _ => nI 0), tW T (qn_4_5 15) (qn_4_5 16) (nI 0) (fun _ => nI 0), sW T qt_4_6 c00, tW T (qt_4_6 11) (qt_4_6 12) (nI 0) (fun _ => nI 0), tW T (qt_4_6 13) (qt_4_6 14) (nI 0) (fun _ => nI 0), tW T (qt_4_6 15) (qt_4_6 16) (nI 0) (fun _ => nI 0), hO qh_4_7, aW T 0 (qh_4_7 1) 12 (fun _ => nI 0), aW T 0 (qh_4_7 2) 3 (fun _ => nI 0), aW T 0 (qh_4_7 3) 3 (fun _ => nI 0), yW T ya_4_8 yb_4_9 F_4_10 (nI 0), sW T (gq_4_11 0) c00, tW T ((gq_4_11 0) 11) ((gq_4_11 0) 12) (nI 0) (fun _ => nI 0), tW T ((gq_4_11 0) 13) ((gq_4_11 0) 14) (nI 0) (fun _ => nI 0), tW T ((gq_4_11 0) 15) ((gq_4_11 0) 16) (nI 0) (fun _ => nI 0), sW T (gq_4_11 1) c00, tW T ((gq_4_11 1) 11) ((gq_4_11 1) 12) (nI 0) (fun _ => nI 0), tW T ((gq_4_11 1) 13) ((gq_4_11 1) 14) (nI 0) (fun _ => nI 0), tW T ((gq_4_11 1) 15) ((gq_4_11 1) 16) (nI 0) (fun _ => nI 0), sW T (gq_4_11 2) c00, tW T ((gq_4_11 2) 11) ((gq_4_11 2) 12) (nI 0) (fun _ => nI 0), tW T ((gq_4_11 2) 13) ((gq_4_11 2) 14) (nI 0) (fun _ => nI 0), tW T ((gq_4_11 2) 15) ((gq_4_11 2) 16) (nI 0) (fun _ => nI 0), sW T (gq_4_11 3) c00, tW T ((gq_4_11 3) 11) ((gq_4_11 3) 12) (nI 0) (fun _ => nI 0), tW T ((gq_4_11 3) 13) ((gq_4_11 3) 14) (nI 0) (fun _ => nI 0), tW T ((gq_4_11 3) 15) ((gq_4_11 3) 16) (nI 0) (fun _ => nI 0), sW T (gq_4_11 4) c00, tW T ((gq_4_11 4) 11) ((gq_4_11 4) 12) (nI 0) (fun _ => nI 0), tW T ((gq_4_11 4) 13) ((gq_4_11 4) 14) (nI 0) (fun _ => nI 0), tW T ((gq_4_11 4) 15) ((gq_4_11 4) 16) (nI 0) (fun _ => nI 0), sW T (gq_4_11 5) c00, tW T ((gq_4_11 5) 11) ((gq_4_11 5) 12) (nI 0) (fun _ => nI 0), tW T ((gq_4_11 5) 13) ((gq_4_11 5) 14) (nI 0) (fun _ => nI 0), tW T ((gq_4_11 5) 15) ((gq_4_11 5) 16) (nI 0) (fun _ => nI 0), gW T ga_4_12 gb_4_13 (fun _ => nI 0) (nI 0) (nI 0) (nI 0)]) _ := hP4
  have hD4 : va_D A (fl [xW b_0_1 (qn_4_5 0) (qt_4_6 0) (qh_4_7 0) ya_4_8 ga_4_12, sW T qn_4_5 c00, tW T (qn_4_5 11) (qn_4_5 12) (nI 0) (fun _ => nI 0), tW T (qn_4_5 13) (qn_4_5 14) (nI 0) (fun _ => nI 0), tW T (qn_4_5 15) (qn_4_5 16) (nI 0) (fun _ => nI 0), sW T qt_4_6 c00, tW T (qt_4_6 11) (qt_4_6 12) (nI 0) (fun _ => nI 0), tW T (qt_4_6 13) (qt_4_6 14) (nI 0) (fun _ => nI 0), tW T (qt_4_6 15) (qt_4_6 16) (nI 0) (fun _ => nI 0), hO qh_4_7, aW T 0 (qh_4_7 1) 12 (fun _ => nI 0), aW T 0 (qh_4_7 2) 3 (fun _ => nI 0), aW T 0 (qh_4_7 3) 3 (fun _ => nI 0), yW T ya_4_8 yb_4_9 F_4_10 (nI 0), sW T (gq_4_11 0) c00, tW T ((gq_4_11 0) 11) ((gq_4_11 0) 12) (nI 0) (fun _ => nI 0), tW T ((gq_4_11 0) 13) ((gq_4_11 0) 14) (nI 0) (fun _ => nI 0), tW T ((gq_4_11 0) 15) ((gq_4_11 0) 16) (nI 0) (fun _ => nI 0), sW T (gq_4_11 1) c00, tW T ((gq_4_11 1) 11) ((gq_4_11 1) 12) (nI 0) (fun _ => nI 0), tW T ((gq_4_11 1) 13) ((gq_4_11 1) 14) (nI 0) (fun _ => nI 0), tW T ((gq_4_11 1) 15) ((gq_4_11 1) 16) (nI 0) (fun _ => nI 0), sW T (gq_4_11 2) c00, tW T ((gq_4_11 2) 11) ((gq_4_11 2) 12) (nI 0) (fun _ => nI 0), tW T ((gq_4_11 2) 13) ((gq_4_11 2) 14) (nI 0) (fun _ => nI 0), tW T ((gq_4_11 2) 15) ((gq_4_11 2) 16) (nI 0) (fun _ => nI 0), sW T (gq_4_11 3) c00, tW T ((gq_4_11 3) 11) ((gq_4_11 3) 12) (nI 0) (fun _ => nI 0), tW T ((gq_4_11 3) 13) ((gq_4_11 3) 14) (nI 0) (fun _ => nI 0), tW T ((gq_4_11 3) 15) ((gq_4_11 3) 16) (nI 0) (fun _ => nI 0), sW T (gq_4_11 4) c00, tW T ((gq_4_11 4) 11) ((gq_4_11 4) 12) (nI 0) (fun _ => nI 0), tW T ((gq_4_11 4) 13) ((gq_4_11 4) 14) (nI 0) (fun _ => nI 0), tW T ((gq_4_11 4) 15) ((gq_4_11 4) 16) (nI 0) (fun _ => nI 0), sW T (gq_4_11 5) c00, tW T ((gq_4_11 5) 11) ((gq_4_11 5) 12) (nI 0) (fun _ => nI 0), tW T ((gq_4_11 5) 13) ((gq_4_11 5) 14) (nI 0) (fun _ => nI 0), tW T ((gq_4_11 5) 15) ((gq_4_11 5) 16) (nI 0) (fun _ => nI 0), gW T ga_4_12 gb_4_13 (fun _ => nI 0) (nI 0) (nI 0) (nI 0)]) := hD4
  have hq_4 : ∀ k, k < 6 → F_4_10 k = some (gq_4_11 k 0) := hq_4
  refine lv_astore_n (lv' := [(1, .ref b_0_1), (0, .ref b)]) hx hb dL_law_7 rfl hl0 (by decide) rfl (fun ls14 hl14 => ?_)
  clear hl0
  have hP9 := fl_tailP [] [xW b_0_1 (qn_4_5 0) (qt_4_6 0) (qh_4_7 0) ya_4_8 ga_4_12, sW T qn_4_5 c00, tW T (qn_4_5 11) (qn_4_5 12) (nI 0) (fun _ => nI 0), tW T (qn_4_5 13) (qn_4_5 14) (nI 0) (fun _ => nI 0), tW T (qn_4_5 15) (qn_4_5 16) (nI 0) (fun _ => nI 0), sW T qt_4_6 c00, tW T (qt_4_6 11) (qt_4_6 12) (nI 0) (fun _ => nI 0), tW T (qt_4_6 13) (qt_4_6 14) (nI 0) (fun _ => nI 0), tW T (qt_4_6 15) (qt_4_6 16) (nI 0) (fun _ => nI 0), hO qh_4_7, aW T 0 (qh_4_7 1) 12 (fun _ => nI 0), aW T 0 (qh_4_7 2) 3 (fun _ => nI 0), aW T 0 (qh_4_7 3) 3 (fun _ => nI 0), yW T ya_4_8 yb_4_9 F_4_10 (nI 0), sW T (gq_4_11 0) c00, tW T ((gq_4_11 0) 11) ((gq_4_11 0) 12) (nI 0) (fun _ => nI 0), tW T ((gq_4_11 0) 13) ((gq_4_11 0) 14) (nI 0) (fun _ => nI 0), tW T ((gq_4_11 0) 15) ((gq_4_11 0) 16) (nI 0) (fun _ => nI 0), sW T (gq_4_11 1) c00, tW T ((gq_4_11 1) 11) ((gq_4_11 1) 12) (nI 0) (fun _ => nI 0), tW T ((gq_4_11 1) 13) ((gq_4_11 1) 14) (nI 0) (fun _ => nI 0), tW T ((gq_4_11 1) 15) ((gq_4_11 1) 16) (nI 0) (fun _ => nI 0), sW T (gq_4_11 2) c00, tW T ((gq_4_11 2) 11) ((gq_4_11 2) 12) (nI 0) (fun _ => nI 0), tW T ((gq_4_11 2) 13) ((gq_4_11 2) 14) (nI 0) (fun _ => nI 0), tW T ((gq_4_11 2) 15) ((gq_4_11 2) 16) (nI 0) (fun _ => nI 0), sW T (gq_4_11 3) c00, tW T ((gq_4_11 3) 11) ((gq_4_11 3) 12) (nI 0) (fun _ => nI 0), tW T ((gq_4_11 3) 13) ((gq_4_11 3) 14) (nI 0) (fun _ => nI 0), tW T ((gq_4_11 3) 15) ((gq_4_11 3) 16) (nI 0) (fun _ => nI 0), sW T (gq_4_11 4) c00, tW T ((gq_4_11 4) 11) ((gq_4_11 4) 12) (nI 0) (fun _ => nI 0), tW T ((gq_4_11 4) 13) ((gq_4_11 4) 14) (nI 0) (fun _ => nI 0), tW T ((gq_4_11 4) 15) ((gq_4_11 4) 16) (nI 0) (fun _ => nI 0), sW T (gq_4_11 5) c00, tW T ((gq_4_11 5) 11) ((gq_4_11 5) 12) (nI 0) (fun _ => nI 0), tW T ((gq_4_11 5) 13) ((gq_4_11 5) 14) (nI 0) (fun _ => nI 0), tW T ((gq_4_11 5) 15) ((gq_4_11 5) 16) (nI 0) (fun _ => nI 0), gW T ga_4_12 gb_4_13 (fun _ => nI 0) (nI 0) (nI 0) (nI 0)] hP4
  have hD9 := fl_tailD [] [xW b_0_1 (qn_4_5 0) (qt_4_6 0) (qh_4_7 0) ya_4_8 ga_4_12, sW T qn_4_5 c00, tW T (qn_4_5 11) (qn_4_5 12) (nI 0) (fun _ => nI 0), tW T (qn_4_5 13) (qn_4_5 14) (nI 0) (fun _ => nI 0), tW T (qn_4_5 15) (qn_4_5 16) (nI 0) (fun _ => nI 0), sW T qt_4_6 c00, tW T (qt_4_6 11) (qt_4_6 12) (nI 0) (fun _ => nI 0), tW T (qt_4_6 13) (qt_4_6 14) (nI 0) (fun _ => nI 0), tW T (qt_4_6 15) (qt_4_6 16) (nI 0) (fun _ => nI 0), hO qh_4_7, aW T 0 (qh_4_7 1) 12 (fun _ => nI 0), aW T 0 (qh_4_7 2) 3 (fun _ => nI 0), aW T 0 (qh_4_7 3) 3 (fun _ => nI 0), yW T ya_4_8 yb_4_9 F_4_10 (nI 0), sW T (gq_4_11 0) c00, tW T ((gq_4_11 0) 11) ((gq_4_11 0) 12) (nI 0) (fun _ => nI 0), tW T ((gq_4_11 0) 13) ((gq_4_11 0) 14) (nI 0) (fun _ => nI 0), tW T ((gq_4_11 0) 15) ((gq_4_11 0) 16) (nI 0) (fun _ => nI 0), sW T (gq_4_11 1) c00, tW T ((gq_4_11 1) 11) ((gq_4_11 1) 12) (nI 0) (fun _ => nI 0), tW T ((gq_4_11 1) 13) ((gq_4_11 1) 14) (nI 0) (fun _ => nI 0), tW T ((gq_4_11 1) 15) ((gq_4_11 1) 16) (nI 0) (fun _ => nI 0), sW T (gq_4_11 2) c00, tW T ((gq_4_11 2) 11) ((gq_4_11 2) 12) (nI 0) (fun _ => nI 0), tW T ((gq_4_11 2) 13) ((gq_4_11 2) 14) (nI 0) (fun _ => nI 0), tW T ((gq_4_11 2) 15) ((gq_4_11 2) 16) (nI 0) (fun _ => nI 0), sW T (gq_4_11 3) c00, tW T ((gq_4_11 3) 11) ((gq_4_11 3) 12) (nI 0) (fun _ => nI 0), tW T ((gq_4_11 3) 13) ((gq_4_11 3) 14) (nI 0) (fun _ => nI 0), tW T ((gq_4_11 3) 15) ((gq_4_11 3) 16) (nI 0) (fun _ => nI 0), sW T (gq_4_11 4) c00, tW T ((gq_4_11 4) 11) ((gq_4_11 4) 12) (nI 0) (fun _ => nI 0), tW T ((gq_4_11 4) 13) ((gq_4_11 4) 14) (nI 0) (fun _ => nI 0), tW T ((gq_4_11 4) 15) ((gq_4_11 4) 16) (nI 0) (fun _ => nI 0), sW T (gq_4_11 5) c00, tW T ((gq_4_11 5) 11) ((gq_4_11 5) 12) (nI 0) (fun _ => nI 0), tW T ((gq_4_11 5) 13) ((gq_4_11 5) 14) (nI 0) (fun _ => nI 0), tW T ((gq_4_11 5) 15) ((gq_4_11 5) 16) (nI 0) (fun _ => nI 0), gW T ga_4_12 gb_4_13 (fun _ => nI 0) (nI 0) (nI 0) (nI 0)] hD4
  have hI := inv00 (T := T) (xa := b_0_1) (qn := qn_4_5) (qt := qt_4_6) (qh := qh_4_7) (ya := ya_4_8) (yb := yb_4_9) (ga := ga_4_12) (gb := gb_4_13) hq_4
  have fin : ∀ t : Nat, t ≤ 44 → ∀ ls : Array Slot, lv_has ls 16 [(4, .int (nI 0)), (3, .int (nI t)), (2, .int (nI 1)), (1, .ref b_0_1), (0, .ref b)] → W pX l eX room_1 sX mX #[Value.ref b] bX mtX cX H4 locs4 (160 + 3 * 0) (2200 + 18 * 0) TG (F0 mX 32 ls []) := fun t ht ls hl2 => law_loop hCX ht hA2 hEnd 60 0 (by omega) (by omega) _ _ _ _ hI rg00 _ _ hP9 hD9 hS4 _ (lv_sub hl2 [4, 3, 2, 1, 0] rfl)
  refine lv_iconst (v := nI 1) hx hb dL_law_8 (by decide) ?_
  refine lv_istore_n (lv' := [(2, .int (nI 1)), (1, .ref b_0_1), (0, .ref b)]) hx hb dL_law_9 rfl hl14 (by decide) rfl (fun ls20 hl20 => ?_)
  refine lv_aload_n hx hb dL_law_10 rfl (lv_at hl20 2 rfl) ?_
  refine va_slen hx hb hXs0 hls0 hns0 hS4 dL_law_11 ?_
  refine tp_i (y := nI L) rfl ?_
  refine lv_iconst (v := nI 3) hx hb dL_law_12 (by decide) ?_
  refine lv_idiv hx hb dL_law_13 (by decide) ?_
  refine tp_i (y := nI (L / 3)) (div3 hL26) ?_
  refine lv_bipush (v := nI 44) hx hb dL_law_14 (by decide) ?_
  refine n_icmp_le (tgt := 24) hx hb (by omega) (by omega) dL_law_16 (by decide) (fun c_16 => ?_) (fun c_16 => ?_)
  · refine lv_aload_n hx hb dL_law_24 rfl (lv_at hl20 2 rfl) ?_
    refine va_slen hx hb hXs0 hls0 hns0 hS4 dL_law_25 ?_
    refine tp_i (y := nI L) rfl ?_
    refine lv_iconst (v := nI 3) hx hb dL_law_26 (by decide) ?_
    refine lv_idiv hx hb dL_law_27 (by decide) ?_
    refine tp_i (y := nI (L / 3)) (div3 hL26) ?_
    refine lv_istore_n (lv' := [(3, .int (nI (L / 3))), (2, .int (nI 1)), (1, .ref b_0_1), (0, .ref b)]) hx hb dL_law_28 rfl hl20 (by decide) rfl (fun ls21 hl21 => ?_)
    refine lv_iconst (v := nI 0) hx hb dL_law_29 (by decide) ?_
    refine lv_istore (lv' := [(4, .int (nI 0)), (3, .int (nI (L / 3))), (2, .int (nI 1)), (1, .ref b_0_1), (0, .ref b)]) hx hb dL_law_30 hl21 (by decide) rfl (fun ls22 hl22 => ?_)
    refine W.widen (k := 160 + 3 * 0) (n := 2200 + 18 * 0) (Nat.le_of_ble_eq_true rfl) (Nat.le_of_ble_eq_true rfl) ?_
    exact fin (L / 3) c_16 ls22 hl22
  · refine lv_bipush (v := nI 44) hx hb dL_law_19 (by decide) ?_
    refine lv_goto (tgt := 28) hx hb dL_law_21 (by decide) ?_
    refine lv_istore_n (lv' := [(3, .int (nI 44)), (2, .int (nI 1)), (1, .ref b_0_1), (0, .ref b)]) hx hb dL_law_28 rfl hl20 (by decide) rfl (fun ls21 hl21 => ?_)
    refine lv_iconst (v := nI 0) hx hb dL_law_29 (by decide) ?_
    refine lv_istore (lv' := [(4, .int (nI 0)), (3, .int (nI 44)), (2, .int (nI 1)), (1, .ref b_0_1), (0, .ref b)]) hx hb dL_law_30 hl21 (by decide) rfl (fun ls22 hl22 => ?_)
    refine W.widen (k := 160 + 3 * 0) (n := 2200 + 18 * 0) (Nat.le_of_ble_eq_true rfl) (Nat.le_of_ble_eq_true rfl) ?_
    exact fin 44 (Nat.le_refl 44) ls22 hl22
