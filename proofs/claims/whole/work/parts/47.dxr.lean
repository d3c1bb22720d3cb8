theorem nI_pos2 {n : Nat} (h : 0 < n) (h2 : n < 1000) : ¬ nI n ≤ 0 := by
  rw [Int32.le_iff_toInt_le, nI_toInt (by omega)]
  show ¬ (n : Int) ≤ 0
  omega
abbrev QNr (T : TI) (xa K : Nat) (mm past : Nat → Int32) (kp : Nat) (f : Nat → Int32) (n : Nat) : Int32 → va_W → Prop := fun r w => cmB f 0 n = true ∧ ∃ (c : Nat → Nat → Int32) (L : Nat → Nat), Sim c L mm ∧ r = nI (0 + (gvP (gvI f c L n)).2 0 + (gvP (gvI f c L n)).2 1 + (gvP (gvI f c L n)).2 2) ∧ ∀ m2, Sim (gvP (gvI f c L n)).1 (gvP (gvI f c L n)).2 m2 → cmpM m2 (K + 96) → XINV T xa w m2 (svP mm past kp) (svK kp) f 0 (K + 96)
abbrev QXr (T : TI) (xa K : Nat) (mm past : Nat → Int32) (kp : Nat) (f : Nat → Int32) (n : Nat) : String → va_W → Prop := fun E w => (E = XIA ∧ cmB f 0 n = false) ∧ XINV T xa w mm past kp f n (K + 96)
set_option maxHeartbeats 4000000 in
set_option maxRecDepth 100000 in
theorem d_X5_rounds (l : Launch) (D : va_G) (T : TI) (hl : l.stackTraces = false) {xa : Nat} {wb : va_W} {mm past : Nat → Int32} {kp : Nat} {f : Nat → Int32} {n K : Nat} (hI : XINV T xa wb mm past kp f n K) (hK : K ≤ 490000) : XI l yX5_rounds cX5_rounds 1 .int (rmD 8 2 12) D T [.ref xa] [wb] 2 12 (β := va_W) (βX := va_W) (fun w2 => [w2]) (QNr T xa K mm past kp f n) (fun w2 => [w2]) (QXr T xa K mm past kp f n) := by
  obtain ⟨qn, c, L, qt, ct, Lt, qh, wk, dr, re, ya, yb, F, gq, cs, Ls, ga, gb, pl, ps, rfl, hS, hH, hn, hps, hC⟩ := hI
  refine XI_conv (c_X5_rounds l D T hl xa qn c L qt ct Lt qh wk dr re ya yb F gq cs Ls kp ga gb f n pl ps mm past hS hH hn hps) (fl_one _) ?_ ?_
  · rintro r ⟨c2, L2, F2, gq2, cs2, Ls2, kp2, n2, pl2, ps2⟩ ⟨h1, h2, h3, h4, h5, h6, h7⟩
    subst h4; subst h6
    have e1 : c2 = (gvP (gvI f c L n)).1 := congrArg Prod.fst h3
    have e2 : L2 = (gvP (gvI f c L n)).2 := congrArg Prod.snd h3
    subst e1; subst e2
    refine ⟨XW T xa qn (gvP (gvI f c L n)).1 (gvP (gvI f c L n)).2 qt ct Lt qh wk dr re ya yb F2 gq2 cs2 Ls2 (svK kp) ga gb f 0 pl2 ps2, fl_one _, (cmB_ps f 0 ps n).trans h1, c, L, hS, h2, fun m2 hS2 hC2 => ?_⟩
    exact ⟨qn, (gvP (gvI f c L n)).1, (gvP (gvI f c L n)).2, qt, ct, Lt, qh, wk, dr, re, ya, yb, F2, gq2, cs2, Ls2, ga, gb, pl2, ps2, rfl, hS2, h7, by omega, h5.2 hps, hC2, fun i hi => (hC.sv hH.1 i hi).le (by omega)⟩
  · rintro E ⟨plx, psx⟩ ⟨hE, h1, h2, h3⟩
    exact ⟨XW T xa qn c L qt ct Lt qh wk dr re ya yb F gq cs Ls kp ga gb f n plx psx, fl_one _, ⟨hE, (cmB_ps f 0 ps n).trans h1⟩, qn, c, L, qt, ct, Lt, qh, wk, dr, re, ya, yb, F, gq, cs, Ls, ga, gb, plx, psx, rfl, hS, hH, hn, h3 hps, hC.le (by omega)⟩
theorem gv_keep {f : Nat → Int32} {c : Nat → Nat → Int32} {L : Nat → Nat} (hT : okT c L) {ps n : Nat} (h : erT f ps n = n) {j : Nat} (hj : j < 9 ∨ j = 12) : ∀ i, i ≤ n → (gvI f c L i).2.2.1 j = c j
  | 0, _ => rfl
  | i + 1, hi => by
    have ih := gv_keep hT h hj i (by omega)
    have hw := (gv_inv hT h i (by omega)).1
    rw [← ih]
    show (gvS (f i) (gvI f c L i)).2.2.1 j = _
    unfold gvS
    split
    · rfl
    · split
      · rfl
      · exact vset_ne (by omega)
theorem sim_rdN {f : Nat → Int32} {c : Nat → Nat → Int32} {L : Nat → Nat} {m told : Nat → Int32} (hS : Sim c L m) {n : Nat} (hc : cmB f 0 n = true) (hR : ∀ k, k < 3 → RT told c L (gvP (gvI f c L n)).1 (gvP (gvI f c L n)).2 k) : Sim (gvP (gvI f c L n)).1 (gvP (gvI f c L n)).2 (rdN m told 27) := by
  have hT := hS.2.2.2.2.1
  have he := cmB_er hc
  have h2 : 2 ≤ (stT f 0 n).1 := by
    unfold cmB at hc
    simp only [Bool.and_eq_true, Bool.or_eq_true, decide_eq_true_eq] at hc
    omega
  have hG := gv_inv hT he n (Nat.le_refl _)
  obtain ⟨v, hv, hs, -, hl, h8⟩ := hG.2.2.2.2 h2
  have hT2 : okT (gvP (gvI f c L n)).1 (gvP (gvI f c L n)).2 := by
    have := okT_put hG.2.1 hG.1 (show (gvI f c L n).2.2.2 (gvI f c L n).1 < 8 by omega) hv
    rw [← hs] at this
    exact this
  have kp : ∀ j, j < 9 ∨ j = 12 → (gvP (gvI f c L n)).1 j = c j := fun j hj => by
    have := hG.1
    exact (vset_ne (by omega)).trans (gv_keep hT he hj n (Nat.le_refl _))
  have lo : ∀ x, x < 84 → rdN m told 27 x = m x := fun x hx => by unfold rdN; rw [if_neg (by omega)]
  have row : ∀ k, k < 3 → ∀ j, j < 9 → rdN m told 27 (84 + 9 * k + j) = if told (9 * k) ≤ 0 then m (84 + 9 * k + j) else told (9 * k + j) := fun k hk j hj => by
    unfold rdN
    rw [show (84 + 9 * k + j - 84) / 9 = k by omega, show 84 + 9 * k + j - 84 = 9 * k + j by omega]
    by_cases e : told (9 * k) ≤ 0
    · rw [if_pos e, if_neg (fun z => z.2.2 e)]
    · rw [if_neg e, if_pos ⟨by omega, by omega, e⟩]
  obtain ⟨⟨a1, a2, a3⟩, ⟨b1, b2, b3, b4, b5, b6⟩, ⟨d1, d2, d3⟩, ⟨f1, f2⟩, g1, g2, g3⟩ := hS
  refine ⟨⟨fun y hy => ?_, fun y hy => ?_, fun y hy => ?_⟩, ⟨fun y hy => ?_, fun y hy => ?_, fun y hy => ?_, fun y hy => ?_, fun y hy => ?_, fun y hy => ?_⟩, ⟨?_, ?_, ?_⟩, ⟨fun k hk => ?_, fun k hk j hj => ?_⟩, hT2, fun y hy => ?_, fun y hy => ?_⟩
  · rw [kp 0 (by omega), lo _ (by omega)]; exact a1 y hy
  · rw [kp 1 (by omega), lo _ (by omega)]; exact a2 y hy
  · rw [kp 2 (by omega), lo _ (by omega)]; exact a3 y hy
  · rw [kp 3 (by omega), lo _ (by omega)]; exact b1 y hy
  · rw [kp 4 (by omega), lo _ (by omega)]; exact b2 y hy
  · rw [kp 5 (by omega), lo _ (by omega)]; exact b3 y hy
  · rw [kp 6 (by omega), lo _ (by omega)]; exact b4 y hy
  · rw [kp 7 (by omega), lo _ (by omega)]; exact b5 y hy
  · rw [kp 8 (by omega), lo _ (by omega)]; exact b6 y hy
  · rw [kp 12 (by omega), lo _ (by omega)]; exact d1
  · rw [kp 12 (by omega), lo _ (by omega)]; exact d2
  · rw [kp 12 (by omega), lo _ (by omega)]; exact d3
  · have e := row k hk 0 (by omega)
    obtain ⟨t, t1, t2, t3, t4⟩ := hR k hk
    rw [show 84 + 9 * k + 0 = 84 + 9 * k by omega, show 9 * k + 0 = 9 * k by omega] at e
    rw [e]
    by_cases z : t = 0
    · subst z
      rw [t1, if_pos (by decide), (t3 rfl).1]; exact f1 k hk
    · rw [t1, if_neg (nI_pos2 (by omega) (by omega)), (t4 (by omega)).1]
  · obtain ⟨t, t1, t2, t3, t4⟩ := hR k hk
    by_cases z : t = 0
    · subst z
      rw [(t3 rfl).1] at hj
      have := (g1 k hk).1
      rw [show 84 + 9 * k + 1 + j = 84 + 9 * k + (1 + j) by omega, row k hk (1 + j) (by omega), t1, if_pos (by decide), (t3 rfl).2, show 84 + 9 * k + (1 + j) = 84 + 9 * k + 1 + j by omega]
      exact f2 k hk j hj
    · rw [(t4 (by omega)).1] at hj
      rw [show 84 + 9 * k + 1 + j = 84 + 9 * k + (1 + j) by omega, row k hk (1 + j) (by omega), t1, if_neg (nI_pos2 (by omega) (by omega)), ← (t4 (by omega)).2 j hj, show 9 * k + (1 + j) = 9 * k + 1 + j by omega]
  · rw [kp 1 (by omega)]; exact g2 y hy
  · rw [kp 5 (by omega)]; exact g3 y hy
theorem cmp_rdN {m told : Nat → Int32} {K : Nat} (h : cmpM m K) : cmpM (rdN m told 27) K := fun s hs => by
  unfold rdN
  rw [if_neg (by omega)]
  exact h s hs
