/-! the row's ranges: pressures, settings, dirt, what hydrants take, hours -/
def isN (x : Int32) (b : Nat) : Prop := ∃ v, v ≤ b ∧ x = nI v
theorem isN.le {x : Int32} {b c : Nat} (h : isN x b) (hb : b ≤ c) : isN x c := by
  obtain ⟨v, h1, h2⟩ := h
  exact ⟨v, by omega, h2⟩
/-- what stands at a place of the row; a street with a number below n has been open in this hour -/
def okV (h n j : Nat) (x : Int32) : Prop :=
  (j < 2 → isN x 99) ∧ (4 ≤ j → j < 7 → isN x 99) ∧ (j = 2 → isN x 9) ∧ (j = 3 → isN x 20) ∧ (j = 9 → x = nI h) ∧ (12 ≤ j → (j - 12) % 6 = 0 → isN x 999) ∧ (12 ≤ j → (j - 12) % 6 = 1 → isN x 30) ∧ (12 ≤ j → (j - 12) % 6 = 2 → isN x 1) ∧ (12 ≤ j → (j - 12) % 6 = 5 → isN x (if (j - 12) / 6 < n then h + 1 else h))
def RGm (m : Nat → Int32) (h n : Nat) : Prop := ∀ j, j < 84 → okV h n j (m j)
theorem RGm.pres {m : Nat → Int32} {h n : Nat} (H : RGm m h n) {z : Nat} (hz : z < 3) : isN (m (4 + z)) 99 := (H (4 + z) (by omega)).2.1 (by omega) (by omega)
theorem RGm.fac {m : Nat → Int32} {h n : Nat} (H : RGm m h n) : isN (m 2) 9 := (H 2 (by omega)).2.2.1 rfl
theorem RGm.hourly {m : Nat → Int32} {h n : Nat} (H : RGm m h n) : isN (m 3) 20 := (H 3 (by omega)).2.2.2.1 rfl
theorem RGm.hours {m : Nat → Int32} {h n : Nat} (H : RGm m h n) : m 9 = nI h := (H 9 (by omega)).2.2.2.2.1 rfl
theorem RGm.set0 {m : Nat → Int32} {h n : Nat} (H : RGm m h n) {k : Nat} (hk : k < 2) : isN (m k) 99 := (H k (by omega)).1 hk
theorem RGm.dirt {m : Nat → Int32} {h n : Nat} (H : RGm m h n) {s : Nat} (hs : s < 12) : isN (m (12 + 6 * s)) 999 := (H (12 + 6 * s) (by omega)).2.2.2.2.2.1 (by omega) (by omega)
theorem RGm.takes {m : Nat → Int32} {h n : Nat} (H : RGm m h n) {s : Nat} (hs : s < 12) : isN (m (12 + 6 * s + 1)) 30 := (H (12 + 6 * s + 1) (by omega)).2.2.2.2.2.2.1 (by omega) (by omega)
theorem RGm.was {m : Nat → Int32} {h n : Nat} (H : RGm m h n) {s : Nat} (hs : s < 12) : isN (m (12 + 6 * s + 2)) 1 := (H (12 + 6 * s + 2) (by omega)).2.2.2.2.2.2.2.1 (by omega) (by omega)
theorem RGm.openH {m : Nat → Int32} {h n : Nat} (H : RGm m h n) {s : Nat} (hs : s < 12) : isN (m (12 + 6 * s + 5)) (if s < n then h + 1 else h) := by
  have q := (H (12 + 6 * s + 5) (by omega)).2.2.2.2.2.2.2.2 (by omega) (by omega)
  rw [show (12 + 6 * s + 5 - 12) / 6 = s by omega] at q
  exact q
theorem okV_no {h n j : Nat} {x : Int32} (hj : j = 7 ∨ j = 8 ∨ j = 10 ∨ j = 11 ∨ (12 ≤ j ∧ ((j - 12) % 6 = 3 ∨ (j - 12) % 6 = 4))) : okV h n j x :=
  ⟨fun _ => by omega, fun _ _ => by omega, fun _ => by omega, fun _ => by omega, fun _ => by omega, fun _ _ => by omega, fun _ _ => by omega, fun _ _ => by omega, fun _ _ => by omega⟩
theorem okV_dirt {h n s : Nat} {x : Int32} (hx : isN x 999) : okV h n (12 + 6 * s) x :=
  ⟨fun _ => by omega, fun _ _ => by omega, fun _ => by omega, fun _ => by omega, fun _ => by omega, fun _ _ => hx, fun _ _ => by omega, fun _ _ => by omega, fun _ _ => by omega⟩
theorem okV_takes {h n s : Nat} {x : Int32} (hx : isN x 30) : okV h n (12 + 6 * s + 1) x :=
  ⟨fun _ => by omega, fun _ _ => by omega, fun _ => by omega, fun _ => by omega, fun _ => by omega, fun _ _ => by omega, fun _ _ => hx, fun _ _ => by omega, fun _ _ => by omega⟩
theorem okV_open {h n s : Nat} {x : Int32} (hx : isN x (if s < n then h + 1 else h)) : okV h n (12 + 6 * s + 5) x :=
  ⟨fun _ => by omega, fun _ _ => by omega, fun _ => by omega, fun _ => by omega, fun _ => by omega, fun _ _ => by omega, fun _ _ => by omega, fun _ _ => by omega, fun _ _ => by rw [show (12 + 6 * s + 5 - 12) / 6 = s by omega]; exact hx⟩
theorem okV_pres {h n z : Nat} {x : Int32} (hz : z < 3) (hx : isN x 99) : okV h n (4 + z) x :=
  ⟨fun _ => by omega, fun _ _ => hx, fun _ => by omega, fun _ => by omega, fun _ => by omega, fun _ _ => by omega, fun _ _ => by omega, fun _ _ => by omega, fun _ _ => by omega⟩
theorem okV_fac {h n : Nat} {x : Int32} (hx : isN x 9) : okV h n 2 x :=
  ⟨fun _ => by omega, fun _ _ => by omega, fun _ => hx, fun _ => by omega, fun _ => by omega, fun _ _ => by omega, fun _ _ => by omega, fun _ _ => by omega, fun _ _ => by omega⟩
theorem okV_hourly {h n : Nat} {x : Int32} (hx : isN x 20) : okV h n 3 x :=
  ⟨fun _ => by omega, fun _ _ => by omega, fun _ => by omega, fun _ => hx, fun _ => by omega, fun _ _ => by omega, fun _ _ => by omega, fun _ _ => by omega, fun _ _ => by omega⟩
theorem okV_set0 {h n k : Nat} {x : Int32} (hk : k < 2) (hx : isN x 99) : okV h n k x :=
  ⟨fun _ => hx, fun _ _ => by omega, fun _ => by omega, fun _ => by omega, fun _ => by omega, fun _ _ => by omega, fun _ _ => by omega, fun _ _ => by omega, fun _ _ => by omega⟩
theorem okV_was {h n s : Nat} {x : Int32} (hx : isN x 1) : okV h n (12 + 6 * s + 2) x :=
  ⟨fun _ => by omega, fun _ _ => by omega, fun _ => by omega, fun _ => by omega, fun _ => by omega, fun _ _ => by omega, fun _ _ => by omega, fun _ _ => hx, fun _ _ => by omega⟩
theorem okV.mono {h n n2 j : Nat} {x : Int32} (H : okV h n j x) (hn : n ≤ n2) : okV h n2 j x := by
  obtain ⟨h0, h1, h2, h3, h4, h5, h6, h8, h7⟩ := H
  refine ⟨h0, h1, h2, h3, h4, h5, h6, h8, fun a b => (h7 a b).le ?_⟩
  split <;> split <;> omega
theorem RGm.mono {m : Nat → Int32} {h n n2 : Nat} (H : RGm m h n) (hn : n ≤ n2) : RGm m h n2 := fun j hj => (H j hj).mono hn
theorem RGm.upd {m : Nat → Int32} {h n k : Nat} {x : Int32} (H : RGm m h n) (hx : okV h n k x) : RGm (upd m k x) h n := by
  intro j hj
  by_cases e : j = k
  · subst e; rw [pk_us]; exact hx
  · rw [pk_un e]; exact H j hj
theorem RGm.congr {m m2 : Nat → Int32} {h n : Nat} (H : RGm m h n) (e : ∀ j, j < 84 → m2 j = m j) : RGm m2 h n := fun j hj => by rw [e j hj]; exact H j hj
theorem mnN {a b : Nat} (ha : a < 2147483648) (hb : b < 2147483648) : mn (nI a) (nI b) = nI (if b ≤ a then b else a) := by
  unfold mn
  by_cases e : b ≤ a
  · rw [if_pos e, if_pos ((nI_leI (by omega) (by omega)).mpr e)]
  · rw [if_neg e, if_neg (fun q => e ((nI_leI (by omega) (by omega)).mp q))]
theorem isN.mn {x y : Int32} {a b : Nat} (hx : isN x a) (hy : isN y b) (ha : a < 2147483648) (hb : b < 2147483648) : isN (mn x y) a ∧ isN (mn x y) b := by
  obtain ⟨v, h1, rfl⟩ := hx
  obtain ⟨w, h2, rfl⟩ := hy
  rw [mnN (by omega) (by omega)]
  refine ⟨⟨_, ?_, rfl⟩, ⟨_, ?_, rfl⟩⟩ <;> split <;> omega
/-- what a zone's water is pressed with at a street -/
theorem ow_r {m : Nat → Int32} {h n : Nat} (H : RGm m h n) (o : Int32) {z : Nat} (hz : z < 3) {x : Int32} (hx : -3 ≤ x.toInt ∧ x.toInt ≤ 99) : ∀ (j : Nat), j ≤ 4 → -3 - 30 * (j : Int) ≤ (owI m o z x j).toInt ∧ (owI m o z x j).toInt ≤ 99
  | 0, _ => by
    rw [owI]
    omega
  | j + 1, hj => by
    obtain ⟨h1, h2⟩ := ow_r H o hz hx j (by omega)
    rw [owI]
    unfold owS
    obtain ⟨t, ht, et⟩ : isN (if bitM o (4 * z + j) = nI 1 then m (12 + 6 * (4 * z + j) + 1) else nI 0) 30 := by
      split
      · exact H.takes (by omega)
      · exact ⟨0, by omega, rfl⟩
    rw [et, Int32.toInt_sub, nI_toInt (by omega), Int.bmod_eq_of_le (by omega) (by omega)]
    omega
theorem own_r {m : Nat → Int32} {h n : Nat} (H : RGm m h n) (o : Int32) {s : Nat} (hs : s < 12) : isN (ownM m o s) 99 := by
  unfold ownM
  obtain ⟨p, hp, ep⟩ := H.pres (show s / 4 < 3 by omega)
  rw [ep]
  have hx : -3 ≤ (nI p - nI (s % 4)).toInt ∧ (nI p - nI (s % 4)).toInt ≤ 99 := by
    rw [pk_sub_toInt (by omega) (by omega)]
    omega
  have h4 := ow_r H o (show s / 4 < 3 by omega) hx 4 (Nat.le_refl 4)
  revert h4
  generalize owI m o (s / 4) (nI p - nI (s % 4)) 4 = y
  intro h4
  unfold clampZ
  split
  · next h0 =>
    exact nI_of2 (M := nI 99) (nI_toInt (by omega)) (Int32.not_lt.mpr h0) (by rw [Int32.le_iff_toInt_le, nI_toInt (by omega)]; exact h4.2)
  · exact ⟨0, by omega, rfl⟩
theorem pm_r {m : Nat → Int32} {h n : Nat} (H : RGm m h n) (o : Int32) : ∀ z, z < 3 → ∀ x, isN x 99 → isN (pmL m o z x) 99
  | 0, _, x, hx => hx
  | z + 1, hz, x, hx => by
    rw [pmL]
    split
    · exact pm_r H o z (by omega) _ (isN.mn (own_r H o (by omega)) hx (by omega) (by omega)).1
    · exact hx
theorem pr_r {m : Nat → Int32} {h n : Nat} (H : RGm m h n) (o : Int32) {s : Nat} (hs : s < 12) : isN (prM m o s) 99 := pm_r H o _ (by omega) _ (own_r H o hs)
/-! the hour keeps the ranges -/
theorem rg_hf {m : Nat → Int32} {h k : Nat} (H : RGm m h k) (hh : h < 1000000) (o : Int32) (hk : k < 12) : RGm (hfA m k (mn (prM m o k * m 2) (m (12 + 6 * k + 0)))) h (k + 1) := by
  obtain ⟨p, hp, ep⟩ := pr_r H o hk
  obtain ⟨f, hf, ef⟩ := H.fac
  obtain ⟨d, hd, ed⟩ := H.dirt hk
  obtain ⟨a, ha, ea⟩ := H.openH hk
  rw [if_neg (by omega)] at ha
  have ed0 : m (12 + 6 * k + 0) = nI d := ed
  have hpf : p * f ≤ 99 * 9 := Nat.mul_le_mul hp hf
  rw [ep, ef, ed0, pk_mul, mnN (by omega) (by omega)]
  obtain ⟨g, hg⟩ : ∃ g, g = (if d ≤ p * f then d else p * f) := ⟨_, rfl⟩
  rw [← hg]
  have hgd : g ≤ d := by rw [hg]; split <;> omega
  unfold hfA
  try dsimp only
  refine RGm.upd (RGm.upd (RGm.upd (H.mono (Nat.le_succ k)) (okV_dirt ?_)) (okV_no (by omega))) (okV_open ?_)
  · rw [ed, pk_sub hgd]
    exact ⟨d - g, by omega, rfl⟩
  · rw [pk_un (by omega), pk_un (by omega), ea, nI_add, if_pos (by omega)]
    exact ⟨a + 1, by omega, rfl⟩
theorem rg_hfI {m : Nat → Int32} {h : Nat} (H : RGm m h 0) (hh : h < 1000000) (o : Int32) : ∀ n, n ≤ 12 → RGm (hfI o m n).1 h n
  | 0, _ => H
  | n + 1, hn => by
    have ih := rg_hfI H hh o n (by omega)
    rw [hfI]
    unfold hfS
    split
    · exact rg_hf ih hh o (by omega)
    · exact ih.mono (Nat.le_succ n)
theorem rg_cm {m : Nat → Int32} {h n s : Nat} (H : RGm m h n) (hs : s < 12) {x : Int32} (hx : isN x 999) : RGm (cmM m s x) h n := by
  obtain ⟨d, hd, ed⟩ := H.dirt hs
  obtain ⟨v, hv, rfl⟩ := hx
  unfold cmM
  try dsimp only
  rw [pk_us, ed, nI_add]
  by_cases e : nI (d + v) ≤ nI 999
  · rw [if_pos e]
    exact RGm.upd H (okV_dirt ⟨d + v, (nI_leI (by omega) (by omega)).mp e, rfl⟩)
  · rw [if_neg e]
    refine fun j hj => ?_
    by_cases e1 : j = 12 + 6 * s
    · subst e1; rw [pk_us]; exact okV_dirt ⟨999, by omega, rfl⟩
    · rw [pk_un e1]
      by_cases e2 : j = 11
      · subst e2; exact okV_no (by omega)
      · rw [pk_un e2, pk_un e1]; exact H j hj
theorem rg_hcI {m : Nat → Int32} {h n : Nat} (H : RGm m h n) (o : Int32) : ∀ d, d ≤ 11 → RGm (hcI o m d) h n
  | 0, _ => H
  | d + 1, hd => by
    have ih := rg_hcI H o d (by omega)
    rw [hcI]
    revert ih
    generalize hcI o m d = a
    intro ih
    unfold hcS
    split
    · split
      · obtain ⟨v, hv, ev⟩ := ih.dirt (show 10 - d < 12 by omega)
        have ev0 : a (12 + 6 * (10 - d) + 0) = nI v := ev
        have hq : v / 10 ≤ v := Nat.div_le_self v 10
        rw [ev0, ev, pk_div (by omega) (by omega) (by omega), pk_sub hq]
        exact rg_cm (RGm.upd ih (okV_dirt ⟨v - v / 10, by omega, rfl⟩)) (by omega) ⟨v / 10, by omega, rfl⟩
      · exact ih
    · exact ih
theorem cm_lo {m : Nat → Int32} {s : Nat} {x : Int32} {j : Nat} (hj : j < 11) : cmM m s x j = m j := cmM_t (by omega) (by omega)
theorem rg_hgI {m : Nat → Int32} {h n : Nat} (H : RGm m h n) : ∀ k, k ≤ 12 → RGm (hgI m k) h n
  | 0, _ => H
  | k + 1, hk => by
    have ih := rg_hgI H k (by omega)
    rw [hgI]
    revert ih
    generalize hgI m k = a
    intro ih
    have h1 := rg_cm ih (show k < 12 by omega) (ih.hourly.le (show 20 ≤ 999 by omega))
    unfold hgS
    try dsimp only
    split
    · exact RGm.upd (RGm.upd h1 (okV_no (by omega))) (okV_was ⟨1, by omega, rfl⟩)
    · exact RGm.upd (RGm.upd h1 (okV_no (by omega))) (okV_was ⟨0, by omega, rfl⟩)
theorem skM_lo {a : Nat → Int32} {c j : Nat} (hj : j < 84) : skM a c j = a j := by
  unfold skM skI
  rw [if_neg (by omega), if_neg (by omega)]
theorem hw_lo (wh : Nat → Int32) (cl : Int32) (m : Nat → Int32) {j : Nat} (hj : j < 84) (h10 : j ≠ 10) : ∀ n, hwI wh cl m n j = m j
  | 0 => rfl
  | n + 1 => by
    have ih := hw_lo wh cl m hj h10 n
    rw [hwI]
    revert ih
    generalize hwI wh cl m n = a
    intro ih
    unfold hwS
    try dsimp only
    generalize (if wh n ≤ 0 then nI 0 else nI 1) = v
    split
    · split
      · rw [skM_lo hj, pk_un h10]; exact ih
      · rw [pk_un h10]; exact ih
    · rw [pk_un h10]; exact ih
theorem rg_hw {m : Nat → Int32} {h n : Nat} (H : RGm m h n) (wh : Nat → Int32) (cl : Int32) (k : Nat) : RGm (hwI wh cl m k) h n := by
  intro j hj
  by_cases e : j = 10
  · subst e; exact okV_no (by omega)
  · rw [hw_lo wh cl m hj e]; exact H j hj
theorem RGm.hour {m : Nat → Int32} {h : Nat} (H : RGm m h 0) (hh : h < 1000000) : RGm (hourF m) (h + 1) 0 := by
  unfold hourF hourM
  try dsimp only
  have h4 := rg_hw (rg_hgI (rg_hcI (rg_hfI H hh (laI m (fun _ => 0) 3).1 12 (by omega)) (laI m (fun _ => 0) 3).1 11 (by omega)) 12 (by omega)) (laI m (fun _ => 0) 3).2 (hfI (laI m (fun _ => 0) 3).1 m 12).2 3
  revert h4
  generalize hwI (laI m (fun _ => 0) 3).2 (hfI (laI m (fun _ => 0) 3).1 m 12).2 (hgI (hcI (laI m (fun _ => 0) 3).1 (hfI (laI m (fun _ => 0) 3).1 m 12).1 11) 12) 3 = a
  intro h4 j hj
  by_cases e : j = 9
  · subst e
    rw [pk_us, h4.hours, nI_add]
    exact ⟨fun _ => by omega, fun _ _ => by omega, fun _ => by omega, fun _ => by omega, fun _ => rfl, fun _ _ => by omega, fun _ _ => by omega, fun _ _ => by omega, fun _ _ => by omega⟩
  · rw [pk_un e]
    obtain ⟨h0, h1, h2, h3, -, h5, h6, h8, h7⟩ := h4 j hj
    refine ⟨h0, h1, h2, h3, fun q => absurd q e, h5, h6, h8, fun a b => (h7 a b).le ?_⟩
    split <;> split <;> omega
theorem RGm.hourN {m : Nat → Int32} {h : Nat} (H : RGm m h 0) : ∀ n, h + n < 1000000 → RGm (hourN m n) (h + n) 0
  | 0, _ => H
  | n + 1, hn => RGm.hour (RGm.hourN H n (by omega)) (by show h + n < 1000000; omega)
