/-! looks: pressures along the water, why crews wait, least pressures, hours until it is clear -/
theorem mn_mono {u x y : Int32} (h : x ≤ y) : mn u x ≤ mn u y := by
  unfold mn
  simp only [Int32.le_iff_toInt_le] at h ⊢
  split <;> split <;> omega
theorem mn_left (u x : Int32) : mn u x ≤ u := by
  unfold mn
  split
  · next h => exact h
  · exact Int32.le_refl u
theorem pm_mono (m : Nat → Int32) (o : Int32) : ∀ z x y, x ≤ y → pmL m o z x ≤ pmL m o z y
  | 0, _, _, h => h
  | z + 1, x, y, h => by
    rw [pmL, pmL]
    split
    · exact pm_mono m o z _ _ (mn_mono h)
    · exact h
theorem own_0 {m : Nat → Int32} {s : Nat} (hs : s < 12) : ownM m (nI 0) s = clampZ (m (4 + s / 4) - nI (s % 4)) := by
  unfold ownM
  rw [owI_d, dI_0 m (by omega) 4 (Nat.le_refl 4), show m (4 + s / 4) - nI (s % 4) - nI 0 = m (4 + s / 4) - nI (s % 4) from Int32.sub_zero _]
theorem clamp_mono {x y : Int32} (h : x ≤ y) : clampZ x ≤ clampZ y := by
  unfold clampZ
  simp only [Int32.le_iff_toInt_le] at h ⊢
  have h0 : (0 : Int32).toInt = 0 := rfl
  split <;> split <;> omega
theorem own_down {m : Nat → Int32} {h n : Nat} (H : RGm m h n) {s : Nat} (hs : s < 12) (h4 : ¬ s % 4 = 0) : ownM m (nI 0) s ≤ ownM m (nI 0) (s - 1) := by
  rw [own_0 hs, own_0 (show s - 1 < 12 by omega), show (s - 1) / 4 = s / 4 by omega]
  obtain ⟨p, hp, ep⟩ := H.pres (show s / 4 < 3 by omega)
  rw [ep]
  refine clamp_mono ?_
  rw [Int32.le_iff_toInt_le, pk_sub_toInt (by omega) (by omega), pk_sub_toInt (by omega) (by omega)]
  omega
theorem pr_down {m : Nat → Int32} {h n : Nat} (H : RGm m h n) {s : Nat} (hs : s < 12) (h4 : ¬ s % 4 = 0) : prM m (nI 0) s ≤ prM m (nI 0) (s - 1) := by
  unfold prM
  rw [show (s - 1) / 4 = s / 4 by omega]
  exact pm_mono _ _ _ _ _ (own_down H hs h4)
theorem pr_src {m : Nat → Int32} {h n : Nat} (H : RGm m h n) {s : Nat} (hs : s < 12) (h0 : 0 < s) (he : srcM m s = nI (s - 1)) : prM m (nI 0) s ≤ prM m (nI 0) (s - 1) := by
  by_cases h4 : s % 4 = 0
  · unfold srcM at he
    rw [if_neg (by omega), if_neg (by omega)] at he
    have hv : m (7 + s / 4 - 1) = nI 1 := by
      by_cases q : m (7 + s / 4 - 1) = nI 1
      · exact q
      · rw [if_neg q] at he
        exact absurd he.symm (nI_nm1 (by omega))
    obtain ⟨z, hz⟩ : ∃ z, s = 4 * z + 4 := ⟨s / 4 - 1, by omega⟩
    subst hz
    unfold prM
    rw [show (4 * z + 4) / 4 = z + 1 by omega, show 4 * z + 4 - 1 = 4 * z + 3 by omega, show (4 * z + 3) / 4 = z by omega, pmL, if_pos (by rw [← hv]; exact congrArg m (by omega))]
    exact pm_mono _ _ _ _ _ (mn_left _ _)
  · exact pr_down H hs h4
theorem bri_le {m : Nat → Int32} {s : Nat} : (nI (if brM m s = true then 1 else 0) = bI (brM m s)) := by
  cases brM m s <;> rfl
/-! why a crew waits -/
theorem la_open {m : Nat → Int32} (hS : okS m) (wh : Nat → Int32) {n : Nat} (hn : n ≤ 3) {s : Nat} (hs : s < 12) (hb : bitM (laI m wh n).1 s = nI 1) : ∃ k, k < n ∧ frM m k = nI s := by
  obtain ⟨c, L, h⟩ := hS
  obtain ⟨h1, -, -, h4, h5⟩ := op_la h (fun _ => 0) (fun _ => 0) (fun _ => 0) wh n hn
  have hw := (h1 s hs).mp hb
  rcases h4 s hs with e | ⟨k, e1, e2⟩
  · exact absurd e hw
  · exact ⟨k, e1, ((h5 s hs k e1).mp e2).2⟩
theorem la_at (m wh : Nat → Int32) : ∀ n, n ≤ 3 → ∀ k, k < n → (laI m wh n).2 k = (laS m k (laI m wh k)).2 k
  | 0, _, k, hk => absurd hk (Nat.not_lt_zero _)
  | n + 1, hn, k, hk => by
    by_cases e : k = n
    · subst e; rfl
    · rw [laI, laS_o _ _ _ e]
      exact la_at m wh n (by omega) k (by omega)
/-- the five cases of a crew: no street, at work, behind another, too low, brown ahead -/
def WTS (m : Nat → Int32) (c : Nat) (y : Int32) : Prop :=
  (frM m c = -1 ∧ y = -1) ∨ (∃ t, t < 12 ∧ frM m c = nI t ∧ (y = nI 0 ∨ (y = nI 1 ∧ ∃ k, k < c ∧ frM m k = nI t) ∨ y = nI 2 ∨ (y = nI 3 ∧ srcM m t = nI (t - 1) ∧ 0 < t ∧ brM m (t - 1) = true)))
theorem waits_f {m : Nat → Int32} (hS : okS m) (wh : Nat → Int32) {c : Nat} (hc : c < 3) : WTS m c ((laI m wh 3).2 c) := by
  rw [la_at m wh 3 (Nat.le_refl 3) c hc]
  rcases frM_or hS.okM hc with e | ⟨t, ht, e⟩
  · rw [laS_m1 e]
    exact Or.inl ⟨e, pk_us⟩
  · rw [laS_t e ht]
    refine Or.inr ⟨t, ht, e, ?_⟩
    have hy : upd (laI m wh c).2 c (whyM m (laI m wh c).1 t) c = whyM m (laI m wh c).1 t := pk_us
    try dsimp only
    rw [hy]
    unfold whyM
    split
    · next hb => exact Or.inr (Or.inl ⟨rfl, la_open hS wh (by omega) ht hb⟩)
    · split
      · split
        · exact Or.inl rfl
        · next hs =>
          split
          · next hb =>
            rcases srcM_or m t with q | ⟨q, q0⟩
            · exact absurd q hs
            · exact Or.inr (Or.inr (Or.inr ⟨rfl, q, q0, hb⟩))
          · exact Or.inl rfl
      · exact Or.inr (Or.inr (Or.inl rfl))
/-! the rounds -/
theorem rd_0 {m : Nat → Int32} (hS : okS m) {c : Nat} (hc : c < 3) : rdV m c 0 = frM m c := by
  obtain ⟨n, h1, h2, h3⟩ := hS.okM c hc
  unfold rdV frM
  rw [h2, nIcl (by omega)]
  by_cases e : n = 0
  · subst e
    rw [if_neg (by omega)]
    exact (if_pos rfl).symm
  · rw [if_pos (by omega), if_neg (nI_ne0 (by omega) (by omega))]
/-- how many streets a round has -/
def rdL (m : Nat → Int32) (c : Nat) : Nat := (m (84 + 9 * c)).toNatClampNeg
theorem rd_len {m : Nat → Int32} (hS : okS m) {c : Nat} (hc : c < 3) : rdL m c ≤ 8 ∧ m (84 + 9 * c) = nI (rdL m c) := by
  obtain ⟨n, h1, h2, h3⟩ := hS.okM c hc
  unfold rdL
  rw [h2, nIcl (by omega)]
  exact ⟨h1, rfl⟩
theorem rd_in {m : Nat → Int32} (hS : okS m) {c j : Nat} (hc : c < 3) (hj : j < rdL m c) : ∃ t, t < 12 ∧ rdV m c j = nI t := by
  obtain ⟨n, h1, h2, h3⟩ := hS.okM c hc
  unfold rdL at hj
  unfold rdV
  rw [if_pos hj]
  rw [h2, nIcl (by omega)] at hj
  exact h3 j hj
theorem rd_out {m : Nat → Int32} {c j : Nat} (hj : ¬ j < rdL m c) : rdV m c j = -1 := if_neg hj
/-! least pressures, hours until nobody complains -/
theorem ls_r (m : Nat → Int32) (s : Nat) : ∀ f p, lsG m s p f = -1 ∨ ∃ q, q < p + f ∧ lsG m s p f = nI q
  | 0, p => Or.inl rfl
  | f + 1, p => by
    rw [lsG]
    split
    · rcases ls_r m s f (p + 1) with e | ⟨q, h1, h2⟩
      · exact Or.inl e
      · exact Or.inr ⟨q, by omega, h2⟩
    · exact Or.inr ⟨p, by omega, rfl⟩
theorem cl_r (m : Nat → Int32) : ∀ f i, (clG m i f = -1 ∧ (0 < f → ¬ brNM (hourN m i) 12 = 0)) ∨ ∃ j, i ≤ j ∧ j < i + f ∧ clG m i f = nI j ∧ brNM (hourN m j) 12 = 0 ∧ (i < j → ¬ brNM (hourN m i) 12 = 0)
  | 0, i => Or.inl ⟨rfl, fun h => absurd h (by omega)⟩
  | f + 1, i => by
    rw [clG]
    by_cases e : brNM (hourN m i) 12 = 0
    · rw [if_pos e]
      exact Or.inr ⟨i, by omega, by omega, rfl, e, fun h => absurd h (by omega)⟩
    · rw [if_neg e]
      rcases cl_r m f (i + 1) with ⟨q, -⟩ | ⟨j, h1, h2, h3, h4, -⟩
      · exact Or.inl ⟨q, fun _ => e⟩
      · exact Or.inr ⟨j, by omega, by omega, h3, h4, fun _ => e⟩
/-- what clearIn answers -/
theorem cl_ans (m : Nat → Int32) : (clG m 0 201 = -1 ∧ ¬ brNM m 12 = 0) ∨ (clG m 0 201 = nI 0 ∧ brNM m 12 = 0) ∨ ∃ j, 0 < j ∧ j ≤ 200 ∧ clG m 0 201 = nI j ∧ ¬ brNM m 12 = 0 ∧ brNM (hourN m j) 12 = 0 := by
  rcases cl_r m 201 0 with ⟨q, h⟩ | ⟨j, h1, h2, h3, h4, h5⟩
  · exact Or.inl ⟨q, h (by omega)⟩
  · by_cases e : j = 0
    · subst e
      exact Or.inr (Or.inl ⟨h3, h4⟩)
    · exact Or.inr (Or.inr ⟨j, by omega, by omega, h3, h5 (by omega), h4⟩)
