/-! an hour on both sides, step by step; Core: all but the rounds and the hours waited -/
def Core (c : Nat → Nat → Int32) (m : Nat → Int32) : Prop :=
  ((∀ z, z < 3 → c 0 z = m (4 + z)) ∧ (∀ v, v < 2 → c 1 v = m (7 + v)) ∧ (∀ k, k < 4 → c 2 k = m k)) ∧
  ((∀ s, s < 12 → c 3 s = m (12 + 6 * s)) ∧ (∀ s, s < 12 → c 4 s = m (12 + 6 * s + 1)) ∧ (∀ s, s < 12 → c 5 s = m (12 + 6 * s + 2)) ∧ (∀ s, s < 12 → c 6 s = m (12 + 6 * s + 3)) ∧ (∀ s, s < 12 → c 7 s = m (12 + 6 * s + 4)) ∧ (∀ s, s < 12 → c 8 s = m (12 + 6 * s + 5))) ∧
  (c 12 3 = m 9 ∧ c 12 5 = m 11) ∧ ((∀ v, v < 2 → c 1 v = 0 ∨ c 1 v = 1) ∧ (∀ s, s < 12 → c 5 s = 0 ∨ c 5 s = 1))
theorem Sim.core {c : Nat → Nat → Int32} {L : Nat → Nat} {m : Nat → Int32} (h : Sim c L m) : Core c m := by
  obtain ⟨a, b, ⟨d1, d2, d3⟩, -, -, g⟩ := h
  exact ⟨a, b, ⟨d1, d3⟩, g⟩
theorem Core.br {c : Nat → Nat → Int32} {m : Nat → Int32} (h : Core c m) {s : Nat} (hs : s < 12) : brB c s = brM m s := by
  obtain ⟨⟨-, -, a3⟩, ⟨b1, -⟩, -⟩ := h
  unfold brB brM
  rw [b1 s hs, a3 0 (by omega)]
  rfl
theorem Core.src {c : Nat → Nat → Int32} {m : Nat → Int32} (h : Core c m) {s : Nat} (hs : s < 12) : srcI c s = srcM m s := by
  obtain ⟨⟨-, a2, -⟩, -, -, g2, -⟩ := h
  unfold srcI srcM
  by_cases e : s % 4 = 0
  · rw [if_pos e, if_neg (show ¬ 0 < s % 4 by omega)]
    by_cases e0 : s = 0
    · rw [if_pos (show s / 4 = 0 by omega), if_pos e0]
    · rw [if_neg (show ¬ s / 4 = 0 by omega), if_neg e0]
      have q := a2 (s / 4 - 1) (by omega)
      rw [show 7 + s / 4 - 1 = 7 + (s / 4 - 1) by omega, ← q]
      rcases g2 (s / 4 - 1) (by omega) with v | v
      · rw [v, if_pos rfl, if_neg (by decide)]
      · rw [v, if_neg (by decide), if_pos (by decide)]
  · rw [if_neg e, if_pos (by omega)]
theorem Core.pr {c : Nat → Nat → Int32} {m : Nat → Int32} (h : Core c m) {o : Int32} {dr : Nat → Int32} (hd : ∀ z, z < 3 → dr z = dI m o z 4) {s : Nat} (hs : s < 12) : prC c dr s = prM m o s := by
  obtain ⟨⟨a1, a2, -⟩, -, -, g2, -⟩ := h
  have own : ∀ s, s < 12 → ownM m o s = clampZ (c 0 (s / 4) - nI (s % 4) - dr (s / 4)) := by
    intro s hs
    unfold ownM
    rw [owI_d, hd _ (by omega), a1 _ (by omega)]
  unfold prC prM
  rw [own s hs]
  generalize c 0 (s / 4) - nI (s % 4) - dr (s / 4) = x
  have key : ∀ z, z < 3 → ∀ x, clampZ (prL c dr z x) = pmL m o z (clampZ x) := by
    intro z
    induction z with
    | zero => intro _ x; rfl
    | succ z ih =>
      intro hz x
      rw [prL, pmL]
      have q := a2 z (by omega)
      rcases g2 z (by omega) with v | v
      · rw [if_pos v, if_neg (by rw [← q, v]; decide)]
      · rw [if_neg (by rw [v]; decide), if_pos (by rw [← q, v]; rfl), ih (by omega), clampZ_mn, own (4 * z + 3) (by omega), show (4 * z + 3) / 4 = z by omega, show (4 * z + 3) % 4 = 3 by omega]
  exact key _ (by omega) x
/-- a street's number put on both sides: w 0 dirt, 2 brown, 3 complaints, 4 flushed, 5 open hours -/
theorem Core.put {c : Nat → Nat → Int32} {m : Nat → Int32} (h : Core c m) {s w : Nat} (hs : s < 12) (hw : w < 6) (x : Int32) (h5 : w = 2 → x = 0 ∨ x = 1) : Core (vset c (3 + w) (upd (c (3 + w)) s x)) (upd m (12 + 6 * s + w) x) := by
  obtain ⟨⟨a1, a2, a3⟩, ⟨b1, b2, b3, b4, b5, b6⟩, ⟨d1, d3⟩, g2, g3⟩ := h
  have o : ∀ j, j < 12 → m j = upd m (12 + 6 * s + w) x j := fun j hj => (pk_un (by omega)).symm
  have key : ∀ v, v < 6 → (∀ y, y < 12 → c (3 + v) y = m (12 + 6 * y + v)) → ∀ y, y < 12 → vset c (3 + w) (upd (c (3 + w)) s x) (3 + v) y = upd m (12 + 6 * s + w) x (12 + 6 * y + v) := by
    intro v hv hc y hy
    by_cases e : v = w
    · subst e
      have e1 : vset c (3 + v) (upd (c (3 + v)) s x) (3 + v) = upd (c (3 + v)) s x := by unfold vset; rw [if_pos rfl]
      rw [e1]
      by_cases e2 : y = s
      · subst e2; rw [pk_us, pk_us]
      · rw [pk_un e2, pk_un (by omega)]; exact hc y hy
    · rw [vset_ne (by omega), pk_un (by omega)]; exact hc y hy
  have lo : ∀ j, j < 3 ∨ 9 ≤ j → vset c (3 + w) (upd (c (3 + w)) s x) j = c j := fun j hj => vset_ne (by omega)
  refine ⟨⟨fun y hy => by rw [lo _ (by omega)]; exact (a1 y hy).trans (o _ (by omega)), fun y hy => by rw [lo _ (by omega)]; exact (a2 y hy).trans (o _ (by omega)), fun y hy => by rw [lo _ (by omega)]; exact (a3 y hy).trans (o _ (by omega))⟩,
    ⟨key 0 (by omega) b1, key 1 (by omega) b2, key 2 (by omega) b3, key 3 (by omega) b4, key 4 (by omega) b5, key 5 (by omega) b6⟩,
    ⟨by rw [lo _ (by omega)]; exact d1.trans (o _ (by omega)), by rw [lo _ (by omega)]; exact d3.trans (o _ (by omega))⟩, fun v hv => by rw [lo _ (by omega)]; exact g2 v hv, fun y hy => ?_⟩
  by_cases e : w = 2
  · subst e
    show upd (c 5) s x y = 0 ∨ upd (c 5) s x y = 1
    by_cases e2 : y = s
    · subst e2; rw [pk_us]; exact h5 rfl
    · rw [pk_un e2]; exact g3 y hy
  · rw [vset_ne (by omega)]; exact g3 y hy
theorem Core.lost {c : Nat → Nat → Int32} {m : Nat → Int32} (h : Core c m) (x : Int32) : Core (vset c 12 (upd (c 12) 5 x)) (upd m 11 x) := by
  obtain ⟨⟨a1, a2, a3⟩, ⟨b1, b2, b3, b4, b5, b6⟩, ⟨d1, d3⟩, g2, g3⟩ := h
  have o : ∀ j, j ≠ 11 → m j = upd m 11 x j := fun j hj => (pk_un hj).symm
  refine ⟨⟨fun y hy => (a1 y hy).trans (o _ (by omega)), fun y hy => (a2 y hy).trans (o _ (by omega)), fun y hy => (a3 y hy).trans (o _ (by omega))⟩,
    ⟨fun y hy => (b1 y hy).trans (o _ (by omega)), fun y hy => (b2 y hy).trans (o _ (by omega)), fun y hy => (b3 y hy).trans (o _ (by omega)), fun y hy => (b4 y hy).trans (o _ (by omega)), fun y hy => (b5 y hy).trans (o _ (by omega)), fun y hy => (b6 y hy).trans (o _ (by omega))⟩,
    ⟨?_, ?_⟩, g2, g3⟩
  · show upd (c 12) 5 x 3 = _
    rw [pk_un (by omega)]; exact d1.trans (o _ (by omega))
  · show upd (c 12) 5 x 5 = upd m 11 x 11
    rw [pk_us, pk_us]
theorem Core.wait {c : Nat → Nat → Int32} {m : Nat → Int32} (h : Core c m) (x : Int32) : Core (vset c 12 (upd (c 12) 4 x)) m := by
  obtain ⟨a, b, ⟨d1, d3⟩, g⟩ := h
  refine ⟨a, b, ⟨?_, ?_⟩, g⟩
  · show upd (c 12) 4 x 3 = _
    rw [pk_un (by omega)]; exact d1
  · show upd (c 12) 4 x 5 = _
    rw [pk_un (by omega)]; exact d3
theorem Core.tour {c : Nat → Nat → Int32} {m : Nat → Int32} (h : Core c m) {k : Nat} (hk : k < 3) (f : Nat → Int32) : Core (vset c (9 + k) f) m := by
  obtain ⟨⟨a1, a2, a3⟩, ⟨b1, b2, b3, b4, b5, b6⟩, ⟨d1, d3⟩, g2, g3⟩ := h
  have lo : ∀ j, j < 9 ∨ 12 ≤ j → vset c (9 + k) f j = c j := fun j hj => vset_ne (by omega)
  exact ⟨⟨fun y hy => by rw [lo _ (by omega)]; exact a1 y hy, fun y hy => by rw [lo _ (by omega)]; exact a2 y hy, fun y hy => by rw [lo _ (by omega)]; exact a3 y hy⟩,
    ⟨fun y hy => by rw [lo _ (by omega)]; exact b1 y hy, fun y hy => by rw [lo _ (by omega)]; exact b2 y hy, fun y hy => by rw [lo _ (by omega)]; exact b3 y hy, fun y hy => by rw [lo _ (by omega)]; exact b4 y hy, fun y hy => by rw [lo _ (by omega)]; exact b5 y hy, fun y hy => by rw [lo _ (by omega)]; exact b6 y hy⟩,
    ⟨by rw [lo _ (by omega)]; exact d1, by rw [lo _ (by omega)]; exact d3⟩, fun v hv => by rw [lo _ (by omega)]; exact g2 v hv, fun y hy => by rw [lo _ (by omega)]; exact g3 y hy⟩
/-- dirt that comes -/
theorem Core.add {c : Nat → Nat → Int32} {m : Nat → Int32} (h : Core c m) {s : Nat} (hs : s < 12) (x : Int32) : Core (addDC c s x) (cmM m s x) := by
  have e0 : c 3 s = m (12 + 6 * s) := h.2.1.1 s hs
  have e11 : c 12 5 = m 11 := h.2.2.1.2
  unfold addDC cmM keptD
  dsimp only
  rw [pk_us]
  by_cases e : nI 999 < c 3 s + x
  · rw [if_pos e, if_neg (by rw [← e0]; exact fun q => absurd e (Int32.not_lt.mpr q))]
    have h1 := (h.put hs (show 0 < 6 by omega) (m (12 + 6 * s) + x) (fun q => absurd q (by omega))).lost (c 12 5 + (c 3 s + x - nI 999))
    have h2 := h1.put hs (show 0 < 6 by omega) (nI 999) (fun q => absurd q (by omega))
    have ec : vset (vset c 3 (upd (c 3) s (nI 999))) 12 (upd (c 12) 5 (c 12 5 + (c 3 s + x - nI 999))) = vset (vset (vset c 3 (upd (c 3) s (m (12 + 6 * s) + x))) 12 (upd (c 12) 5 (c 12 5 + (c 3 s + x - nI 999)))) 3 (upd (upd (c 3) s (m (12 + 6 * s) + x)) s (nI 999)) := by
      funext j
      unfold vset
      by_cases q3 : j = 3
      · subst q3
        rw [if_neg (by omega), if_pos rfl, if_pos rfl]
        funext y
        by_cases qy : y = s
        · subst qy; rw [pk_us, pk_us]
        · rw [pk_un qy, pk_un qy, pk_un qy]
      · rw [if_neg q3, if_neg q3, if_neg q3]
    rw [ec]
    rw [show upd m (12 + 6 * s) (m (12 + 6 * s) + x) 11 = m 11 from pk_un (by omega), ← e0, ← e11]
    rw [← e0] at h2
    exact h2
  · rw [if_neg e, if_pos (by rw [← e0]; exact Int32.not_lt.mp e), Int32.sub_self, Int32.add_zero]
    have h1 := h.put hs (show 0 < 6 by omega) (m (12 + 6 * s) + x) (fun q => absurd q (by omega))
    rw [← e0] at h1 ⊢
    have ec : vset (vset c 3 (upd (c 3) s (c 3 s + x))) 12 (upd (c 12) 5 (c 12 5)) = vset c 3 (upd (c 3) s (c 3 s + x)) := by
      funext j
      unfold vset
      by_cases q : j = 12
      · subst q
        rw [if_pos rfl, if_neg (by omega)]
        funext y
        by_cases qy : y = 5
        · subst qy; rw [pk_us]
        · rw [pk_un qy]
      · rw [if_neg q]
    rw [ec]
    exact h1
