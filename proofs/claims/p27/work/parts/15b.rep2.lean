/-! the rounds on both sides -/
theorem sim_put {c : Nat → Nat → Int32} {L : Nat → Nat} {m : Nat → Int32} (h : Sim c L m) {z : Nat} (hz : z < 3) (h8 : L z < 8) {s : Nat} (hs : s < 12) :
    Sim (vset c (9 + z) (upd (c (9 + z)) (L z) (nI s))) (upN L z (L z + 1)) (upd (upd m (84 + 9 * z) (nI (L z + 1))) (84 + 9 * z + (L z + 1)) (nI s)) := by
  obtain ⟨⟨a1, a2, a3⟩, ⟨b1, b2, b3, b4, b5, b6⟩, ⟨d1, d2, d3⟩, ⟨f1, f2⟩, g1, g2, g3⟩ := h
  have o : ∀ j, j < 84 → m j = upd (upd m (84 + 9 * z) (nI (L z + 1))) (84 + 9 * z + (L z + 1)) (nI s) j := fun j hj => by rw [pk_un (by omega), pk_un (by omega)]
  have ck : ∀ j, j < 9 ∨ 12 ≤ j → vset c (9 + z) (upd (c (9 + z)) (L z) (nI s)) j = c j := fun j hj => vset_ne (by omega)
  refine ⟨⟨fun y hy => by rw [ck _ (by omega)]; exact (a1 y hy).trans (o _ (by omega)), fun y hy => by rw [ck _ (by omega)]; exact (a2 y hy).trans (o _ (by omega)), fun y hy => by rw [ck _ (by omega)]; exact (a3 y hy).trans (o _ (by omega))⟩,
    ⟨fun y hy => by rw [ck _ (by omega)]; exact (b1 y hy).trans (o _ (by omega)), fun y hy => by rw [ck _ (by omega)]; exact (b2 y hy).trans (o _ (by omega)), fun y hy => by rw [ck _ (by omega)]; exact (b3 y hy).trans (o _ (by omega)), fun y hy => by rw [ck _ (by omega)]; exact (b4 y hy).trans (o _ (by omega)), fun y hy => by rw [ck _ (by omega)]; exact (b5 y hy).trans (o _ (by omega)), fun y hy => by rw [ck _ (by omega)]; exact (b6 y hy).trans (o _ (by omega))⟩,
    ⟨by rw [ck _ (by omega)]; exact d1.trans (o _ (by omega)), by rw [ck _ (by omega)]; exact d2.trans (o _ (by omega)), by rw [ck _ (by omega)]; exact d3.trans (o _ (by omega))⟩, ⟨fun k hk => ?_, fun k hk j hj => ?_⟩, fun k hk => ⟨?_, fun j hj => ?_⟩, fun y hy => by rw [ck _ (by omega)]; exact g2 y hy, fun y hy => by rw [ck _ (by omega)]; exact g3 y hy⟩
  · rw [pk_un (by omega)]
    unfold upN
    by_cases e : k = z
    · subst e; rw [pk_us, if_pos rfl]
    · rw [pk_un (by omega), if_neg e]; exact f1 k hk
  · unfold upN at hj
    by_cases e : k = z
    · subst e
      rw [if_pos rfl] at hj
      have e1 : vset c (9 + k) (upd (c (9 + k)) (L k) (nI s)) (9 + k) = upd (c (9 + k)) (L k) (nI s) := by unfold vset; rw [if_pos rfl]
      rw [e1]
      by_cases e2 : j = L k
      · subst e2; rw [pk_us, show 84 + 9 * k + 1 + L k = 84 + 9 * k + (L k + 1) by omega, pk_us]
      · rw [pk_un e2, pk_un (by omega), pk_un (by omega)]; exact f2 k hk j (by omega)
    · rw [if_neg e] at hj
      rw [vset_ne (by omega)]
      have h3 := (g1 k hk).1
      rw [pk_un (by omega), pk_un (by omega)]; exact f2 k hk j hj
  · unfold upN
    split
    · omega
    · exact (g1 k hk).1
  · unfold upN at hj
    by_cases e : k = z
    · subst e
      rw [if_pos rfl] at hj
      have e1 : vset c (9 + k) (upd (c (9 + k)) (L k) (nI s)) (9 + k) = upd (c (9 + k)) (L k) (nI s) := by unfold vset; rw [if_pos rfl]
      rw [e1]
      by_cases e2 : j = L k
      · subst e2; rw [pk_us]; exact ⟨s, hs, rfl⟩
      · rw [pk_un e2]; exact (g1 k hk).2 j (by omega)
    · rw [if_neg e] at hj
      rw [vset_ne (by omega)]; exact (g1 k hk).2 j hj
/-- the first street of a round, on both sides -/
theorem sim_first {c : Nat → Nat → Int32} {L : Nat → Nat} {m : Nat → Int32} (h : Sim c L m) {k : Nat} (hk : k < 3) : tAt (L k) (c (9 + k)) (nI 0) = frM m k := by
  obtain ⟨-, -, -, ⟨f1, f2⟩, g1, -⟩ := h
  rw [tAt_0]
  unfold frM
  rw [show m (84 + 9 * k) = nI (L k) from f1 k hk]
  have h8 := (g1 k hk).1
  by_cases e : L k = 0
  · rw [e]; rfl
  · rw [if_pos (by omega), if_neg (nI_ne0 (by omega) (by omega))]
    exact f2 k hk 0 (by omega)
/-- a round's first street taken out, on both sides -/
theorem sim_skip {c : Nat → Nat → Int32} {L : Nat → Nat} {m : Nat → Int32} (h : Sim c L m) {z : Nat} (hz : z < 3) :
    Sim (vset c (9 + z) (drF (L z) (c (9 + z)))) (upN L z (L z - 1)) (if frM m z = -1 then m else skM m z) := by
  have hor := frM_or h.okM hz
  have hfirst := sim_first h hz
  have h0 := h
  obtain ⟨⟨a1, a2, a3⟩, ⟨b1, b2, b3, b4, b5, b6⟩, ⟨d1, d2, d3⟩, ⟨f1, f2⟩, g1, g2, g3⟩ := h
  have h8 := (g1 z hz).1
  by_cases e : L z = 0
  · have e1 : frM m z = -1 := by unfold frM; rw [show m (84 + 9 * z) = nI (L z) from f1 z hz, e]; rfl
    rw [if_pos e1, e]
    have e2 : vset c (9 + z) (drF 0 (c (9 + z))) = c := by unfold drF; rw [if_pos rfl]; exact vset_self c (9 + z)
    have e3 : upN L z (0 - 1) = L := by funext j; unfold upN; split <;> simp_all
    rw [e2, e3]
    exact h0
  · have e1 : ¬ frM m z = -1 := by
      rcases hor with q | ⟨t, _, q⟩
      · exfalso
        unfold frM at q
        rw [show m (84 + 9 * z) = nI (L z) from f1 z hz, if_neg (nI_ne0 (by omega) (by omega))] at q
        obtain ⟨t, ht, q2⟩ := (g1 z hz).2 0 (by omega)
        have q3 := f2 z hz 0 (by omega)
        rw [q2] at q3
        rw [show 84 + 9 * z + 1 + 0 = 84 + 9 * z + 1 by omega] at q3
        rw [← q3] at q
        exact absurd q (nI_nm1 (by omega))
      · rw [q]; exact nI_nm1 (by omega)
    rw [if_neg e1]
    have es : skM m z = skI m (84 + 9 * z) (L z) (L z) := by unfold skM; rw [show m (84 + 9 * z) = nI (L z) from f1 z hz, nIcl (by omega)]
    rw [es]
    have ed : drF (L z) (c (9 + z)) = shf (c (9 + z)) := by unfold drF; rw [if_neg e]
    rw [ed]
    have o : ∀ j, j < 84 → m j = skI m (84 + 9 * z) (L z) (L z) j := fun j hj => by unfold skI; rw [if_neg (by omega), if_neg (by omega)]
    have ck : ∀ j, j < 9 ∨ 12 ≤ j → vset c (9 + z) (shf (c (9 + z))) j = c j := fun j hj => vset_ne (by omega)
    have e9 : vset c (9 + z) (shf (c (9 + z))) (9 + z) = shf (c (9 + z)) := by unfold vset; rw [if_pos rfl]
    refine ⟨⟨fun y hy => by rw [ck _ (by omega)]; exact (a1 y hy).trans (o _ (by omega)), fun y hy => by rw [ck _ (by omega)]; exact (a2 y hy).trans (o _ (by omega)), fun y hy => by rw [ck _ (by omega)]; exact (a3 y hy).trans (o _ (by omega))⟩,
      ⟨fun y hy => by rw [ck _ (by omega)]; exact (b1 y hy).trans (o _ (by omega)), fun y hy => by rw [ck _ (by omega)]; exact (b2 y hy).trans (o _ (by omega)), fun y hy => by rw [ck _ (by omega)]; exact (b3 y hy).trans (o _ (by omega)), fun y hy => by rw [ck _ (by omega)]; exact (b4 y hy).trans (o _ (by omega)), fun y hy => by rw [ck _ (by omega)]; exact (b5 y hy).trans (o _ (by omega)), fun y hy => by rw [ck _ (by omega)]; exact (b6 y hy).trans (o _ (by omega))⟩,
      ⟨by rw [ck _ (by omega)]; exact d1.trans (o _ (by omega)), by rw [ck _ (by omega)]; exact d2.trans (o _ (by omega)), by rw [ck _ (by omega)]; exact d3.trans (o _ (by omega))⟩, ⟨fun k hk => ?_, fun k hk j hj => ?_⟩, fun k hk => ⟨?_, fun j hj => ?_⟩, fun y hy => by rw [ck _ (by omega)]; exact g2 y hy, fun y hy => by rw [ck _ (by omega)]; exact g3 y hy⟩
    · by_cases q : k = z
      · subst q; unfold skI upN; rw [if_pos rfl, if_pos rfl]
      · unfold skI upN; rw [if_neg (by omega), if_neg (by omega), if_neg q]; exact f1 k hk
    · by_cases q : k = z
      · subst q
        have hj : j < L k - 1 := by unfold upN at hj; rw [if_pos rfl] at hj; exact hj
        rw [e9]
        unfold shf skI
        rw [if_pos (by omega), if_neg (by omega), if_pos (by omega)]
        exact f2 k hk (j + 1) (by omega)
      · have hj : j < L k := by unfold upN at hj; rw [if_neg q] at hj; exact hj
        have h3 := (g1 k hk).1
        rw [vset_ne (by omega)]
        unfold skI
        rw [if_neg (by omega), if_neg (by omega)]
        exact f2 k hk j hj
    · have h3 := (g1 k hk).1
      unfold upN
      split <;> omega
    · by_cases q : k = z
      · subst q
        have hj : j < L k - 1 := by unfold upN at hj; rw [if_pos rfl] at hj; exact hj
        rw [e9]
        unfold shf
        rw [if_pos (by omega)]
        exact (g1 k hk).2 (j + 1) (by omega)
      · have hj : j < L k := by unfold upN at hj; rw [if_neg q] at hj; exact hj
        rw [vset_ne (by omega)]; exact (g1 k hk).2 j hj
