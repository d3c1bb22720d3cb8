theorem Sim.mk2 {c : Nat → Nat → Int32} {L : Nat → Nat} {m : Nat → Int32} (h : Core c m) (hw : c 12 4 = m 10) (hf : (∀ k, k < 3 → m (84 + 9 * k) = nI (L k)) ∧ (∀ k, k < 3 → ∀ j, j < L k → c (9 + k) j = m (84 + 9 * k + 1 + j))) (ht : okT c L) : Sim c L m :=
  ⟨h.1, h.2.1, ⟨h.2.2.1.1, hw, h.2.2.1.2⟩, hf, ht, h.2.2.2⟩
theorem Sim.wait {c : Nat → Nat → Int32} {L : Nat → Nat} {m : Nat → Int32} (h : Sim c L m) (x : Int32) : Sim (vset c 12 (upd (c 12) 4 x)) L (upd m 10 x) := by
  obtain ⟨⟨a1, a2, a3⟩, ⟨b1, b2, b3, b4, b5, b6⟩, ⟨d1, d2, d3⟩, ⟨f1, f2⟩, g1, g2, g3⟩ := h
  have o : ∀ j, j ≠ 10 → m j = upd m 10 x j := fun j hj => (pk_un hj).symm
  have lo : ∀ j, j ≠ 12 → vset c 12 (upd (c 12) 4 x) j = c j := fun j hj => vset_ne hj
  refine ⟨⟨fun y hy => (a1 y hy).trans (o _ (by omega)), fun y hy => (a2 y hy).trans (o _ (by omega)), fun y hy => (a3 y hy).trans (o _ (by omega))⟩,
    ⟨fun y hy => (b1 y hy).trans (o _ (by omega)), fun y hy => (b2 y hy).trans (o _ (by omega)), fun y hy => (b3 y hy).trans (o _ (by omega)), fun y hy => (b4 y hy).trans (o _ (by omega)), fun y hy => (b5 y hy).trans (o _ (by omega)), fun y hy => (b6 y hy).trans (o _ (by omega))⟩,
    ⟨?_, ?_, ?_⟩, ⟨fun k hk => (o _ (by omega)).symm.trans (f1 k hk), fun k hk j hj => ?_⟩, fun k hk => ?_, g2, g3⟩
  · show upd (c 12) 4 x 3 = _
    rw [pk_un (by omega)]; exact d1.trans (o _ (by omega))
  · show upd (c 12) 4 x 4 = upd m 10 x 10
    rw [pk_us, pk_us]
  · show upd (c 12) 4 x 5 = _
    rw [pk_un (by omega)]; exact d3.trans (o _ (by omega))
  · rw [lo _ (by omega)]; exact (f2 k hk j hj).trans (o _ (by omega))
  · rw [lo _ (by omega)]; exact g1 k hk
theorem Sim.hours {c : Nat → Nat → Int32} {L : Nat → Nat} {m : Nat → Int32} (h : Sim c L m) (x : Int32) : Sim (vset c 12 (upd (c 12) 3 x)) L (upd m 9 x) := by
  obtain ⟨⟨a1, a2, a3⟩, ⟨b1, b2, b3, b4, b5, b6⟩, ⟨d1, d2, d3⟩, ⟨f1, f2⟩, g1, g2, g3⟩ := h
  have o : ∀ j, j ≠ 9 → m j = upd m 9 x j := fun j hj => (pk_un hj).symm
  have lo : ∀ j, j ≠ 12 → vset c 12 (upd (c 12) 3 x) j = c j := fun j hj => vset_ne hj
  refine ⟨⟨fun y hy => (a1 y hy).trans (o _ (by omega)), fun y hy => (a2 y hy).trans (o _ (by omega)), fun y hy => (a3 y hy).trans (o _ (by omega))⟩,
    ⟨fun y hy => (b1 y hy).trans (o _ (by omega)), fun y hy => (b2 y hy).trans (o _ (by omega)), fun y hy => (b3 y hy).trans (o _ (by omega)), fun y hy => (b4 y hy).trans (o _ (by omega)), fun y hy => (b5 y hy).trans (o _ (by omega)), fun y hy => (b6 y hy).trans (o _ (by omega))⟩,
    ⟨?_, ?_, ?_⟩, ⟨fun k hk => (o _ (by omega)).symm.trans (f1 k hk), fun k hk j hj => ?_⟩, fun k hk => ?_, g2, g3⟩
  · show upd (c 12) 3 x 3 = upd m 9 x 9
    rw [pk_us, pk_us]
  · show upd (c 12) 3 x 4 = _
    rw [pk_un (by omega)]; exact d2.trans (o _ (by omega))
  · show upd (c 12) 3 x 5 = _
    rw [pk_un (by omega)]; exact d3.trans (o _ (by omega))
  · rw [lo _ (by omega)]; exact (f2 k hk j hj).trans (o _ (by omega))
  · rw [lo _ (by omega)]; exact g1 k hk
theorem Sim.ext {c d : Nat → Nat → Int32} {L M : Nat → Nat} {m : Nat → Int32} (h : Sim c L m) (e : ∀ j, j < 12 → d j = c j) (e3 : d 12 3 = c 12 3) (e4 : d 12 4 = c 12 4) (e5 : d 12 5 = c 12 5) (hL : ∀ k, k < 3 → M k = L k) : Sim d M m := by
  obtain ⟨⟨a1, a2, a3⟩, ⟨b1, b2, b3, b4, b5, b6⟩, ⟨d1, d2, d3⟩, ⟨f1, f2⟩, g1, g2, g3⟩ := h
  refine ⟨⟨fun y hy => by rw [e _ (by omega)]; exact a1 y hy, fun y hy => by rw [e _ (by omega)]; exact a2 y hy, fun y hy => by rw [e _ (by omega)]; exact a3 y hy⟩,
    ⟨fun y hy => by rw [e _ (by omega)]; exact b1 y hy, fun y hy => by rw [e _ (by omega)]; exact b2 y hy, fun y hy => by rw [e _ (by omega)]; exact b3 y hy, fun y hy => by rw [e _ (by omega)]; exact b4 y hy, fun y hy => by rw [e _ (by omega)]; exact b5 y hy, fun y hy => by rw [e _ (by omega)]; exact b6 y hy⟩,
    ⟨e3.trans d1, e4.trans d2, e5.trans d3⟩, ⟨fun k hk => by rw [hL k hk]; exact f1 k hk, fun k hk j hj => ?_⟩, fun k hk => ?_, fun v hv => by rw [e _ (by omega)]; exact g2 v hv, fun y hy => by rw [e _ (by omega)]; exact g3 y hy⟩
  · rw [hL k hk] at hj
    rw [e _ (by omega)]; exact f2 k hk j hj
  · rw [hL k hk, e _ (by omega)]; exact g1 k hk
theorem waI_t {re : Nat → Int32} {c : Nat → Nat → Int32} {j : Nat} (h : j ≠ 12) : ∀ n, waI re c n j = c j
  | 0 => rfl
  | n + 1 => by
    rw [waI]
    split
    · exact waI_t h n
    · rw [vset_ne h]; exact waI_t h n
theorem waI_core {re : Nat → Int32} {c : Nat → Nat → Int32} {m : Nat → Int32} (h : Core c m) : ∀ n, Core (waI re c n) m
  | 0 => h
  | n + 1 => by
    rw [waI]
    split
    · exact waI_core h n
    · exact (waI_core h n).wait _
theorem waI_4 (re : Nat → Int32) (c : Nat → Nat → Int32) (n : Nat) : waI re c (n + 1) 12 4 = waI re c n 12 4 + (if re n ≤ 0 then nI 0 else nI 1) := by
  rw [waI]
  by_cases e : re n ≤ 0
  · rw [if_pos e, if_pos e]; exact (Int32.add_zero _).symm
  · rw [if_neg e, if_neg e]
    show upd (waI re c n 12) 4 _ 4 = _
    exact pk_us
/-- the crews' end of the hour: waits told, streets done with dropped -/
theorem hw_sim {c g : Nat → Nat → Int32} {L : Nat → Nat} {a : Nat → Int32} {re wh : Nat → Int32} {cl : Int32} (h : Sim g L a) (hw : ∀ k, k < 3 → re k = wh k) (h12 : g 12 4 = c 12 4) (hq : ∀ k, k < 3 → wh k = 0 → ¬ frM a k = -1) : ∀ n, n ≤ 3 → ∃ cV LV, Sim cV LV (hwI wh cl a n) ∧ (∀ j, j < 9 → cV j = g j) ∧ cV 12 3 = g 12 3 ∧ cV 12 5 = g 12 5 ∧ cV 12 4 = waI re c n 12 4 ∧
    (∀ k, k < 3 → (k < n ∧ (wh k = 0 ∧ (cl >>> (frM a k &&& 31)) &&& nI 1 = nI 1) ∧ cV (9 + k) = drF (L k) (g (9 + k)) ∧ LV k = L k - 1) ∨ ((k < n → ¬ (wh k = 0 ∧ (cl >>> (frM a k &&& 31)) &&& nI 1 = nI 1)) ∧ cV (9 + k) = g (9 + k) ∧ LV k = L k)) := by
  intro n
  induction n with
  | zero => intro _; exact ⟨g, L, h, fun _ _ => rfl, rfl, rfl, h12, fun k hk => Or.inr ⟨fun q => absurd q (by omega), rfl, rfl⟩⟩
  | succ n ih =>
    intro hn
    obtain ⟨cV, LV, s1, s2, s3, s4, s5, s6⟩ := ih (by omega)
    have hn3 : n < 3 := by omega
    rw [hwI]
    revert s1
    generalize hwI wh cl a n = b
    intro s1
    have sw := s1.wait (b 10 + (if wh n ≤ 0 then nI 0 else nI 1))
    have e4 : cV 12 4 = b 10 := s1.2.2.1.2.1
    have e45 : b 10 + (if wh n ≤ 0 then nI 0 else nI 1) = waI re c (n + 1) 12 4 := by rw [waI_4, ← s5, e4, hw n hn3]
    obtain ⟨tn1, tn2⟩ : cV (9 + n) = g (9 + n) ∧ LV n = L n := by
      rcases s6 n hn3 with ⟨q, -⟩ | ⟨-, q⟩
      · omega
      · exact q
    unfold hwS
    dsimp only
    revert sw
    generalize b 10 + (if wh n ≤ 0 then nI 0 else nI 1) = x at e45
    intro sw
    have hfr : frM (upd b 10 x) n = frM a n := by
      rw [← sim_first sw hn3, ← sim_first h hn3, vset_ne (show 9 + n ≠ 12 by omega), tn1, tn2]
    rw [hfr]
    have fin0 : ¬ (wh n = 0 ∧ (cl >>> (frM a n &&& 31)) &&& nI 1 = nI 1) → ∃ cV2 LV2, Sim cV2 LV2 (upd b 10 x) ∧ (∀ j, j < 9 → cV2 j = g j) ∧ cV2 12 3 = g 12 3 ∧ cV2 12 5 = g 12 5 ∧ cV2 12 4 = waI re c (n + 1) 12 4 ∧
      (∀ k, k < 3 → (k < n + 1 ∧ (wh k = 0 ∧ (cl >>> (frM a k &&& 31)) &&& nI 1 = nI 1) ∧ cV2 (9 + k) = drF (L k) (g (9 + k)) ∧ LV2 k = L k - 1) ∨ ((k < n + 1 → ¬ (wh k = 0 ∧ (cl >>> (frM a k &&& 31)) &&& nI 1 = nI 1)) ∧ cV2 (9 + k) = g (9 + k) ∧ LV2 k = L k)) := by
      intro hno
      refine ⟨_, _, sw, fun j hj => (vset_ne (by omega)).trans (s2 j hj), ?_, ?_, ?_, fun k hk => ?_⟩
      · show upd (cV 12) 4 x 3 = _
        rw [pk_un (by omega)]; exact s3
      · show upd (cV 12) 4 x 5 = _
        rw [pk_un (by omega)]; exact s4
      · show upd (cV 12) 4 x 4 = _
        rw [pk_us]; exact e45
      · rw [vset_ne (show 9 + k ≠ 12 by omega)]
        rcases s6 k hk with ⟨q1, q2⟩ | ⟨q1, q2⟩
        · exact Or.inl ⟨by omega, q2⟩
        · refine Or.inr ⟨fun q => ?_, q2⟩
          by_cases e : k = n
          · subst e; exact hno
          · exact q1 (by omega)
    by_cases w0 : wh n = 0
    · rw [if_pos w0]
      by_cases b1 : (cl >>> (frM a n &&& 31)) &&& nI 1 = nI 1
      · rw [if_pos b1]
        have sk := sim_skip sw hn3
        by_cases f1 : frM (upd b 10 x) n = -1
        · exfalso
          rw [hfr] at f1
          exact hq n hn3 w0 f1
        · rw [if_neg f1] at sk
          refine ⟨_, _, sk, fun j hj => ?_, ?_, ?_, ?_, fun k hk => ?_⟩
          · rw [vset_ne (by omega), vset_ne (by omega)]; exact s2 j hj
          · rw [vset_ne (by omega)]
            show upd (cV 12) 4 x 3 = _
            rw [pk_un (by omega)]; exact s3
          · rw [vset_ne (by omega)]
            show upd (cV 12) 4 x 5 = _
            rw [pk_un (by omega)]; exact s4
          · rw [vset_ne (by omega)]
            show upd (cV 12) 4 x 4 = _
            rw [pk_us]; exact e45
          · by_cases e : k = n
            · subst e
              refine Or.inl ⟨by omega, ⟨w0, b1⟩, ?_, ?_⟩
              · have ev : ∀ (d : Nat → Nat → Int32) (f : Nat → Int32), vset d (9 + k) f (9 + k) = f := fun d f => by unfold vset; rw [if_pos rfl]
                rw [ev, vset_ne (show 9 + k ≠ 12 by omega), tn1, tn2]
              · unfold upN; rw [if_pos rfl, tn2]
            · rw [vset_ne (by omega), vset_ne (by omega), show upN LV n (LV n - 1) k = LV k from if_neg e]
              rcases s6 k hk with ⟨q1, q2⟩ | ⟨q1, q2⟩
              · exact Or.inl ⟨by omega, q2⟩
              · exact Or.inr ⟨fun q => q1 (by omega), q2⟩
      · rw [if_neg b1]
        exact fin0 (fun q => b1 q.2)
    · rw [if_neg w0]
      exact fin0 (fun q => w0 q.1)
theorem la_m1 {a wh : Nat → Int32} {k : Nat} (hk : frM a k = -1) : ∀ n, k < n → (laI a wh n).2 k = -1 := by
  intro n
  induction n with
  | zero => intro h; omega
  | succ n ih =>
    intro h
    rw [laI]
    by_cases e : k = n
    · subst e
      rw [laS_m1 hk]
      exact pk_us
    · have := ih (by omega)
      unfold laS
      split
      · exact (pk_un e).trans this
      · exact (pk_un e).trans this
theorem frM_congr {a b : Nat → Int32} (h : ∀ j, 84 ≤ j ∨ j = 10 → a j = b j) (k : Nat) : frM a k = frM b k := by
  unfold frM
  rw [h _ (by omega), h _ (by omega)]
theorem play_sim2 {c : Nat → Nat → Int32} {L : Nat → Nat} {m : Nat → Int32} (h : Sim c L m) {f g re wk2 dr2 re2 : Nat → Int32} (hw : (wk2, dr2, re2) = opI c L (fillF f 12 (-1), fillF g 3 (nI 0), re) 3) : Sim (playF c L wk2 dr2 re2).1 (playF c L wk2 dr2 re2).2 (hourF m) := by
  have hol := op_la h f g re (fun _ => 0) 3 (Nat.le_refl 3)
  have hm1 : ∀ k, k < 3 → (laI m (fun _ => 0) 3).2 k = 0 → ¬ frM m k = -1 := fun k hk q e => by
    rw [la_m1 e 3 hk] at q
    exact absurd q (by decide)
  rw [← hw] at hol
  unfold hourF hourM playF
  dsimp only
  revert hol hm1
  generalize laI m (fun _ => 0) 3 = v
  obtain ⟨o, wh⟩ := v
  rintro ⟨o1, o2, o3, o4, o5⟩ hm1
  dsimp only at o1 o2 o3 o4 o5 hm1 ⊢
  have hu : ∀ s t k, s < 12 → t < 12 → k < 3 → wk2 s = nI k → wk2 t = nI k → s = t := fun s t k hs ht hk p q => nI_i3 (by omega) (by omega) (((o5 s hs k hk).mp p).2.symm.trans ((o5 t ht k hk).mp q).2)
  have hfl := fl_hf (L := L) (waI_core (re := re2) h.core 3) o1 o2 o4 hu 12 (Nat.le_refl 12)
  revert hfl
  generalize flI wk2 dr2 (waI re2 c 3, L) 12 = w1
  generalize hfI o m 12 = v1
  obtain ⟨c1, L1⟩ := w1
  obtain ⟨a1, cl⟩ := v1
  rintro ⟨p1, p2, p3, -, -, p6⟩
  dsimp only at p1 p2 p3 p6 ⊢
  have hca := ca_hc p1 o1 11 (Nat.le_refl 11)
  revert hca
  generalize caI wk2 c1 12 = c2
  generalize hcI o a1 11 = a2
  rintro ⟨q1, q2, q3, q4⟩
  have hco := co_hg q1 12 (Nat.le_refl 12)
  revert hco
  generalize coI (adI c2 12) 12 = c3
  generalize hgI a2 12 = a3
  rintro ⟨r1, r2, r3, r4⟩
  have am : ∀ j, 84 ≤ j ∨ j = 10 → a3 j = m j := fun j hj => (r4 j hj).trans ((q4 j hj).trans (p3 j hj))
  obtain ⟨gg, hg⟩ : ∃ gg, gg = vset (vset (vset (vset c3 12 (upd (c3 12) 4 (c 12 4))) (9 + 0) (c 9)) (9 + 1) (c 10)) (9 + 2) (c 11) := ⟨_, rfl⟩
  have g12 : gg 12 = upd (c3 12) 4 (c 12 4) := by rw [hg, vset_ne (by omega), vset_ne (by omega), vset_ne (by omega)]; rfl
  have gt : ∀ k, k < 3 → gg (9 + k) = c (9 + k) := by
    intro k hk
    rcases (show k = 0 ∨ k = 1 ∨ k = 2 by omega) with e | e | e
    · subst e; rw [hg]; rfl
    · subst e; rw [hg]; rfl
    · subst e; rw [hg]; rfl
  have glo : ∀ j, j < 9 → gg j = c3 j := fun j hj => by rw [hg, vset_ne (by omega), vset_ne (by omega), vset_ne (by omega), vset_ne (by omega)]
  have g3 : gg 12 3 = c3 12 3 := by rw [g12]; exact pk_un (by omega)
  have g5 : gg 12 5 = c3 12 5 := by rw [g12]; exact pk_un (by omega)
  have g4 : gg 12 4 = c 12 4 := by rw [g12]; exact pk_us
  have gc : Core gg a3 := by rw [hg]; exact (((r1.wait _).tour (by omega) _).tour (by omega) _).tour (by omega) _
  have gs : Sim gg L a3 := by
    refine Sim.mk2 gc (g4.trans (h.2.2.1.2.1.trans (am 10 (by omega)).symm)) ⟨fun k hk => (am _ (by omega)).trans (h.2.2.2.1.1 k hk), fun k hk j hj => ?_⟩ (fun k hk => ?_)
    · rw [gt k hk]; exact (h.2.2.2.1.2 k hk j hj).trans (am _ (by omega)).symm
    · rw [gt k hk]; exact h.2.2.2.2.1 k hk
  have fa : ∀ k, frM a3 k = frM m k := frM_congr am
  obtain ⟨cV, LV, s1, s2, s3, s4, s5, s6⟩ := hw_sim (c := c) (re := re2) (wh := wh) (cl := cl) gs o3 g4 (fun k hk q e => hm1 k hk q ((fa k).symm.trans e)) 3 (Nat.le_refl 3)
  have e9 : cV 12 3 = hwI wh cl a3 3 9 := s1.2.2.1.1
  have sf := s1.hours (hwI wh cl a3 3 9 + nI 1)
  have same : ∀ k, k < 3 → c1 (9 + k) = cV (9 + k) ∧ L1 k = LV k := by
    intro k hk
    have tw : waI re2 c 3 (9 + k) = c (9 + k) := waI_t (by omega) 3
    rcases p6 k hk with ⟨⟨i, x1, x2, x3⟩, x4, x5⟩ | ⟨x1, x2, x3⟩
    · obtain ⟨y1, y2⟩ := (o5 i x1 k hk).mp x2
      rcases s6 k hk with ⟨-, -, z1, z2⟩ | ⟨z0, -⟩
      · exact ⟨by rw [x4, z1, tw, gt k hk], x5.trans z2.symm⟩
      · exact absurd ⟨y1, by rw [fa, y2]; exact x3⟩ (z0 hk)
    · rcases s6 k hk with ⟨-, ⟨y1, y2⟩, -⟩ | ⟨-, z1, z2⟩
      · exfalso
        rw [fa] at y2
        rcases frM_or h.okM hk with q | ⟨t, ht, q⟩
        · exact hm1 k hk y1 q
        · rw [q] at y2
          exact x1 t ht ((o5 t ht k hk).mpr ⟨y1, q⟩) y2
      · exact ⟨by rw [x2, z1, tw, gt k hk], x3.trans z2.symm⟩
  refine Sim.ext sf (fun j hj => ?_) ?_ ?_ ?_ (fun k hk => (same k hk).2)
  · rw [vset_ne (by omega), vset_ne (by omega)]
    by_cases e : j < 9
    · exact ((s2 j e).trans (glo j e)).symm
    · obtain ⟨k, hk, rfl⟩ : ∃ k, k < 3 ∧ j = 9 + k := ⟨j - 9, by omega, by omega⟩
      exact (r2 k hk).trans ((q2 k hk).trans (same k hk).1)
  · show upd (c3 12) 3 (c3 12 3 + nI 1) 3 = upd (cV 12) 3 (hwI wh cl a3 3 9 + nI 1) 3
    rw [pk_us, pk_us, ← e9, s3, g3]
  · show upd (c3 12) 3 (c3 12 3 + nI 1) 4 = upd (cV 12) 3 (hwI wh cl a3 3 9 + nI 1) 4
    rw [pk_un (by omega), pk_un (by omega), s5, r3, q3]
    exact congrFun p2 4
  · show upd (c3 12) 3 (c3 12 3 + nI 1) 5 = upd (cV 12) 3 (hwI wh cl a3 3 9 + nI 1) 5
    rw [pk_un (by omega), pk_un (by omega), s4, g5]
