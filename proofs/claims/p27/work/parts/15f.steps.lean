theorem minJ_mn (x y : Int32) : minJ x y = mn x y := by
  unfold minJ mn
  by_cases e : y < x
  · rw [if_pos e, if_pos (Int32.le_of_lt e)]
  · by_cases e2 : y ≤ x
    · rw [if_neg e, if_pos e2]; exact Int32.le_antisymm (Int32.not_lt.mp e) e2
    · rw [if_neg e, if_neg e2]
theorem hfA_ne (a : Nat → Int32) (k : Nat) (g : Int32) {j : Nat} (h1 : j ≠ 12 + 6 * k) (h2 : j ≠ 12 + 6 * k + 4) (h3 : j ≠ 12 + 6 * k + 5) : hfA a k g j = a j := by
  unfold hfA
  rw [pk_un h3, pk_un h2, pk_un h1]
theorem Core.flush {c : Nat → Nat → Int32} {a : Nat → Int32} (h : Core c a) {i : Nat} (hi : i < 12) (x : Int32) : Core (flC c i x) (hfA a i x) := by
  have e3 : c 3 i = a (12 + 6 * i) := h.2.1.1 i hi
  have e7 : c 7 i = a (12 + 6 * i + 4) := h.2.1.2.2.2.2.1 i hi
  have e8 : c 8 i = a (12 + 6 * i + 5) := h.2.1.2.2.2.2.2 i hi
  have h1 := h.put hi (show 0 < 6 by omega) (c 3 i - x) (fun q => absurd q (by omega))
  have h2 := h1.put hi (show 4 < 6 by omega) (c 7 i + x) (fun q => absurd q (by omega))
  have h3 := h2.put hi (show 5 < 6 by omega) (c 8 i + nI 1) (fun q => absurd q (by omega))
  have e : hfA a i x = upd (upd (upd a (12 + 6 * i + 0) (c 3 i - x)) (12 + 6 * i + 4) (c 7 i + x)) (12 + 6 * i + 5) (c 8 i + nI 1) := by
    unfold hfA
    dsimp only
    rw [show upd a (12 + 6 * i) (a (12 + 6 * i) - x) (12 + 6 * i + 4) = a (12 + 6 * i + 4) from pk_un (by omega)]
    rw [show upd (upd a (12 + 6 * i) (a (12 + 6 * i) - x)) (12 + 6 * i + 4) (a (12 + 6 * i + 4) + x) (12 + 6 * i + 5) = a (12 + 6 * i + 5) from (pk_un (by omega)).trans (pk_un (by omega))]
    rw [← e3, ← e7, ← e8]
    rfl
  rw [e]
  exact h3
theorem dI_same {a m : Nat → Int32} (h : ∀ s, s < 12 → a (12 + 6 * s + 1) = m (12 + 6 * s + 1)) (o : Int32) {z : Nat} (hz : z < 3) : ∀ j, j ≤ 4 → dI a o z j = dI m o z j
  | 0, _ => rfl
  | j + 1, hj => by rw [dI, dI, dI_same h o hz j (by omega), h _ (by omega)]
theorem hf0 (o : Int32) (k : Nat) (w : AC) (h : ¬ bitM o k = nI 1) : hfS o k w = w := by unfold hfS; rw [if_neg h]
theorem hf1 (o : Int32) (k : Nat) (w : AC) (h : bitM o k = nI 1) : hfS o k w = (hfA w.1 k (mn (prM w.1 o k * w.1 2) (w.1 (12 + 6 * k + 0))), w.2 ||| (if hfA w.1 k (mn (prM w.1 o k * w.1 2) (w.1 (12 + 6 * k + 0))) (12 + 6 * k + 0) = 0 then nI 1 <<< (nI k &&& 31) else nI 0)) := by unfold hfS; rw [if_pos h]
/-- what of the flushing is the same on both sides -/
abbrev FLR (c : Nat → Nat → Int32) (L : Nat → Nat) (m : Nat → Int32) (wk : Nat → Int32) (n : Nat) (w : CL2) (v : AC) : Prop :=
  Core w.1 v.1 ∧ w.1 12 = c 12 ∧ (∀ j, 84 ≤ j ∨ j = 10 → v.1 j = m j) ∧ (∀ s, s < 12 → v.1 (12 + 6 * s + 1) = m (12 + 6 * s + 1)) ∧ (∀ i, n ≤ i → i < 12 → ¬ bitM v.2 i = nI 1) ∧
  ∀ k, k < 3 → ((∃ i, i < n ∧ wk i = nI k ∧ bitM v.2 i = nI 1) ∧ w.1 (9 + k) = drF (L k) (c (9 + k)) ∧ w.2 k = L k - 1) ∨ ((∀ i, i < n → wk i = nI k → ¬ bitM v.2 i = nI 1) ∧ w.1 (9 + k) = c (9 + k) ∧ w.2 k = L k)
theorem fl_hf {c : Nat → Nat → Int32} {L : Nat → Nat} {m : Nat → Int32} (hc : Core c m) {o : Int32} {wk dr : Nat → Int32} (h1 : ∀ s, s < 12 → (bitM o s = nI 1 ↔ ¬ wk s = -1)) (h2 : ∀ z, z < 3 → dr z = dI m o z 4)
    (h4 : ∀ s, s < 12 → wk s = -1 ∨ ∃ k, k < 3 ∧ wk s = nI k) (hu : ∀ s t k, s < 12 → t < 12 → k < 3 → wk s = nI k → wk t = nI k → s = t) : ∀ n, n ≤ 12 → FLR c L m wk n (flI wk dr (c, L) n) (hfI o m n) := by
  intro n
  induction n with
  | zero =>
    intro _
    refine ⟨hc, rfl, fun _ _ => rfl, fun _ _ => rfl, fun i _ hi => ?_, fun k hk => Or.inr ⟨fun i hi => absurd hi (by omega), rfl, rfl⟩⟩
    show ¬ bitM (nI 0) i = nI 1
    rw [bit_0 hi]
    decide
  | succ n ih =>
    intro hn
    have ih := ih (by omega)
    rw [flI, hfI]
    revert ih
    generalize flI wk dr (c, L) n = w
    generalize hfI o m n = v
    obtain ⟨c1, L1⟩ := w
    obtain ⟨a, cl⟩ := v
    rintro ⟨i1, i2, i3, i4, i5, i6⟩
    dsimp only at i1 i2 i3 i4 i5 i6
    have hn12 : n < 12 := by omega
    rcases h4 n hn12 with e | ⟨k, hk, e⟩
    · rw [flS_m1 e, hf0 o n _ (fun q => (h1 n hn12).mp q e)]
      refine ⟨i1, i2, i3, i4, fun i q hi => i5 i (by omega) hi, fun k hk => ?_⟩
      rcases i6 k hk with ⟨⟨i, p1, p2, p3⟩, p4⟩ | ⟨p1, p2⟩
      · exact Or.inl ⟨⟨i, by omega, p2, p3⟩, p4⟩
      · refine Or.inr ⟨fun i q p => ?_, p2⟩
        by_cases qi : i = n
        · subst qi; rw [e] at p; exact absurd p.symm (nI_nm1 (by omega))
        · exact p1 i (by omega) p
    · have hb : bitM o n = nI 1 := (h1 n hn12).mpr (by rw [e]; exact nI_nm1 (by omega))
      rw [hf1 o n _ hb]
      dsimp only
      have hd : ∀ z, z < 3 → dr z = dI a o z 4 := fun z hz => (h2 z hz).trans (dI_same i4 o hz 4 (by omega)).symm
      have hx : mn (prM a o n * a 2) (a (12 + 6 * n + 0)) = minJ (prC c1 dr n * c1 2 2) (c1 3 n) := by
        rw [minJ_mn, i1.pr hd hn12, i1.1.2.2 2 (by omega), i1.2.1.1 n hn12]
        rfl
      rw [hx]
      generalize hxx : minJ (prC c1 dr n * c1 2 2) (c1 3 n) = x
      have hcf := i1.flush hn12 x
      have hz0 : flC c1 n x 3 n = hfA a n x (12 + 6 * n + 0) := hcf.2.1.1 n hn12
      have t9 : ∀ k, k < 3 → flC c1 n x (9 + k) = c1 (9 + k) := by
        intro k hk
        unfold flC
        rw [vset_ne (by omega), vset_ne (by omega), vset_ne (by omega)]
      have t12 : flC c1 n x 12 = c1 12 := rfl
      have f3 : ∀ j, 84 ≤ j ∨ j = 10 → hfA a n x j = m j := fun j hj => (hfA_ne a n x (by omega) (by omega) (by omega)).trans (i3 j hj)
      have f4 : ∀ s, s < 12 → hfA a n x (12 + 6 * s + 1) = m (12 + 6 * s + 1) := fun s hs => (hfA_ne a n x (by omega) (by omega) (by omega)).trans (i4 s hs)
      have nok : ∀ i, i < n → ¬ wk i = nI k := fun i hi p => absurd (hu i n k (by omega) hn12 hk p e) (by omega)
      by_cases z0 : flC c1 n x 3 n = 0
      · rw [flS_d (w := (c1, L1)) e hk hxx.symm z0, if_pos (hz0.symm.trans z0)]
        have bo : ∀ i, i < 12 → bitM (cl ||| (nI 1 <<< (nI n &&& 31))) i = if i = n then nI 1 else bitM cl i := fun i hi => bit_or cl hi hn12
        have hold : c1 (9 + k) = c (9 + k) ∧ L1 k = L k := by
          rcases i6 k hk with ⟨⟨i, p1, p2, p3⟩, p4⟩ | ⟨p1, p2⟩
          · exact absurd p2 (nok i p1)
          · exact p2
        refine ⟨hcf.tour hk _, ?_, f3, f4, fun i q hi => ?_, fun k2 hk2 => ?_⟩
        · show vset (flC c1 n x) (9 + k) _ 12 = c 12
          rw [vset_ne (by omega), t12]; exact i2
        · show ¬ bitM (cl ||| _) i = nI 1
          rw [bo i hi, if_neg (by omega)]; exact i5 i (by omega) hi
        · by_cases qk : k2 = k
          · subst qk
            refine Or.inl ⟨⟨n, by omega, e, ?_⟩, ?_, ?_⟩
            · show bitM (cl ||| _) n = nI 1
              rw [bo n hn12, if_pos rfl]
            · show vset (flC c1 n x) (9 + k2) (drF (L1 k2) (flC c1 n x (9 + k2))) (9 + k2) = _
              unfold vset
              rw [if_pos rfl, t9 k2 hk2, hold.1, hold.2]
            · show upN L1 k2 (L1 k2 - 1) k2 = _
              unfold upN
              rw [if_pos rfl, hold.2]
          · have e1 : vset (flC c1 n x) (9 + k) (drF (L1 k) (flC c1 n x (9 + k))) (9 + k2) = c1 (9 + k2) := by rw [vset_ne (by omega), t9 k2 hk2]
            have e2 : upN L1 k (L1 k - 1) k2 = L1 k2 := by unfold upN; rw [if_neg qk]
            rcases i6 k2 hk2 with ⟨⟨i, p1, p2, p3⟩, p4, p5⟩ | ⟨p1, p2, p3⟩
            · refine Or.inl ⟨⟨i, by omega, p2, ?_⟩, e1.trans p4, e2.trans p5⟩
              show bitM (cl ||| _) i = nI 1
              rw [bo i (by omega), if_neg (by omega)]; exact p3
            · refine Or.inr ⟨fun i q p => ?_, e1.trans p2, e2.trans p3⟩
              by_cases qi : i = n
              · subst qi; rw [e] at p; exact absurd (nI_i3 (by omega) (by omega) p).symm qk
              · show ¬ bitM (cl ||| _) i = nI 1
                rw [bo i (by omega), if_neg qi]; exact p1 i (by omega) p
      · rw [flS_nd (w := (c1, L1)) e hk hxx.symm z0, if_neg (fun q => z0 (hz0.trans q)), show cl ||| nI 0 = cl from Int32.or_zero]
        refine ⟨hcf, t12.trans i2, f3, f4, fun i q hi => i5 i (by omega) hi, fun k2 hk2 => ?_⟩
        rcases i6 k2 hk2 with ⟨⟨i, p1, p2, p3⟩, p4, p5⟩ | ⟨p1, p2, p3⟩
        · exact Or.inl ⟨⟨i, by omega, p2, p3⟩, (t9 k2 hk2).trans p4, p5⟩
        · refine Or.inr ⟨fun i q p => ?_, (t9 k2 hk2).trans p2, p3⟩
          by_cases qi : i = n
          · subst qi; exact i5 i (Nat.le_refl _) hn12
          · exact p1 i (by omega) p
