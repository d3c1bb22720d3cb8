theorem cmM_ne (a : Nat → Int32) (s : Nat) (x : Int32) {j : Nat} (h1 : j ≠ 12 + 6 * s) (h2 : j ≠ 11) : cmM a s x j = a j := by
  unfold cmM
  try dsimp only
  split
  · exact pk_un h1
  · rw [pk_un h1, pk_un h2, pk_un h1]
theorem addDC_12 (c : Nat → Nat → Int32) (s : Nat) (x : Int32) : addDC c s x 12 4 = c 12 4 := by
  unfold addDC
  exact (pk_un (f := c 12) (k := 5) (j := 4) (x := c 12 5 + (c 3 s + x - keptD (c 3 s + x))) (by omega))
/-- what the later steps leave as it was -/
abbrev Fr (c c0 : Nat → Nat → Int32) (a a0 : Nat → Int32) : Prop := (∀ k, k < 3 → c (9 + k) = c0 (9 + k)) ∧ c 12 4 = c0 12 4 ∧ ∀ j, 84 ≤ j ∨ j = 10 → a j = a0 j
theorem ca_hc {c : Nat → Nat → Int32} {a : Nat → Int32} (hc : Core c a) {o : Int32} {wk : Nat → Int32} (h1 : ∀ s, s < 12 → (bitM o s = nI 1 ↔ ¬ wk s = -1)) : ∀ d, d ≤ 11 → Core (caI wk c (d + 1)) (hcI o a d) ∧ Fr (caI wk c (d + 1)) c (hcI o a d) a := by
  intro d
  induction d with
  | zero =>
    intro _
    have e : caI wk c 1 = c := by
      show caS wk 11 c = c
      exact caS_a (by unfold fedI; rw [if_pos (by omega)])
    rw [e]
    exact ⟨hc, fun _ _ => rfl, rfl, fun _ _ => rfl⟩
  | succ d ih =>
    intro hd
    obtain ⟨i1, i2, i3, i4⟩ := ih (by omega)
    rw [caI, hcI]
    revert i1 i2 i3 i4
    generalize caI wk c (d + 1) = c1
    generalize hcI o a d = a1
    intro i1 i2 i3 i4
    rw [show 11 - (d + 1) = 10 - d by omega]
    have hk : 10 - d < 11 := by omega
    generalize 10 - d = k at hk
    unfold caS hcS
    have hf : fedI c1 k = if srcM a1 (k + 1) = nI k then nI (k + 1) else -1 := by unfold fedI; rw [if_neg (by omega), i1.src (by omega)]
    rw [hf]
    have hz : (bitM o k = 0) ↔ wk k = -1 := by
      have q := h1 k (by omega)
      rcases bit_01 o (show k < 12 by omega) with b | b
      · rw [b] at q ⊢
        exact ⟨fun _ => Classical.not_not.mp (fun z => absurd (q.mpr z) (by decide)), fun _ => rfl⟩
      · rw [b] at q ⊢
        exact ⟨fun z => absurd z (by decide), fun z => absurd z (q.mp rfl)⟩
    by_cases e1 : srcM a1 (k + 1) = nI k
    · rw [if_pos e1, if_pos e1, if_neg (nI_nm1 (by omega))]
      by_cases e2 : wk k = -1
      · rw [if_pos e2, if_pos (hz.mpr e2)]
        have e0 : c1 3 k = a1 (12 + 6 * k) := i1.2.1.1 k (by omega)
        rw [show a1 (12 + 6 * k + 0) = c1 3 k from e0.symm]
        have p := i1.put (show k < 12 by omega) (show 0 < 6 by omega) (c1 3 k - c1 3 k / nI 10) (fun q => absurd q (by omega))
        have p2 := p.add (show k + 1 < 12 by omega) (c1 3 k / nI 10)
        rw [← e0]
        refine ⟨p2, fun k hk => ?_, ?_, fun j hj => ?_⟩
        · rw [addDC_ne (by omega) (by omega), vset_ne (by omega)]; exact i2 k hk
        · rw [addDC_12]; exact i3
        · rw [cmM_ne _ _ _ (by omega) (by omega), pk_un (by omega)]; exact i4 j hj
      · rw [if_neg e2, if_neg (fun q => e2 (hz.mp q))]
        exact ⟨i1, i2, i3, i4⟩
    · rw [if_neg e1, if_neg e1, if_pos rfl]
      have : (if bitM o k = 0 then a1 else a1) = a1 := by split <;> rfl
      rw [this]
      exact ⟨i1, i2, i3, i4⟩
theorem brB_add (c : Nat → Nat → Int32) {s i : Nat} (x : Int32) (h : i ≠ s) : brB (addDC c s x) i = brB c i := by
  unfold brB addDC
  show (!decide (upd (c 3) s _ i ≤ c 2 0)) = _
  rw [pk_un h]
theorem coS_add (c : Nat → Nat → Int32) {s i : Nat} (x : Int32) (h : i ≠ s) : coS i (addDC c s x) = addDC (coS i c) s x := by
  unfold coS
  try dsimp only
  rw [brB_add c x h]
  have e : ∀ (d : Nat → Nat → Int32) (f : Nat → Int32) (j : Nat), j ≠ 3 → j ≠ 12 → vset (addDC d s x) j f = addDC (vset d j f) s x := by
    intro d f j h3 h12
    unfold addDC
    funext y
    unfold vset
    by_cases q : y = j
    · subst q; simp [h3, h12]
    · by_cases q2 : y = 12
      · subst q2; simp [Ne.symm h3, Ne.symm h12]
      · by_cases q3 : y = 3
        · subst q3; simp [Ne.symm h3]
        · simp [q, q2, q3]
  cases brB c i
  · simp only [Bool.false_eq_true, if_false]
    rw [addDC_ne (by omega) (by omega), e _ _ 5 (by omega) (by omega)]
  · simp only [if_true]
    rw [addDC_ne (by omega) (by omega), addDC_ne (by omega) (by omega), e _ _ 6 (by omega) (by omega), addDC_ne (by omega) (by omega), e _ _ 5 (by omega) (by omega)]
theorem coI_add (c : Nat → Nat → Int32) {s : Nat} (x : Int32) : ∀ n, n ≤ s → coI (addDC c s x) n = addDC (coI c n) s x
  | 0, _ => rfl
  | n + 1, h => by rw [coI, coI, coI_add c x n (by omega), coS_add _ x (by omega)]
theorem coS_12 (i : Nat) (c : Nat → Nat → Int32) : coS i c 12 = c 12 := by
  unfold coS
  try dsimp only
  rw [vset_ne (by omega)]
  split
  · exact vset_ne (by omega)
  · rfl
theorem coS_t (i : Nat) (c : Nat → Nat → Int32) {k : Nat} (hk : k < 3) : coS i c (9 + k) = c (9 + k) := by
  unfold coS
  try dsimp only
  rw [vset_ne (by omega)]
  split
  · exact vset_ne (by omega)
  · rfl
theorem Core.com {c : Nat → Nat → Int32} {a : Nat → Int32} (h : Core c a) {k : Nat} (hk : k < 12) : Core (coS k (addDC c k (c 2 3))) (hgS k a) ∧ ∀ j, 84 ≤ j ∨ j = 10 → hgS k a j = a j := by
  have h1 := h.add hk (a 3)
  rw [show c 2 3 = a 3 from h.1.2.2 3 (by omega)]
  unfold coS hgS
  dsimp only
  rw [h1.br hk]
  have fr := fun (j : Nat) (hj : 84 ≤ j ∨ j = 10) => cmM_ne a k (a 3) (show j ≠ 12 + 6 * k by omega) (show j ≠ 11 by omega)
  revert h1 fr
  generalize addDC c k (a 3) = c1
  generalize cmM a k (a 3) = a1
  intro h1 fr
  have e6 : c1 6 k = a1 (12 + 6 * k + 3) := h1.2.1.2.2.2.1 k hk
  have e5 : c1 5 k = a1 (12 + 6 * k + 2) := h1.2.1.2.2.1 k hk
  by_cases hb : brM a1 k = true
  · rw [hb]
    simp only [if_true]
    have hv : (if c1 5 k = 0 then nI 1 else nI 2) = nI 1 + a1 (12 + 6 * k + 2) := by
      rw [← e5]
      rcases h1.2.2.2.2 k hk with q | q
      · rw [q]; rfl
      · rw [q]; rfl
    have p1 := h1.put hk (show 3 < 6 by omega) (c1 6 k + (if c1 5 k = 0 then nI 1 else nI 2)) (fun q => absurd q (by omega))
    have p2 := p1.put hk (show 2 < 6 by omega) (nI 1) (fun _ => Or.inr rfl)
    refine ⟨?_, fun j hj => ?_⟩
    · rw [e6, hv] at p2
      rw [hv, e6]
      exact p2
    · rw [pk_un (by omega), pk_un (by omega)]; exact fr j hj
  · have hb : brM a1 k = false := by simpa using hb
    rw [hb]
    simp only [Bool.false_eq_true, if_false]
    have p2 := h1.put hk (show 2 < 6 by omega) (nI 0) (fun _ => Or.inl rfl)
    have e9 : upd a1 (12 + 6 * k + 3) (a1 (12 + 6 * k + 3) + nI 0) = a1 := by
      funext j
      by_cases q : j = 12 + 6 * k + 3
      · subst q; rw [pk_us]; exact Int32.add_zero _
      · rw [pk_un q]
    rw [e9]
    refine ⟨p2, fun j hj => ?_⟩
    rw [pk_un (by omega)]; exact fr j hj
theorem adI_23 (c : Nat → Nat → Int32) : ∀ n, adI c n 2 = c 2
  | 0 => rfl
  | n + 1 => by rw [adI, addDC_ne (by omega) (by omega)]; exact adI_23 c n
theorem coI_23 (c : Nat → Nat → Int32) : ∀ n, coI c n 2 = c 2
  | 0 => rfl
  | n + 1 => by
    rw [coI]
    have : coS n (coI c n) 2 = coI c n 2 := by
      unfold coS
      try dsimp only
      rw [vset_ne (by omega)]
      split
      · exact vset_ne (by omega)
      · rfl
    rw [this]; exact coI_23 c n
theorem co_hg {c : Nat → Nat → Int32} {a : Nat → Int32} (hc : Core c a) : ∀ n, n ≤ 12 → Core (coI (adI c n) n) (hgI a n) ∧ Fr (coI (adI c n) n) c (hgI a n) a := by
  intro n
  induction n with
  | zero => intro _; exact ⟨hc, fun _ _ => rfl, rfl, fun _ _ => rfl⟩
  | succ n ih =>
    intro hn
    obtain ⟨i1, i2, i3, i4⟩ := ih (by omega)
    have e : coI (adI c (n + 1)) (n + 1) = coS n (addDC (coI (adI c n) n) n ((coI (adI c n) n) 2 3)) := by
      rw [coI, adI, coI_add _ _ n (Nat.le_refl _), coI_23]
    rw [e, hgI]
    have p := i1.com (show n < 12 by omega)
    refine ⟨p.1, fun k hk => ?_, ?_, fun j hj => (p.2 j hj).trans (i4 j hj)⟩
    · rw [coS_t _ _ hk, addDC_ne (by omega) (by omega)]; exact i2 k hk
    · rw [coS_12, addDC_12]; exact i3
