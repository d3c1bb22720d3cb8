/-! the class's numbers (c, L) and the reference's row m say the same -/
def Sim (c : Nat → Nat → Int32) (L : Nat → Nat) (m : Nat → Int32) : Prop :=
  ((∀ z, z < 3 → c 0 z = m (4 + z)) ∧ (∀ v, v < 2 → c 1 v = m (7 + v)) ∧ (∀ k, k < 4 → c 2 k = m k)) ∧
  ((∀ s, s < 12 → c 3 s = m (12 + 6 * s)) ∧ (∀ s, s < 12 → c 4 s = m (12 + 6 * s + 1)) ∧ (∀ s, s < 12 → c 5 s = m (12 + 6 * s + 2)) ∧ (∀ s, s < 12 → c 6 s = m (12 + 6 * s + 3)) ∧ (∀ s, s < 12 → c 7 s = m (12 + 6 * s + 4)) ∧ (∀ s, s < 12 → c 8 s = m (12 + 6 * s + 5))) ∧
  (c 12 3 = m 9 ∧ c 12 4 = m 10 ∧ c 12 5 = m 11) ∧
  ((∀ k, k < 3 → m (84 + 9 * k) = nI (L k)) ∧ (∀ k, k < 3 → ∀ j, j < L k → c (9 + k) j = m (84 + 9 * k + 1 + j))) ∧
  (okT c L ∧ (∀ v, v < 2 → c 1 v = 0 ∨ c 1 v = 1) ∧ (∀ s, s < 12 → c 5 s = 0 ∨ c 5 s = 1))
def okS (m : Nat → Int32) : Prop := ∃ c L, Sim c L m
theorem Sim.okM {c : Nat → Nat → Int32} {L : Nat → Nat} {m : Nat → Int32} (h : Sim c L m) : okM m := by
  intro k hk
  obtain ⟨-, -, -, ⟨h1, h2⟩, h3, -⟩ := h
  refine ⟨L k, (h3 k hk).1, h1 k hk, fun j hj => ?_⟩
  obtain ⟨t, h4, h5⟩ := (h3 k hk).2 j hj
  exact ⟨t, h4, by rw [← h2 k hk j hj, h5]⟩
/-- rows that are the same in their 111 places -/
def e111 (m m1 : Nat → Int32) : Prop := ∀ j, j < 111 → m j = m1 j
theorem Sim.e111 {c : Nat → Nat → Int32} {L : Nat → Nat} {m m1 : Nat → Int32} (h : Sim c L m) (e : e111 m m1) : Sim c L m1 := by
  obtain ⟨⟨a1, a2, a3⟩, ⟨b1, b2, b3, b4, b5, b6⟩, ⟨d1, d2, d3⟩, ⟨f1, f2⟩, g⟩ := h
  refine ⟨⟨fun z hz => (a1 z hz).trans (e _ (by omega)), fun z hz => (a2 z hz).trans (e _ (by omega)), fun z hz => (a3 z hz).trans (e _ (by omega))⟩,
    ⟨fun z hz => (b1 z hz).trans (e _ (by omega)), fun z hz => (b2 z hz).trans (e _ (by omega)), fun z hz => (b3 z hz).trans (e _ (by omega)), fun z hz => (b4 z hz).trans (e _ (by omega)), fun z hz => (b5 z hz).trans (e _ (by omega)), fun z hz => (b6 z hz).trans (e _ (by omega))⟩,
    ⟨d1.trans (e _ (by omega)), d2.trans (e _ (by omega)), d3.trans (e _ (by omega))⟩,
    ⟨fun k hk => (e _ (by omega)).symm.trans (f1 k hk), fun k hk j hj => (f2 k hk j hj).trans (e _ ?_)⟩, g⟩
  have := (g.1 k hk).1
  omega
theorem e111_cpy (m g : Nat → Int32) : e111 m (va_cpy m g 0 0 111) := fun j hj => (cpy_in hj).symm
theorem okS.e111 {m m1 : Nat → Int32} (h : okS m) (e : e111 m m1) : okS m1 := by
  obtain ⟨c, L, h⟩ := h
  exact ⟨c, L, h.e111 e⟩
theorem okS.okM {m : Nat → Int32} (h : okS m) : okM m := by
  obtain ⟨c, L, h⟩ := h
  exact h.okM
theorem sumM_congr {m m1 : Nat → Int32} {w : Nat} (hw : w < 6) (h : ∀ s, s < 12 → m (12 + 6 * s + w) = m1 (12 + 6 * s + w)) : ∀ n, n ≤ 12 → sumM m w n = sumM m1 w n := by
  intro n
  induction n with
  | zero => intro _; rfl
  | succ n ih => intro hn; rw [sumM, sumM, ih (by omega), h n (by omega)]
theorem Sim.sum {c : Nat → Nat → Int32} {L : Nat → Nat} {m : Nat → Int32} (h : Sim c L m) : sumF (c 3) 12 = sumM m 0 12 ∧ sumF (c 6) 12 = sumM m 3 12 ∧ sumF (c 7) 12 = sumM m 4 12 := by
  obtain ⟨-, ⟨b1, b2, b3, b4, b5, b6⟩, -⟩ := h
  have key : ∀ (f : Nat → Int32) (w : Nat), (∀ s, s < 12 → f s = m (12 + 6 * s + w)) → ∀ n, n ≤ 12 → sumF f n = sumM m w n := by
    intro f w hf n
    induction n with
    | zero => intro _; rfl
    | succ n ih => intro hn; rw [sumF, sumM, ih (by omega), hf n (by omega)]
  exact ⟨key _ 0 b1 12 (by omega), key _ 3 b4 12 (by omega), key _ 4 b5 12 (by omega)⟩
theorem Sim.br {c : Nat → Nat → Int32} {L : Nat → Nat} {m : Nat → Int32} (h : Sim c L m) {s : Nat} (hs : s < 12) : brB c s = brM m s := by
  obtain ⟨⟨-, -, a3⟩, ⟨b1, -⟩, -⟩ := h
  unfold brB brM
  rw [b1 s hs, a3 0 (by omega)]
  rfl
theorem brN_s (c : Nat → Nat → Int32) (n : Nat) : brN c (n + 1) = brN c n + (if brB c n then 1 else 0) := rfl
theorem Sim.brN {c : Nat → Nat → Int32} {L : Nat → Nat} {m : Nat → Int32} (h : Sim c L m) : ∀ n, n ≤ 12 → brN c n = brNM m n := by
  intro n
  induction n with
  | zero => intro _; rfl
  | succ n ih => intro hn; rw [brN_s, brNM, ih (by omega), h.br (by omega)]
