/-! the looks ahead, on both sides -/
theorem vset_uu (c : Nat → Nat → Int32) (i k : Nat) (x y : Int32) : vset (vset c i (upd (c i) k x)) i (upd (vset c i (upd (c i) k x) i) k y) = vset c i (upd (c i) k y) := by
  funext j
  unfold vset
  by_cases e : j = i
  · subst e
    rw [if_pos rfl, if_pos rfl, if_pos rfl]
    funext z
    by_cases q : z = k
    · subst q; rw [pk_us, pk_us]
    · rw [pk_un q, pk_un q, pk_un q]
  · rw [if_neg e, if_neg e, if_neg e]
theorem upd_uu (f : Nat → Int32) (k : Nat) (x y : Int32) : upd (upd f k x) k y = upd f k y := by
  funext z
  by_cases q : z = k
  · subst q; rw [pk_us, pk_us]
  · rw [pk_un q, pk_un q, pk_un q]
theorem least_pr {c c1 : Nat → Nat → Int32} {L L1 : Nat → Nat} {m : Nat → Int32} (h : Sim c L m) {z : Nat} (hz : z < 12) {p : Int32} (h1 : Sim c1 L1 (upd m (4 + z / 4) p)) (dr : Nat → Int32) :
    prC c1 (upd (fillF dr 3 (nI 0)) (z / 4) (c 4 z)) z = prM (upd m (4 + z / 4) p) (nI 1 <<< (nI z &&& 31)) z := by
  have e : c 4 z = upd m (4 + z / 4) p (12 + 6 * z + 1) := by rw [pk_un (by omega)]; exact h.2.1.2.1 z hz
  have q := dI_or4 (upd m (4 + z / 4) p) hz (o := nI 0) (by rw [bit_0 hz]; decide) (dr := fillF dr 3 (nI 0)) (fun y hy => by rw [dI_0 _ hy 4 (by omega)]; exact fillF_in hy) (c 4 z) e
  rw [show nI 0 ||| (nI 1 <<< (nI z &&& 31)) = nI 1 <<< (nI z &&& 31) from Int32.zero_or] at q
  rw [fillF_in (show z / 4 < 3 by omega), show nI 0 + c 4 z = c 4 z from Int32.zero_add _] at q
  exact pr_eq h1 q hz
/-- complaints counted so far are few -/
def cmpM (m : Nat → Int32) (K : Nat) : Prop := ∀ s, s < 12 → ∃ n, n ≤ K ∧ m (12 + 6 * s + 3) = nI n
theorem cmpM.le {m : Nat → Int32} {K K2 : Nat} (h : cmpM m K) (hk : K ≤ K2) : cmpM m K2 := fun s hs => by
  obtain ⟨n, h1, h2⟩ := h s hs
  exact ⟨n, by omega, h2⟩
theorem coS_6 (c : Nat → Nat → Int32) (i s : Nat) : coS i c 6 s = c 6 s ∨ (s = i ∧ (coS i c 6 s = c 6 s + nI 1 ∨ coS i c 6 s = c 6 s + nI 2)) := by
  unfold coS
  try dsimp only
  rw [vset_ne (show (6 : Nat) ≠ 5 by omega)]
  by_cases hb : brB c i = true
  · rw [if_pos hb]
    show upd (c 6) i (c 6 i + (if c 5 i = 0 then nI 1 else nI 2)) s = _ ∨ _
    by_cases e : s = i
    · subst e
      have e2 : vset c 6 (upd (c 6) s (c 6 s + (if c 5 s = 0 then nI 1 else nI 2))) 6 s = c 6 s + (if c 5 s = 0 then nI 1 else nI 2) := pk_us
      by_cases e5 : c 5 s = 0
      · rw [if_pos e5] at e2
        exact Or.inr ⟨rfl, Or.inl (by rw [if_pos e5]; exact e2)⟩
      · rw [if_neg e5] at e2
        exact Or.inr ⟨rfl, Or.inr (by rw [if_neg e5]; exact e2)⟩
    · exact Or.inl (pk_un e)
  · rw [if_neg hb]
    exact Or.inl rfl
theorem coI_6 (c : Nat → Nat → Int32) : ∀ n s, (n ≤ s → coI c n 6 s = c 6 s) ∧ (coI c n 6 s = c 6 s ∨ coI c n 6 s = c 6 s + nI 1 ∨ coI c n 6 s = c 6 s + nI 2) := by
  intro n
  induction n with
  | zero => exact fun s => ⟨fun _ => rfl, Or.inl rfl⟩
  | succ n ih =>
    intro s
    obtain ⟨i1, i2⟩ := ih s
    rw [coI]
    rcases coS_6 (coI c n) n s with q | ⟨q, q2⟩
    · rw [q]
      exact ⟨fun h => i1 (by omega), i2⟩
    · refine ⟨fun h => absurd h (by omega), Or.inr ?_⟩
      rw [i1 (by omega)] at q2
      exact q2
theorem flI_6 (wk dr : Nat → Int32) (w : CL2) : ∀ n, (flI wk dr w n).1 6 = w.1 6
  | 0 => rfl
  | n + 1 => by
    rw [flI]
    have ih := flI_6 wk dr w n
    revert ih
    generalize flI wk dr w n = v
    intro ih
    unfold flS
    try dsimp only
    split
    · exact ih
    · have hf : ∀ x, flC v.1 n x 6 = v.1 6 := fun x => by
        unfold flC
        rw [vset_ne (by omega), vset_ne (by omega), vset_ne (by omega)]
      split
      · unfold dropCL
        show vset _ _ _ 6 = _
        rw [vset_ne (by omega), hf]; exact ih
      · exact (hf (minJ (prC v.1 dr n * v.1 2 2) (v.1 3 n))).trans ih
theorem cmpM.hour {m : Nat → Int32} {K : Nat} (hk : cmpM m K) (h : okS m) (hK : K < 2000000000) : cmpM (hourF m) (K + 2) := by
  obtain ⟨c, L, h⟩ := h
  obtain ⟨w, hw⟩ : ∃ w, w = opI c L (fillF (fun _ => 0) 12 (-1), fillF (fun _ => 0) 3 (nI 0), (fun _ => 0)) 3 := ⟨_, rfl⟩
  have hp := play_sim h (wk2 := w.1) (dr2 := w.2.1) (re2 := w.2.2) hw
  intro s hs
  obtain ⟨n, h1, h2⟩ := hk s hs
  rw [← hp.2.1.2.2.2.1 s hs]
  have e6 : (playF c L w.1 w.2.1 w.2.2).1 6 = coI (adI (caI w.1 (flI w.1 w.2.1 (waI w.2.2 c 3, L) 12).1 12) 12) 12 6 := by
    unfold playF
    try dsimp only
    rw [vset_ne (by omega)]
  rw [e6]
  have hb : adI (caI w.1 (flI w.1 w.2.1 (waI w.2.2 c 3, L) 12).1 12) 12 6 s = nI n := by
    rw [adI_t (by omega) (by omega), caI_t (by omega) (by omega), flI_6]
    show waI w.2.2 c 3 6 s = nI n
    rw [waI_t (by omega), ← h2]
    exact h.2.1.2.2.2.1 s hs
  rcases (coI_6 (adI (caI w.1 (flI w.1 w.2.1 (waI w.2.2 c 3, L) 12).1 12) 12) 12 s).2 with q | q | q
  · exact ⟨n, by omega, by rw [q, hb]⟩
  · exact ⟨n + 1, by omega, by rw [q, hb, nI_add]⟩
  · exact ⟨n + 2, by omega, by rw [q, hb, nI_add]⟩
theorem cmpM.hourN {m : Nat → Int32} {K : Nat} (hk : cmpM m K) (h : okS m) : ∀ n, K + 2 * n < 2000000000 → cmpM (hourN m n) (K + 2 * n)
  | 0, _ => hk
  | n + 1, hn => (cmpM.hour (cmpM.hourN hk h n (by omega)) (h.hourN n) (by omega)).le (by omega)
theorem cmpM.sum {m : Nat → Int32} {K : Nat} (h : cmpM m K) : ∀ n, n ≤ 12 → ∃ T, T ≤ n * K ∧ sumM m 3 n = nI T
  | 0, _ => ⟨0, by omega, rfl⟩
  | n + 1, hn => by
    obtain ⟨T, h1, h2⟩ := cmpM.sum h n (by omega)
    obtain ⟨x, h3, h4⟩ := h n (by omega)
    exact ⟨T + x, by rw [Nat.succ_mul]; omega, by rw [sumM, h2, h4, nI_add]⟩
theorem cmpM.only {m : Nat → Int32} {K : Nat} (h : cmpM m K) (s : Nat) : cmpM (only m s) K := fun y hy => by
  rw [only_lo (by omega)]
  exact h y hy
theorem best_b {m : Nat → Int32} {K : Nat} (h : cmpM m K) (hs : okS m) (hK : K < 1000000) {s : Nat} (hs12 : s < 12) : ∃ T, T < 20000000 ∧ bestT m s = nI T := by
  have h1 : okS (only m s) := let ⟨_, _, q⟩ := hs; ⟨_, _, sim_only q hs12⟩
  obtain ⟨T, h2, h3⟩ := ((h.only s).hourN h1 12 (by omega)).sum 12 (Nat.le_refl 12)
  exact ⟨T, by omega, h3⟩
theorem nI_sub_le {a b d : Nat} (ha : a < 20000000) (hb : b < 20000000) (hd : d < 20000000) : nI a - nI d ≤ nI b - nI d ↔ nI a ≤ nI b := by
  have e : ∀ x, x < 20000000 → (nI x - nI d).toInt = (x : Int) - d := by
    intro x hx
    rw [Int32.toInt_sub, nI_toInt (by omega), nI_toInt (by omega)]
    exact Int.bmod_eq_of_le (by omega) (by omega)
  rw [Int32.le_iff_toInt_le, Int32.le_iff_toInt_le, e a ha, e b hb, nI_toInt (by omega), nI_toInt (by omega)]
  omega
/-- the best street so far, with differences of complaints -/
def BI (m : Nat → Int32) (s : Nat) (f l : Int32) : Prop := f = (bsI m s).1 ∧ (s = 0 → f = -1) ∧ (0 < s → l = (bsI m s).2 - sumM m 3 12 ∧ ∃ j, j < s ∧ f = nI j ∧ (bsI m s).2 = bestT m j)
theorem best_0 (m : Nat → Int32) (l : Int32) : BI m 0 (-1) l := ⟨rfl, fun _ => rfl, fun h => absurd h (by omega)⟩
theorem best_take {m : Nat → Int32} {K s : Nat} {f l : Int32} (hc : cmpM m K) (hm : okS m) (hK : K < 1000000) (hs : s < 12) (h : BI m s f l) (ht : f = -1 ∨ ¬ l ≤ bestT m s - sumM m 3 12) : BI m (s + 1) (nI s) (bestT m s - sumM m 3 12) := by
  obtain ⟨h1, h0, h2⟩ := h
  have e : bsI m (s + 1) = (nI s, bestT m s) := by
    rw [bsI]
    unfold bsS
    try dsimp only
    by_cases e0 : (bsI m s).1 = -1
    · rw [if_pos e0, if_pos rfl]
    · rw [if_neg e0]
      have ht : ¬ l ≤ bestT m s - sumM m 3 12 := ht.resolve_left (by rw [h1]; exact e0)
      have hp : 0 < s := by
        by_cases q : s = 0
        · exact absurd (h1.symm.trans (h0 q)) e0
        · omega
      obtain ⟨h3, j, h4, h5, h6⟩ := h2 hp
      obtain ⟨T1, a1, a2⟩ := best_b hc hm hK (show j < 12 by omega)
      obtain ⟨T2, b1, b2⟩ := best_b hc hm hK hs
      obtain ⟨S, s1, s2⟩ := hc.sum 12 (Nat.le_refl 12)
      rw [h3, h6, a2, b2, s2, nI_sub_le a1 b1 (by omega)] at ht
      rw [h6, a2, b2, if_neg ht, if_pos rfl]
  refine ⟨by rw [e], fun q => absurd q (by omega), fun _ => ⟨by rw [e], s, by omega, rfl, by rw [e]⟩⟩
theorem best_keep {m : Nat → Int32} {K s : Nat} {f l : Int32} (hc : cmpM m K) (hm : okS m) (hK : K < 1000000) (hs : s < 12) (h : BI m s f l) (hf : ¬ f = -1) (ht : l ≤ bestT m s - sumM m 3 12) : BI m (s + 1) f l := by
  obtain ⟨h1, h0, h2⟩ := h
  have hp : 0 < s := by
    by_cases q : s = 0
    · exact absurd (h0 q) hf
    · omega
  obtain ⟨h3, j, h4, h5, h6⟩ := h2 hp
  obtain ⟨T1, a1, a2⟩ := best_b hc hm hK (show j < 12 by omega)
  obtain ⟨T2, b1, b2⟩ := best_b hc hm hK hs
  obtain ⟨S, s1, s2⟩ := hc.sum 12 (Nat.le_refl 12)
  have e : bsI m (s + 1) = ((bsI m s).1, (bsI m s).2) := by
    rw [bsI]
    unfold bsS
    try dsimp only
    rw [h3, h6, a2, b2, s2, nI_sub_le a1 b1 (by omega)] at ht
    rw [if_neg (by rw [← h1]; exact hf), h6, a2, b2, if_pos ht, ← h1, h5, if_neg (fun q => absurd (nI_i3 (by omega) (by omega) q) (by omega))]
  exact ⟨by rw [e]; exact h1, fun q => absurd q (by omega), fun _ => ⟨by rw [e]; exact h3, j, by omega, h5, by rw [e]; exact h6⟩⟩
