/-! bits, pressures, sources on both sides -/
theorem shl12 : ∀ t, t < 12 → (nI 1 <<< (nI t &&& 31)).toBitVec = BitVec.twoPow 32 t := by decide
theorem shr12 : ∀ t, t < 12 → ((nI t &&& 31).toBitVec.smod 32).toNat = t := by decide
theorem bitM_g (o : Int32) {k : Nat} (hk : k < 12) : bitM o k = if o.toBitVec.getLsbD k then nI 1 else nI 0 := by
  apply Int32.toBitVec_inj.mp
  unfold bitM
  rw [Int32.toBitVec_and, Int32.toBitVec_shiftRight]
  unfold BitVec.sshiftRight'
  rw [shr12 k hk, show (nI 1).toBitVec = 1#32 from rfl, BitVec.and_one_eq_setWidth_ofBool_getLsbD, BitVec.getLsbD_sshiftRight]
  rw [if_pos (by omega), Nat.add_zero]
  cases o.toBitVec.getLsbD k <;> rfl
theorem bit_or (o : Int32) {s t : Nat} (hs : s < 12) (ht : t < 12) : bitM (o ||| (nI 1 <<< (nI t &&& 31))) s = if s = t then nI 1 else bitM o s := by
  rw [bitM_g _ hs, bitM_g _ hs, Int32.toBitVec_or, shl12 t ht, BitVec.getLsbD_or, BitVec.getLsbD_twoPow]
  by_cases e : s = t
  · subst e
    rw [if_pos rfl, if_pos]
    simp
    omega
  · rw [if_neg e]
    have : (decide (t < 32) && decide (t = s)) = false := by simp; omega
    rw [this, Bool.or_false]
theorem bit_0 {s : Nat} (hs : s < 12) : bitM (nI 0) s = nI 0 := by rw [bitM_g _ hs]; simp [show (nI 0).toBitVec = 0#32 from rfl]
theorem bit_01 (o : Int32) {s : Nat} (hs : s < 12) : bitM o s = nI 0 ∨ bitM o s = nI 1 := by
  rw [bitM_g _ hs]
  split
  · exact Or.inr rfl
  · exact Or.inl rfl
theorem Sim.src {c : Nat → Nat → Int32} {L : Nat → Nat} {m : Nat → Int32} (h : Sim c L m) {s : Nat} (hs : s < 12) : srcI c s = srcM m s := by
  obtain ⟨⟨-, a2, -⟩, -, -, -, -, g2, -⟩ := h
  unfold srcI srcM
  by_cases e : s % 4 = 0
  · rw [if_pos e, if_neg (show ¬ 0 < s % 4 by omega)]
    by_cases e0 : s = 0
    · rw [if_pos (show s / 4 = 0 by omega), if_pos e0]
    · rw [if_neg (show ¬ s / 4 = 0 by omega), if_neg e0]
      have q := a2 (s / 4 - 1) (by omega)
      rw [show 7 + s / 4 - 1 = 7 + (s / 4 - 1) by omega, ← q]
      rcases g2 (s / 4 - 1) (by omega) with v | v
      · rw [v, if_pos rfl, if_neg (by decide)]
      · rw [v, if_neg (by decide), if_pos (by decide)]
  · rw [if_neg e, if_pos (by omega)]
/-- what is drawn of a zone's water at the open hydrants -/
def dI (m : Nat → Int32) (o : Int32) (z : Nat) : Nat → Int32
  | 0 => nI 0
  | j + 1 => dI m o z j + (if bitM o (4 * z + j) = nI 1 then m (12 + 6 * (4 * z + j) + 1) else nI 0)
theorem owI_d (m : Nat → Int32) (o : Int32) (z : Nat) (x : Int32) : ∀ j, owI m o z x j = x - dI m o z j
  | 0 => by show x = x - nI 0; exact (Int32.sub_zero x).symm
  | j + 1 => by
    rw [owI, owS, owI_d m o z x j, dI]
    generalize (if bitM o (4 * z + j) = nI 1 then m (12 + 6 * (4 * z + j) + 1) else nI 0) = y
    rw [Int32.sub_sub]
theorem clampZ_mn (x y : Int32) : clampZ (mn x y) = mn (clampZ x) (clampZ y) := by
  unfold clampZ mn
  simp only [Int32.le_iff_toInt_le]
  have h0 : (0 : Int32).toInt = 0 := rfl
  by_cases e1 : y.toInt ≤ x.toInt
  · by_cases e2 : 0 ≤ y.toInt
    · simp only [h0, e1, e2, if_true, show 0 ≤ x.toInt by omega]
    · simp only [h0, e1, e2, if_true, if_false]
      by_cases e3 : 0 ≤ x.toInt
      · simp [h0, e3]
      · simp [h0, e3]
  · by_cases e2 : 0 ≤ y.toInt
    · by_cases e3 : 0 ≤ x.toInt
      · simp [h0, e1, e2, e3]
      · simp [h0, e1, e2, e3]
        exact fun q => Int32.toInt_inj.mp (by rw [h0]; omega)
    · simp [h0, e1, e2, show ¬ 0 ≤ x.toInt by omega]
/-- the hydrants that stand open, on both sides -/
def OWR (m : Nat → Int32) (o : Int32) (wk dr : Nat → Int32) : Prop := (∀ s, s < 12 → (bitM o s = nI 1 ↔ ¬ wk s = -1)) ∧ ∀ z, z < 3 → dr z = dI m o z 4
theorem pr_eq {c : Nat → Nat → Int32} {L : Nat → Nat} {m : Nat → Int32} (h : Sim c L m) {o : Int32} {dr : Nat → Int32} (hd : ∀ z, z < 3 → dr z = dI m o z 4) {s : Nat} (hs : s < 12) : prC c dr s = prM m o s := by
  obtain ⟨⟨a1, a2, -⟩, -, -, -, -, g2, -⟩ := h
  have own : ∀ s, s < 12 → ownM m o s = clampZ (c 0 (s / 4) - nI (s % 4) - dr (s / 4)) := by
    intro s hs
    unfold ownM
    rw [owI_d, hd _ (by omega), a1 _ (by omega)]
  unfold prC prM
  rw [own s hs]
  generalize c 0 (s / 4) - nI (s % 4) - dr (s / 4) = x
  have key : ∀ z, z < 3 → ∀ x, clampZ (prL c dr z x) = pmL m o z (clampZ x) := by
    intro z
    induction z with
    | zero => intro _ x; rfl
    | succ z ih =>
      intro hz x
      rw [prL, pmL]
      have q := a2 z (by omega)
      rcases g2 z (by omega) with v | v
      · rw [if_pos v, if_neg (by rw [← q, v]; decide)]
      · rw [if_neg (by rw [v]; decide), if_pos (by rw [← q, v]; rfl), ih (by omega), clampZ_mn, own (4 * z + 3) (by omega), show (4 * z + 3) / 4 = z by omega, show (4 * z + 3) % 4 = 3 by omega]
  exact key _ (by omega) x
theorem dI_0 (m : Nat → Int32) {z : Nat} (hz : z < 3) : ∀ j, j ≤ 4 → dI m (nI 0) z j = nI 0
  | 0, _ => rfl
  | j + 1, h => by
    rw [dI, dI_0 m hz j (by omega), bit_0 (by omega), if_neg (by decide)]
    rfl
theorem Sim.pr0 {c : Nat → Nat → Int32} {L : Nat → Nat} {m : Nat → Int32} (h : Sim c L m) {s : Nat} (hs : s < 12) (dr : Nat → Int32) : prC c (fillF dr 3 (nI 0)) s = prM m (nI 0) s :=
  pr_eq h (fun z hz => by rw [dI_0 m hz 4 (by omega)]; exact fillF_in hz) hs
/-- a place of a round, on both sides -/
theorem sim_round {c : Nat → Nat → Int32} {L : Nat → Nat} {m : Nat → Int32} (h : Sim c L m) {k : Nat} (hk : k < 3) (j : Nat) : (if j < L k then c (9 + k) j else -1) = if j < (m (84 + 9 * k)).toNatClampNeg then m (84 + 9 * k + 1 + j) else -1 := by
  obtain ⟨-, -, -, ⟨f1, f2⟩, g1, -⟩ := h
  have := (g1 k hk).1
  rw [show m (84 + 9 * k) = nI (L k) from f1 k hk, nIcl (by omega)]
  by_cases e : j < L k
  · rw [if_pos e, if_pos e]; exact f2 k hk j e
  · rw [if_neg e, if_neg e]
