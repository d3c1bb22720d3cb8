/-! the crews' hydrants, on both sides -/
theorem I32_acm (a b d : Int32) : a + b + d = a + d + b := by rw [Int32.add_assoc, Int32.add_comm b d, ← Int32.add_assoc]
theorem dI_or (m : Nat → Int32) {o : Int32} {t : Nat} (ht : t < 12) (hb : ¬ bitM o t = nI 1) {z : Nat} (hz : z < 3) : ∀ j, j ≤ 4 → dI m (o ||| (nI 1 <<< (nI t &&& 31))) z j = dI m o z j + (if z = t / 4 ∧ t % 4 < j then m (12 + 6 * t + 1) else nI 0)
  | 0, _ => by
    rw [if_neg (by omega)]
    rfl
  | j + 1, h => by
    have ih := dI_or m ht hb hz j (by omega)
    rw [dI, dI, ih, bit_or o (show 4 * z + j < 12 by omega) ht]
    by_cases e : 4 * z + j = t
    · rw [if_pos e, if_pos rfl, if_neg (show ¬ (z = t / 4 ∧ t % 4 < j) by omega), if_pos (show z = t / 4 ∧ t % 4 < j + 1 by omega), e, if_neg hb]
    · rw [if_neg e]
      by_cases e2 : z = t / 4 ∧ t % 4 < j
      · rw [if_pos e2, if_pos (show z = t / 4 ∧ t % 4 < j + 1 by omega)]
        exact I32_acm _ _ _
      · rw [if_neg e2, if_neg (show ¬ (z = t / 4 ∧ t % 4 < j + 1) by omega)]
        exact I32_acm _ _ _
theorem dI_or4 (m : Nat → Int32) {o : Int32} {t : Nat} (ht : t < 12) (hb : ¬ bitM o t = nI 1) {dr : Nat → Int32} (hd : ∀ z, z < 3 → dr z = dI m o z 4) (x : Int32) (hx : x = m (12 + 6 * t + 1)) : ∀ z, z < 3 → upd dr (t / 4) (dr (t / 4) + x) z = dI m (o ||| (nI 1 <<< (nI t &&& 31))) z 4 := by
  intro z hz
  rw [dI_or m ht hb hz 4 (by omega)]
  by_cases e : z = t / 4
  · subst e; rw [pk_us, if_pos (by omega), hd _ hz, hx]
  · rw [pk_un e, if_neg (by omega), hd _ hz]; exact (Int32.add_zero _).symm
theorem why_eq {c : Nat → Nat → Int32} {L : Nat → Nat} {m : Nat → Int32} (h : Sim c L m) {o : Int32} {wk dr : Nat → Int32} (h1 : ∀ s, s < 12 → (bitM o s = nI 1 ↔ ¬ wk s = -1)) (h2 : ∀ z, z < 3 → dr z = dI m o z 4) {t : Nat} (ht : t < 12) : rsnC c wk dr t = whyM m o t := by
  unfold rsnC whyM
  by_cases e : wk t = -1
  · have hb : ¬ bitM o t = nI 1 := fun q => (h1 t ht).mp q e
    rw [if_pos e, if_neg hb, ← pr_eq h (dI_or4 m ht hb h2 (c 4 t) (h.2.1.2.1 t ht)) ht, h.1.2.2 1 (by omega), h.src ht]
    split
    · rcases srcM_or m t with q | ⟨q, q0⟩
      · rw [q, if_pos rfl, if_pos rfl]
      · rw [q, if_neg (nI_nm1 (by omega)), if_neg (nI_nm1 (by omega)), h.br (show t - 1 < 12 by omega)]
    · rfl
  · rw [if_neg e, if_pos ((h1 t ht).mpr e)]
abbrev OLR (m : Nat → Int32) (n : Nat) (w : T3) (v : OW) : Prop :=
  (∀ s, s < 12 → (bitM v.1 s = nI 1 ↔ ¬ w.1 s = -1)) ∧ (∀ z, z < 3 → w.2.1 z = dI m v.1 z 4) ∧ (∀ k, k < n → w.2.2 k = v.2 k) ∧ (∀ s, s < 12 → w.1 s = -1 ∨ ∃ k, k < n ∧ w.1 s = nI k) ∧
  ∀ s, s < 12 → ∀ k, k < n → (w.1 s = nI k ↔ (v.2 k = 0 ∧ frM m k = nI s))
theorem nI_i3 {a b : Nat} (ha : a < 100) (hb : b < 100) (h : nI a = nI b) : a = b := by
  have := congrArg Int32.toInt h
  rw [nI_toInt (by omega), nI_toInt (by omega)] at this
  omega
theorem op_la {c : Nat → Nat → Int32} {L : Nat → Nat} {m : Nat → Int32} (h : Sim c L m) (f g re wh : Nat → Int32) : ∀ n, n ≤ 3 → OLR m n (opI c L (fillF f 12 (-1), fillF g 3 (nI 0), re) n) (laI m wh n) := by
  intro n
  induction n with
  | zero =>
    intro _
    refine ⟨fun s hs => ?_, fun z hz => ?_, fun k hk => absurd hk (by omega), fun s hs => Or.inl (fillF_in hs), fun s hs k hk => absurd hk (by omega)⟩
    · show bitM (nI 0) s = nI 1 ↔ ¬ fillF f 12 (-1) s = -1
      rw [bit_0 hs, fillF_in hs]
      exact ⟨fun q => absurd q (by decide), fun q => absurd rfl q⟩
    · show fillF g 3 (nI 0) z = dI m (nI 0) z 4
      rw [dI_0 m hz 4 (by omega)]; exact fillF_in hz
  | succ n ih =>
    intro hn
    have ih := ih (by omega)
    rw [opI, laI]
    revert ih
    generalize opI c L (fillF f 12 (-1), fillF g 3 (nI 0), re) n = w
    generalize laI m wh n = v
    rintro ⟨i1, i2, i3, i4, i5⟩
    obtain ⟨wk, dr, re⟩ := w
    obtain ⟨o, wy⟩ := v
    dsimp only at i1 i2 i3 i4 i5
    have hfi := sim_first h (show n < 3 by omega)
    have no : ∀ s, s < 12 → ¬ wk s = nI n := by
      intro s hs q
      rcases i4 s hs with e | ⟨k, e1, e2⟩
      · rw [e] at q; exact nI_nm1 (show n < 2147483648 by omega) q.symm
      · rw [e2] at q; have := nI_i3 (by omega) (by omega) q; omega
    rcases frM_or h.okM (show n < 3 by omega) with e | ⟨t, ht, e⟩
    · rw [laS_m1 e, opS_m1 (hfi.trans e)]
      refine ⟨i1, i2, fun k hk => ?_, fun s hs => ?_, fun s hs k hk => ?_⟩
      · show upd re n (-1) k = upd wy n (-1) k
        by_cases q : k = n
        · subst q; rw [pk_us, pk_us]
        · rw [pk_un q, pk_un q]; exact i3 k (by omega)
      · rcases i4 s hs with a | ⟨k, a, b⟩
        · exact Or.inl a
        · exact Or.inr ⟨k, by omega, b⟩
      · show wk s = nI k ↔ (upd wy n (-1) k = 0 ∧ _)
        by_cases q : k = n
        · subst q
          rw [pk_us]
          exact ⟨fun a => absurd a (no s hs), fun a => absurd a.1 (by decide)⟩
        · rw [pk_un q]; exact i5 s hs k (by omega)
    · rw [laS_t e ht]
      have hy := why_eq h i1 i2 ht
      dsimp only
      by_cases y0 : whyM m o t = 0
      · rw [opS_t0 ht (hfi.trans e) (hy.trans y0), if_pos y0]
        dsimp only
        rw [hy, y0]
        have hw1 : wk t = -1 := by
          by_cases q : wk t = -1
          · exact q
          · have : whyM m o t = nI 1 := by rw [← hy]; unfold rsnC; rw [if_neg q]
            rw [y0] at this
            exact absurd this (by decide)
        have hb : ¬ bitM o t = nI 1 := fun q => (i1 t ht).mp q hw1
        refine ⟨fun s hs => ?_, dI_or4 m ht hb i2 (c 4 t) (h.2.1.2.1 t ht), fun k hk => ?_, fun s hs => ?_, fun s hs k hk => ?_⟩
        · show bitM (o ||| _) s = nI 1 ↔ ¬ upd wk t (nI n) s = -1
          rw [bit_or o hs ht]
          by_cases q : s = t
          · subst q
            rw [if_pos rfl, pk_us]
            exact ⟨fun _ => nI_nm1 (by omega), fun _ => rfl⟩
          · rw [if_neg q, pk_un q]; exact i1 s hs
        · show upd re n 0 k = upd wy n 0 k
          by_cases q : k = n
          · subst q; rw [pk_us, pk_us]
          · rw [pk_un q, pk_un q]; exact i3 k (by omega)
        · show upd wk t (nI n) s = -1 ∨ _
          by_cases q : s = t
          · subst q; exact Or.inr ⟨n, by omega, pk_us⟩
          · have e1 : upd wk t (nI n) s = wk s := pk_un q
            rcases i4 s hs with a | ⟨k, a, b⟩
            · exact Or.inl (e1.trans a)
            · exact Or.inr ⟨k, by omega, e1.trans b⟩
        · show upd wk t (nI n) s = nI k ↔ (upd wy n 0 k = 0 ∧ _)
          by_cases q : s = t
          · subst q
            rw [pk_us]
            by_cases q2 : k = n
            · subst q2
              rw [pk_us]
              exact ⟨fun _ => ⟨rfl, e⟩, fun _ => rfl⟩
            · rw [pk_un q2]
              refine ⟨fun a => absurd (nI_i3 (by omega) (by omega) a) (fun z => q2 z.symm), fun a => ?_⟩
              have := (i5 s hs k (by omega)).mpr a
              rw [hw1] at this
              exact absurd this.symm (nI_nm1 (by omega))
          · rw [pk_un q]
            by_cases q2 : k = n
            · subst q2
              rw [pk_us]
              refine ⟨fun a => absurd a (no s hs), fun a => ?_⟩
              have a2 := a.2
              rw [e] at a2
              exact absurd (nI_i3 (by omega) (by omega) a2) (fun z => q z.symm)
            · rw [pk_un q2]; exact i5 s hs k (by omega)
      · rw [opS_t1 ht (hfi.trans e) (fun q => y0 (hy.symm.trans q)), if_neg y0]
        dsimp only
        rw [hy]
        have o0 : o ||| nI 0 = o := Int32.or_zero
        rw [o0]
        refine ⟨i1, i2, fun k hk => ?_, fun s hs => ?_, fun s hs k hk => ?_⟩
        · show upd re n (whyM m o t) k = upd wy n (whyM m o t) k
          by_cases q : k = n
          · subst q; rw [pk_us, pk_us]
          · rw [pk_un q, pk_un q]; exact i3 k (by omega)
        · rcases i4 s hs with a | ⟨k, a, b⟩
          · exact Or.inl a
          · exact Or.inr ⟨k, by omega, b⟩
        · show wk s = nI k ↔ (upd wy n (whyM m o t) k = 0 ∧ _)
          by_cases q : k = n
          · subst q
            rw [pk_us]
            exact ⟨fun a => absurd a (no s hs), fun a => absurd a.1 y0⟩
          · rw [pk_un q]; exact i5 s hs k (by omega)
