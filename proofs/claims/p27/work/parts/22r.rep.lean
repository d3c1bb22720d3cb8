/-! the saved states of both sides -/
theorem Sim.eqv {c c3 : Nat → Nat → Int32} {L : Nat → Nat} {m : Nat → Int32} (h : Sim c L m) (e : Eqv c3 c) : Sim c3 L m := by
  obtain ⟨⟨a1, a2, a3⟩, ⟨b1, b2, b3, b4, b5, b6⟩, ⟨d1, d2, d3⟩, ⟨f1, f2⟩, g1, g2, g3⟩ := h
  obtain ⟨e1, e2, e3, e4, e5, e6⟩ := e
  have t9 : ∀ k, k < 3 → ∀ j, j < L k → c3 (9 + k) j = c (9 + k) j := fun k hk j hj => e5 _ (by omega) (by omega) _ (by have := (g1 k hk).1; omega)
  refine ⟨⟨fun z hz => (e1 z hz).trans (a1 z hz), fun z hz => (e2 z hz).trans (a2 z hz), fun z hz => (e3 z hz).trans (a3 z hz)⟩,
    ⟨fun z hz => (e4 3 (by omega) (by omega) z hz).trans (b1 z hz), fun z hz => (e4 4 (by omega) (by omega) z hz).trans (b2 z hz), fun z hz => (e4 5 (by omega) (by omega) z hz).trans (b3 z hz), fun z hz => (e4 6 (by omega) (by omega) z hz).trans (b4 z hz), fun z hz => (e4 7 (by omega) (by omega) z hz).trans (b5 z hz), fun z hz => (e4 8 (by omega) (by omega) z hz).trans (b6 z hz)⟩,
    ⟨(e6 3 (by omega) (by omega)).trans d1, (e6 4 (by omega) (by omega)).trans d2, (e6 5 (by omega) (by omega)).trans d3⟩,
    ⟨f1, fun k hk j hj => (t9 k hk j hj).trans (f2 k hk j hj)⟩, fun k hk => ⟨(g1 k hk).1, fun j hj => ?_⟩, fun v hv => by rw [e2 v hv]; exact g2 v hv, fun v hv => by rw [e4 5 (by omega) (by omega) v hv]; exact g3 v hv⟩
  rw [t9 k hk j hj]
  exact (g1 k hk).2 j hj
def HREP (F : Nat → Option Nat) (gq : Nat → Nat → Nat) (cs : Nat → Nat → Nat → Int32) (Ls : Nat → Nat → Nat) (kp : Nat) (past : Nat → Int32) : Prop :=
  kp ≤ 6 ∧ (∀ k, k < 6 → F k = some (gq k 0)) ∧ ∀ i, i < kp → Sim (cs i) (Ls i) (fun j => past (111 * i + j))
theorem keep_rep {F F2 : Nat → Option Nat} {gq gq2 : Nat → Nat → Nat} {cs cs2 : Nat → Nat → Nat → Int32} {Ls Ls2 : Nat → Nat → Nat} {kp : Nat} {past m : Nat → Int32} {c c3 : Nat → Nat → Int32} {L : Nat → Nat}
    (h : HREP F gq cs Ls kp past) (hS : Sim c L m) (hF : ∀ k, k < 6 → F2 k = some (gq2 k 0)) (he : Eqv c3 c) (hc : cs2 = pushS kp cs c3) (hL : Ls2 = pushS kp Ls L) : HREP F2 gq2 cs2 Ls2 (svK kp) (svP m past kp) := by
  obtain ⟨h1, -, h3⟩ := h
  have hS3 := hS.eqv he
  subst hc; subst hL
  refine ⟨by unfold svK; split <;> omega, hF, fun i hi => ?_⟩
  by_cases e : kp = 6
  · subst e
    have hi : i < 6 := hi
    show Sim (if i < 5 then cs (i + 1) else c3) (if i < 5 then Ls (i + 1) else L) (fun j => va_cpy m (shP past 555) 0 (111 * 5) 111 (111 * i + j))
    by_cases h5 : i < 5
    · rw [if_pos h5, if_pos h5]
      refine (h3 (i + 1) (by omega)).e111 (fun j hj => ?_)
      show past (111 * (i + 1) + j) = va_cpy m (shP past 555) 0 (111 * 5) 111 (111 * i + j)
      rw [pk_cpy_out (by omega)]
      unfold shP
      rw [if_pos (by omega)]
      exact congrArg past (by omega)
    · rw [if_neg h5, if_neg h5]
      refine hS3.e111 (fun j hj => ?_)
      show m j = va_cpy m (shP past 555) 0 (111 * 5) 111 (111 * i + j)
      rw [pk_cpy_in (by omega) (by omega)]
      exact congrArg m (by omega)
  · have e1 : svK kp = kp + 1 := if_neg e
    have e2 : svP m past kp = va_cpy m past 0 (111 * kp) 111 := if_neg e
    rw [e1] at hi
    rw [e2]
    unfold pushS
    rw [if_neg e, if_neg e]
    by_cases h5 : i = kp
    · subst h5
      rw [if_pos rfl, if_pos rfl]
      refine hS3.e111 (fun j hj => ?_)
      show m j = va_cpy m past 0 (111 * i) 111 (111 * i + j)
      rw [pk_cpy_in (by omega) (by omega)]
      exact congrArg m (by omega)
    · rw [if_neg h5, if_neg h5]
      refine (h3 i (by omega)).e111 (fun j hj => ?_)
      show past (111 * i + j) = va_cpy m past 0 (111 * kp) 111 (111 * i + j)
      rw [pk_cpy_out]
      have : 111 * (i + 1) ≤ 111 * kp := Nat.mul_le_mul_left 111 (by omega)
      omega
theorem u_ne {f : Nat → Int32} {k j : Nat} {x : Int32} (h : j ≠ k) : upd f k x j = f j := pk_un h
/-- one number changed on both sides -/
theorem sim_zp {c : Nat → Nat → Int32} {L : Nat → Nat} {m : Nat → Int32} (h : Sim c L m) {z : Nat} (hz : z < 3) (x : Int32) : Sim (vset c 0 (upd (c 0) z x)) L (upd m (4 + z) x) := by
  obtain ⟨⟨a1, a2, a3⟩, ⟨b1, b2, b3, b4, b5, b6⟩, ⟨d1, d2, d3⟩, ⟨f1, f2⟩, g⟩ := h
  have o : ∀ j, j ≠ 4 + z → m j = upd m (4 + z) x j := fun j hj => (pk_un hj).symm
  refine ⟨⟨fun y hy => ?_, fun y hy => (a2 y hy).trans (o _ (by omega)), fun y hy => (a3 y hy).trans (o _ (by omega))⟩,
    ⟨fun y hy => (b1 y hy).trans (o _ (by omega)), fun y hy => (b2 y hy).trans (o _ (by omega)), fun y hy => (b3 y hy).trans (o _ (by omega)), fun y hy => (b4 y hy).trans (o _ (by omega)), fun y hy => (b5 y hy).trans (o _ (by omega)), fun y hy => (b6 y hy).trans (o _ (by omega))⟩,
    ⟨d1.trans (o _ (by omega)), d2.trans (o _ (by omega)), d3.trans (o _ (by omega))⟩, ⟨fun k hk => (o _ (by omega)).symm.trans (f1 k hk), fun k hk j hj => ?_⟩, fun k hk => ?_, g.2⟩
  · show upd (c 0) z x y = _
    by_cases e : y = z
    · subst e; rw [pk_us, pk_us]
    · rw [pk_un e, pk_un (by omega)]; exact a1 y hy
  · rw [vset_ne (by omega)]; exact (f2 k hk j hj).trans (o _ (by omega))
  · rw [vset_ne (by omega)]; exact g.1 k hk
theorem sim_vo {c : Nat → Nat → Int32} {L : Nat → Nat} {m : Nat → Int32} (h : Sim c L m) {z : Nat} (hz : z < 2) (b : Bool) : Sim (vset c 1 (upd (c 1) z (bI b))) L (upd m (7 + z) (bI b)) := by
  obtain ⟨⟨a1, a2, a3⟩, ⟨b1, b2, b3, b4, b5, b6⟩, ⟨d1, d2, d3⟩, ⟨f1, f2⟩, g1, g2, g3⟩ := h
  have o : ∀ j, j ≠ 7 + z → m j = upd m (7 + z) (bI b) j := fun j hj => (pk_un hj).symm
  refine ⟨⟨fun y hy => (a1 y hy).trans (o _ (by omega)), fun y hy => ?_, fun y hy => (a3 y hy).trans (o _ (by omega))⟩,
    ⟨fun y hy => (b1 y hy).trans (o _ (by omega)), fun y hy => (b2 y hy).trans (o _ (by omega)), fun y hy => (b3 y hy).trans (o _ (by omega)), fun y hy => (b4 y hy).trans (o _ (by omega)), fun y hy => (b5 y hy).trans (o _ (by omega)), fun y hy => (b6 y hy).trans (o _ (by omega))⟩,
    ⟨d1.trans (o _ (by omega)), d2.trans (o _ (by omega)), d3.trans (o _ (by omega))⟩, ⟨fun k hk => (o _ (by omega)).symm.trans (f1 k hk), fun k hk j hj => ?_⟩, fun k hk => ?_, fun y hy => ?_, g3⟩
  · show upd (c 1) z _ y = _
    by_cases e : y = z
    · subst e; rw [pk_us, pk_us]
    · rw [pk_un e, pk_un (by omega)]; exact a2 y hy
  · rw [vset_ne (by omega)]; exact (f2 k hk j hj).trans (o _ (by omega))
  · rw [vset_ne (by omega)]; exact g1 k hk
  · show upd (c 1) z _ y = 0 ∨ upd (c 1) z _ y = 1
    by_cases e : y = z
    · subst e; rw [pk_us]; cases b
      · exact Or.inl rfl
      · exact Or.inr rfl
    · rw [pk_un e]; exact g2 y hy
theorem sim_se {c : Nat → Nat → Int32} {L : Nat → Nat} {m : Nat → Int32} (h : Sim c L m) {z : Nat} (hz : z < 4) (x : Int32) : Sim (vset c 2 (upd (c 2) z x)) L (upd m z x) := by
  obtain ⟨⟨a1, a2, a3⟩, ⟨b1, b2, b3, b4, b5, b6⟩, ⟨d1, d2, d3⟩, ⟨f1, f2⟩, g⟩ := h
  have o : ∀ j, j ≠ z → m j = upd m z x j := fun j hj => (pk_un hj).symm
  refine ⟨⟨fun y hy => (a1 y hy).trans (o _ (by omega)), fun y hy => (a2 y hy).trans (o _ (by omega)), fun y hy => ?_⟩,
    ⟨fun y hy => (b1 y hy).trans (o _ (by omega)), fun y hy => (b2 y hy).trans (o _ (by omega)), fun y hy => (b3 y hy).trans (o _ (by omega)), fun y hy => (b4 y hy).trans (o _ (by omega)), fun y hy => (b5 y hy).trans (o _ (by omega)), fun y hy => (b6 y hy).trans (o _ (by omega))⟩,
    ⟨d1.trans (o _ (by omega)), d2.trans (o _ (by omega)), d3.trans (o _ (by omega))⟩, ⟨fun k hk => (o _ (by omega)).symm.trans (f1 k hk), fun k hk j hj => ?_⟩, fun k hk => ?_, g.2⟩
  · show upd (c 2) z x y = _
    by_cases e : y = z
    · subst e; rw [pk_us, pk_us]
    · rw [pk_un e, pk_un (by omega)]; exact a3 y hy
  · rw [vset_ne (by omega)]; exact (f2 k hk j hj).trans (o _ (by omega))
  · rw [vset_ne (by omega)]; exact g.1 k hk
theorem sim_di {c : Nat → Nat → Int32} {L : Nat → Nat} {m : Nat → Int32} (h : Sim c L m) {s : Nat} (hs : s < 12) (x : Int32) : Sim (vset c 3 (upd (c 3) s x)) L (upd m (12 + 6 * s) x) := by
  obtain ⟨⟨a1, a2, a3⟩, ⟨b1, b2, b3, b4, b5, b6⟩, ⟨d1, d2, d3⟩, ⟨f1, f2⟩, g⟩ := h
  have o : ∀ j, j ≠ 12 + 6 * s → m j = upd m (12 + 6 * s) x j := fun j hj => (pk_un hj).symm
  refine ⟨⟨fun y hy => (a1 y hy).trans (o _ (by omega)), fun y hy => (a2 y hy).trans (o _ (by omega)), fun y hy => (a3 y hy).trans (o _ (by omega))⟩,
    ⟨fun y hy => ?_, fun y hy => (b2 y hy).trans (o _ (by omega)), fun y hy => (b3 y hy).trans (o _ (by omega)), fun y hy => (b4 y hy).trans (o _ (by omega)), fun y hy => (b5 y hy).trans (o _ (by omega)), fun y hy => (b6 y hy).trans (o _ (by omega))⟩,
    ⟨d1.trans (o _ (by omega)), d2.trans (o _ (by omega)), d3.trans (o _ (by omega))⟩, ⟨fun k hk => (o _ (by omega)).symm.trans (f1 k hk), fun k hk j hj => ?_⟩, fun k hk => ?_, g.2⟩
  · show upd (c 3) s x y = _
    by_cases e : y = s
    · subst e; rw [pk_us, pk_us]
    · rw [pk_un e, pk_un (by omega)]; exact b1 y hy
  · rw [vset_ne (by omega)]; exact (f2 k hk j hj).trans (o _ (by omega))
  · rw [vset_ne (by omega)]; exact g.1 k hk
theorem sim_ta {c : Nat → Nat → Int32} {L : Nat → Nat} {m : Nat → Int32} (h : Sim c L m) {s : Nat} (hs : s < 12) (x : Int32) : Sim (vset c 4 (upd (c 4) s x)) L (upd m (12 + 6 * s + 1) x) := by
  obtain ⟨⟨a1, a2, a3⟩, ⟨b1, b2, b3, b4, b5, b6⟩, ⟨d1, d2, d3⟩, ⟨f1, f2⟩, g⟩ := h
  have o : ∀ j, j ≠ 12 + 6 * s + 1 → m j = upd m (12 + 6 * s + 1) x j := fun j hj => (pk_un hj).symm
  refine ⟨⟨fun y hy => (a1 y hy).trans (o _ (by omega)), fun y hy => (a2 y hy).trans (o _ (by omega)), fun y hy => (a3 y hy).trans (o _ (by omega))⟩,
    ⟨fun y hy => (b1 y hy).trans (o _ (by omega)), fun y hy => ?_, fun y hy => (b3 y hy).trans (o _ (by omega)), fun y hy => (b4 y hy).trans (o _ (by omega)), fun y hy => (b5 y hy).trans (o _ (by omega)), fun y hy => (b6 y hy).trans (o _ (by omega))⟩,
    ⟨d1.trans (o _ (by omega)), d2.trans (o _ (by omega)), d3.trans (o _ (by omega))⟩, ⟨fun k hk => (o _ (by omega)).symm.trans (f1 k hk), fun k hk j hj => ?_⟩, fun k hk => ?_, g.2⟩
  · show upd (c 4) s x y = _
    by_cases e : y = s
    · subst e; rw [pk_us, pk_us]
    · rw [pk_un e, pk_un (by omega)]; exact b2 y hy
  · rw [vset_ne (by omega)]; exact (f2 k hk j hj).trans (o _ (by omega))
  · rw [vset_ne (by omega)]; exact g.1 k hk
