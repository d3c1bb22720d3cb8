/-- the hour, on both sides -/
theorem play_sim {c : Nat → Nat → Int32} {L : Nat → Nat} {m : Nat → Int32} (h : Sim c L m) {f g re wk2 dr2 re2 : Nat → Int32} (hw : (wk2, dr2, re2) = opI c L (fillF f 12 (-1), fillF g 3 (nI 0), re) 3) : Sim (playF c L wk2 dr2 re2).1 (playF c L wk2 dr2 re2).2 (hourF m) := play_sim2 h hw
theorem play_ex {c : Nat → Nat → Int32} {L : Nat → Nat} : ∃ c2 L2, ∀ m, Sim c L m → Sim c2 L2 (hourF m) := by
  obtain ⟨w, hw⟩ : ∃ w, w = opI c L (fillF (fun _ => 0) 12 (-1), fillF (fun _ => 0) 3 (nI 0), (fun _ => 0)) 3 := ⟨_, rfl⟩
  exact ⟨_, _, fun m h => play_sim h (wk2 := w.1) (dr2 := w.2.1) (re2 := w.2.2) hw⟩
def hourN (m : Nat → Int32) : Nat → Nat → Int32
  | 0 => m
  | k + 1 => hourF (hourN m k)
theorem okS.hour {m : Nat → Int32} (h : okS m) : okS (hourF m) := by
  obtain ⟨c, L, h⟩ := h
  obtain ⟨c2, L2, h2⟩ := play_ex (c := c) (L := L)
  exact ⟨c2, L2, h2 m h⟩
theorem okS.hourN {m : Nat → Int32} (h : okS m) : ∀ k, okS (hourN m k)
  | 0 => h
  | k + 1 => (h.hourN k).hour
/-- two rows that one state stands for -/
def eqS (m m1 : Nat → Int32) : Prop := ∃ c L, Sim c L m ∧ Sim c L m1
theorem eqS.hour {m m1 : Nat → Int32} (h : eqS m m1) : eqS (hourF m) (hourF m1) := by
  obtain ⟨c, L, h, h1⟩ := h
  obtain ⟨c2, L2, h2⟩ := play_ex (c := c) (L := L)
  exact ⟨c2, L2, h2 m h, h2 m1 h1⟩
theorem eqS.hourN {m m1 : Nat → Int32} (h : eqS m m1) : ∀ k, eqS (hourN m k) (hourN m1 k)
  | 0 => h
  | k + 1 => (h.hourN k).hour
