/-! an hour of the class, step by step, of a state's numbers c and its rounds' lengths L -/
theorem srcI_or (c : Nat → Nat → Int32) (s : Nat) : srcI c s = -1 ∨ (srcI c s = nI (s - 1) ∧ 0 < s) := by
  unfold srcI
  split
  · split
    · exact Or.inl rfl
    · split
      · exact Or.inl rfl
      · exact Or.inr ⟨rfl, by omega⟩
  · exact Or.inr ⟨rfl, by omega⟩
theorem fedI_or (c : Nat → Nat → Int32) (s : Nat) : fedI c s = -1 ∨ (fedI c s = nI (s + 1) ∧ s + 1 < 12) := by
  unfold fedI
  split
  · exact Or.inl rfl
  · split
    · exact Or.inr ⟨rfl, by omega⟩
    · exact Or.inl rfl
def okT (c : Nat → Nat → Int32) (L : Nat → Nat) : Prop := ∀ k, k < 3 → L k ≤ 8 ∧ ∀ j, j < L k → ∃ t, t < 12 ∧ c (9 + k) j = nI t
theorem tAt_0 (n : Nat) (f : Nat → Int32) : tAt n f (nI 0) = if 0 < n then f 0 else -1 := by
  unfold tAt
  rw [if_neg (nI_pos (by omega)), nIcl (by omega)]
theorem tAt_or {n : Nat} {f : Nat → Int32} (h : ∀ j, j < n → ∃ t, t < 12 ∧ f j = nI t) : tAt n f (nI 0) = -1 ∨ ∃ t, t < 12 ∧ tAt n f (nI 0) = nI t := by
  rw [tAt_0]
  split
  · next h0 => obtain ⟨t, h1, h2⟩ := h 0 h0; exact Or.inr ⟨t, h1, h2⟩
  · exact Or.inl rfl
def rsnC (c : Nat → Nat → Int32) (wk dr : Nat → Int32) (s : Nat) : Int32 :=
  if wk s = -1 then (if c 2 1 ≤ prC c (upd dr (s / 4) (dr (s / 4) + c 4 s)) s then (if srcI c s = -1 then nI 0 else if brB c (s - 1) = true then nI 3 else nI 0) else nI 2) else nI 1
abbrev T3 : Type := (Nat → Int32) × (Nat → Int32) × (Nat → Int32)
def opS (c : Nat → Nat → Int32) (L : Nat → Nat) (k : Nat) (w : T3) : T3 :=
  let t := tAt (L k) (c (9 + k)) (nI 0)
  if t = -1 then (w.1, w.2.1, upd w.2.2 k (-1))
  else let s := t.toNatClampNeg
    let r := rsnC c w.1 w.2.1 s
    if r = 0 then (upd w.1 s (nI k), upd w.2.1 (s / 4) (w.2.1 (s / 4) + c 4 s), upd w.2.2 k r) else (w.1, w.2.1, upd w.2.2 k r)
def opI (c : Nat → Nat → Int32) (L : Nat → Nat) (w : T3) : Nat → T3
  | 0 => w
  | k + 1 => opS c L k (opI c L w k)
def minJ (x y : Int32) : Int32 := if y < x then y else x
abbrev CL2 : Type := (Nat → Nat → Int32) × (Nat → Nat)
def dropCL (k : Nat) (c : Nat → Nat → Int32) (L : Nat → Nat) : CL2 := (vset c (9 + k) (drF (L k) (c (9 + k))), upN L k (L k - 1))
def flC (c : Nat → Nat → Int32) (i : Nat) (x : Int32) : Nat → Nat → Int32 :=
  let c1 := vset c 3 (upd (c 3) i (c 3 i - x))
  let c2 := vset c1 7 (upd (c1 7) i (c1 7 i + x))
  vset c2 8 (upd (c2 8) i (c2 8 i + nI 1))
def flS (wk dr : Nat → Int32) (i : Nat) (w : CL2) : CL2 :=
  if wk i = -1 then w
  else let c3 := flC w.1 i (minJ (prC w.1 dr i * w.1 2 2) (w.1 3 i))
    if c3 3 i = 0 then dropCL (wk i).toNatClampNeg c3 w.2 else (c3, w.2)
def flI (wk dr : Nat → Int32) (w : CL2) : Nat → CL2
  | 0 => w
  | i + 1 => flS wk dr i (flI wk dr w i)
def caS (wk : Nat → Int32) (i : Nat) (c : Nat → Nat → Int32) : Nat → Nat → Int32 :=
  if fedI c i = -1 then c else if wk i = -1 then addDC (vset c 3 (upd (c 3) i (c 3 i - c 3 i / nI 10))) (i + 1) (c 3 i / nI 10) else c
def caI (wk : Nat → Int32) (c : Nat → Nat → Int32) : Nat → Nat → Nat → Int32
  | 0 => c
  | d + 1 => caS wk (11 - d) (caI wk c d)
def coS (i : Nat) (c : Nat → Nat → Int32) : Nat → Nat → Int32 :=
  let c1 := if brB c i = true then vset c 6 (upd (c 6) i (c 6 i + (if c 5 i = 0 then nI 1 else nI 2))) else c
  vset c1 5 (upd (c1 5) i (bI (brB c i)))
def coI (c : Nat → Nat → Int32) : Nat → Nat → Nat → Int32
  | 0 => c
  | i + 1 => coS i (coI c i)
def adI (c : Nat → Nat → Int32) : Nat → Nat → Nat → Int32
  | 0 => c
  | i + 1 => addDC (adI c i) i (adI c i 2 3)
def waI (re : Nat → Int32) (c : Nat → Nat → Int32) : Nat → Nat → Nat → Int32
  | 0 => c
  | i + 1 => if re i ≤ 0 then waI re c i else vset (waI re c i) 12 (upd (waI re c i 12) 4 (waI re c i 12 4 + nI 1))
theorem opS_m1 {c : Nat → Nat → Int32} {L : Nat → Nat} {k : Nat} {w : T3} (h : tAt (L k) (c (9 + k)) (nI 0) = -1) : opS c L k w = (w.1, w.2.1, upd w.2.2 k (-1)) := by
  unfold opS
  rw [if_pos h]
theorem opS_t0 {c : Nat → Nat → Int32} {L : Nat → Nat} {k t : Nat} {w : T3} (ht : t < 12) (h : tAt (L k) (c (9 + k)) (nI 0) = nI t) (hr : rsnC c w.1 w.2.1 t = 0) : opS c L k w = (upd w.1 t (nI k), upd w.2.1 (t / 4) (w.2.1 (t / 4) + c 4 t), upd w.2.2 k (rsnC c w.1 w.2.1 t)) := by
  unfold opS
  rw [h, if_neg (nI_nm1 (by omega)), nIcl (by omega)]
  dsimp only
  rw [if_pos hr]
theorem opS_t1 {c : Nat → Nat → Int32} {L : Nat → Nat} {k t : Nat} {w : T3} (ht : t < 12) (h : tAt (L k) (c (9 + k)) (nI 0) = nI t) (hr : ¬ rsnC c w.1 w.2.1 t = 0) : opS c L k w = (w.1, w.2.1, upd w.2.2 k (rsnC c w.1 w.2.1 t)) := by
  unfold opS
  rw [h, if_neg (nI_nm1 (by omega)), nIcl (by omega)]
  dsimp only
  rw [if_neg hr]
theorem flS_m1 {wk dr : Nat → Int32} {i : Nat} {w : CL2} (h : wk i = -1) : flS wk dr i w = w := by
  unfold flS
  rw [if_pos h]
theorem flS_nd {wk dr : Nat → Int32} {i k : Nat} {x : Int32} {w : CL2} (h : wk i = nI k) (hk : k < 3) (hx : x = minJ (prC w.1 dr i * w.1 2 2) (w.1 3 i)) (h0 : ¬ flC w.1 i x 3 i = 0) : flS wk dr i w = (flC w.1 i x, w.2) := by
  unfold flS
  rw [h, if_neg (nI_nm1 (by omega)), ← hx]
  dsimp only
  rw [if_neg h0]
theorem flS_d {wk dr : Nat → Int32} {i k : Nat} {x : Int32} {w : CL2} (h : wk i = nI k) (hk : k < 3) (hx : x = minJ (prC w.1 dr i * w.1 2 2) (w.1 3 i)) (h0 : flC w.1 i x 3 i = 0) : flS wk dr i w = dropCL k (flC w.1 i x) w.2 := by
  unfold flS
  rw [h, if_neg (nI_nm1 (by omega)), ← hx, nIcl (by omega)]
  dsimp only
  rw [if_pos h0]
theorem upN_le {L : Nat → Nat} (h : ∀ k, k < 3 → L k ≤ 8) (j : Nat) (hj : j < 3) : ∀ k, k < 3 → upN L j (L j - 1) k ≤ 8 := by
  intro k hk
  unfold upN
  have := h k hk
  have := h j hj
  split <;> omega
theorem caS_a {wk : Nat → Int32} {i : Nat} {c : Nat → Nat → Int32} (h : fedI c i = -1) : caS wk i c = c := by unfold caS; rw [if_pos h]
theorem caS_b {wk : Nat → Int32} {i : Nat} {c : Nat → Nat → Int32} (h : fedI c i = nI (i + 1)) (hi : i < 12) (hw : ¬ wk i = -1) : caS wk i c = c := by unfold caS; rw [if_neg (by rw [h]; exact nI_nm1 (by omega)), if_neg hw]
theorem caS_c {wk : Nat → Int32} {i : Nat} {c : Nat → Nat → Int32} (h : fedI c i = nI (i + 1)) (hi : i < 12) (hw : wk i = -1) : caS wk i c = addDC (vset c 3 (upd (c 3) i (c 3 i - c 3 i / nI 10))) (i + 1) (c 3 i / nI 10) := by unfold caS; rw [if_neg (by rw [h]; exact nI_nm1 (by omega)), if_pos hw]
theorem coS_1 {i : Nat} {c : Nat → Nat → Int32} (h : brB c i = false) : coS i c = vset c 5 (upd (c 5) i (bI (brB c i))) := by unfold coS; rw [h]; rfl
theorem coS_2 {i : Nat} {c : Nat → Nat → Int32} (h : brB c i = true) (h5 : c 5 i = 0) : coS i c = vset (vset c 6 (upd (c 6) i (c 6 i + nI 1))) 5 (upd (c 5) i (bI (brB c i))) := by unfold coS; rw [h, h5]; rfl
theorem coS_3 {i : Nat} {c : Nat → Nat → Int32} (h : brB c i = true) (h5 : ¬ c 5 i = 0) : coS i c = vset (vset c 6 (upd (c 6) i (c 6 i + nI 2))) 5 (upd (c 5) i (bI (brB c i))) := by unfold coS; rw [h, if_neg h5]; rfl
theorem opI_wk {c : Nat → Nat → Int32} {L : Nat → Nat} (hT : okT c L) (w : T3) (hw : ∀ i, i < 12 → w.1 i = -1 ∨ ∃ k, k < 3 ∧ w.1 i = nI k) : ∀ n, n ≤ 3 → ∀ i, i < 12 → (opI c L w n).1 i = -1 ∨ ∃ k, k < 3 ∧ (opI c L w n).1 i = nI k := by
  intro n
  induction n with
  | zero => exact fun _ => hw
  | succ n ih =>
    intro hn i hi
    have ih := ih (by omega)
    rw [opI]
    rcases tAt_or (hT n (by omega)).2 with h | ⟨t, ht, h⟩
    · rw [opS_m1 h]; exact ih i hi
    · by_cases hr : rsnC c (opI c L w n).1 (opI c L w n).2.1 t = 0
      · rw [opS_t0 ht h hr]
        show upd _ t (nI n) i = -1 ∨ _
        by_cases e : i = t
        · subst e; exact Or.inr ⟨n, by omega, pk_us⟩
        · have e1 : upd (opI c L w n).1 t (nI n) i = (opI c L w n).1 i := pk_un e
          rcases ih i hi with q | ⟨k, q1, q2⟩
          · exact Or.inl (e1.trans q)
          · exact Or.inr ⟨k, q1, e1.trans q2⟩
      · rw [opS_t1 ht h hr]; exact ih i hi
theorem vset_ne {c : Nat → Nat → Int32} {i j : Nat} {f : Nat → Int32} (h : j ≠ i) : vset c i f j = c j := by unfold vset; rw [if_neg h]
theorem vset_self (c : Nat → Nat → Int32) (i : Nat) : vset c i (c i) = c := by
  funext j
  unfold vset
  split
  · next h => rw [h]
  · rfl
theorem addDC_ne {c : Nat → Nat → Int32} {s j : Nat} {x : Int32} (h1 : j ≠ 3) (h2 : j ≠ 12) : addDC c s x j = c j := by unfold addDC; rw [vset_ne h2, vset_ne h1]
theorem caI_t {wk : Nat → Int32} {c : Nat → Nat → Int32} {j : Nat} (h1 : j ≠ 3) (h2 : j ≠ 12) : ∀ d, caI wk c d j = c j
  | 0 => rfl
  | d + 1 => by
    rw [caI]
    unfold caS
    split
    · exact caI_t h1 h2 d
    · split
      · rw [addDC_ne h1 h2, vset_ne h1]; exact caI_t h1 h2 d
      · exact caI_t h1 h2 d
theorem adI_t {c : Nat → Nat → Int32} {j : Nat} (h1 : j ≠ 3) (h2 : j ≠ 12) : ∀ d, adI c d j = c j
  | 0 => rfl
  | d + 1 => by rw [adI, addDC_ne h1 h2]; exact adI_t h1 h2 d
theorem coI_t {c : Nat → Nat → Int32} {j : Nat} (h1 : j ≠ 5) (h2 : j ≠ 6) : ∀ d, coI c d j = c j
  | 0 => rfl
  | d + 1 => by
    rw [coI]
    unfold coS
    split
    · rw [vset_ne h1, vset_ne h2]; exact coI_t h1 h2 d
    · rw [vset_ne h1]; exact coI_t h1 h2 d
/-- the numbers of a state behind the hour, when wk, dr, re are what it found out -/
def playF (c : Nat → Nat → Int32) (L : Nat → Nat) (wk dr re : Nat → Int32) : CL2 :=
  let w := flI wk dr (waI re c 3, L) 12
  let c3 := coI (adI (caI wk w.1 12) 12) 12
  (vset c3 12 (upd (c3 12) 3 (c3 12 3 + nI 1)), w.2)
theorem play_end {c c1 c2 c3 c4 c5 : Nat → Nat → Int32} {L L2 : Nat → Nat} {wk dr re : Nat → Int32} (h1 : c1 = waI re c 3) (h2 : (c2, L2) = flI wk dr (c1, L) 12) (h3 : c3 = caI wk c2 12) (h4 : c4 = adI c3 12) (h5 : c5 = coI c4 12) :
    vset (vset (vset (vset c5 12 (upd (c5 12) 3 (c5 12 3 + nI 1))) 9 (c2 9)) 10 (c2 10)) 11 (c2 11) = (playF c L wk dr re).1 ∧ L2 = (playF c L wk dr re).2 := by
  have e : playF c L wk dr re = (vset c5 12 (upd (c5 12) 3 (c5 12 3 + nI 1)), L2) := by
    unfold playF
    rw [← h1, ← h2]
    dsimp only
    rw [← h3, ← h4, ← h5]
  rw [e]
  refine ⟨?_, rfl⟩
  have t : ∀ j, j ≠ 3 → j ≠ 12 → j ≠ 5 → j ≠ 6 → c2 j = vset c5 12 (upd (c5 12) 3 (c5 12 3 + nI 1)) j := by
    intro j a1 a2 a3 a4
    rw [vset_ne a2, h5, coI_t a3 a4, h4, adI_t a1 a2, h3, caI_t a1 a2]
  rw [t 9 (by omega) (by omega) (by omega) (by omega), t 10 (by omega) (by omega) (by omega) (by omega), t 11 (by omega) (by omega) (by omega) (by omega), vset_self]
  generalize vset c5 12 _ = d
  rw [vset_self, vset_self]
