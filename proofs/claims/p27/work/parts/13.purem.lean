/-! what the reference's methods answer, of its row a of 111 numbers -/
def inB (v lo hi : Int32) : Bool := !decide (v < lo) && !decide (hi < v)
theorem inB_t {v : Int32} {hi : Nat} (h : inB v (nI 0) (nI hi) = true) (hh : hi < 2147483648) : ∃ j, j ≤ hi ∧ v = nI j := by
  have h2 : ¬ v < nI 0 ∧ ¬ nI hi < v := by simpa [inB] using h
  exact nI_of2 (M := nI hi) (nI_toInt (by omega)) h2.1 (Int32.not_lt.mp h2.2)
theorem inB_n {j hi : Nat} (h : j ≤ hi) (hh : hi < 2147483648) : inB (nI j) (nI 0) (nI hi) = true := by
  simp only [inB, Bool.and_eq_true, Bool.not_eq_true', decide_eq_false_iff_not]
  exact ⟨nI_pos (by omega), nI_nlt h (by omega)⟩
theorem inB_1 {j lo hi : Nat} (h1 : lo ≤ j) (h : j ≤ hi) (hh : hi < 2147483648) : inB (nI j) (nI lo) (nI hi) = true := by
  simp only [inB, Bool.and_eq_true, Bool.not_eq_true', decide_eq_false_iff_not]
  exact ⟨nI_nlt h1 (by omega), nI_nlt h (by omega)⟩
def bitM (o : Int32) (k : Nat) : Int32 := (o >>> (nI k &&& 31)) &&& nI 1
def frM (a : Nat → Int32) (k : Nat) : Int32 := if a (84 + 9 * k) = 0 then -1 else a (84 + 9 * k + 1)
def owS (a : Nat → Int32) (o : Int32) (k : Nat) (its : Int32) : Int32 := its - (if bitM o k = nI 1 then a (12 + 6 * k + 1) else nI 0)
def owI (a : Nat → Int32) (o : Int32) (z : Nat) (its : Int32) : Nat → Int32
  | 0 => its
  | j + 1 => owS a o (4 * z + j) (owI a o z its j)
def ownM (a : Nat → Int32) (o : Int32) (s : Nat) : Int32 := clampZ (owI a o (s / 4) (a (4 + s / 4) - nI (s % 4)) 4)
def pmL (a : Nat → Int32) (o : Int32) : Nat → Int32 → Int32
  | 0, x => x
  | z + 1, x => if a (7 + z) = nI 1 then pmL a o z (mn (ownM a o (4 * z + 3)) x) else x
def prM (a : Nat → Int32) (o : Int32) (s : Nat) : Int32 := pmL a o (s / 4) (ownM a o s)
def srcM (a : Nat → Int32) (s : Nat) : Int32 := if 0 < s % 4 then nI (s - 1) else if s = 0 then -1 else if a (7 + s / 4 - 1) = nI 1 then nI (s - 1) else -1
theorem srcM_or (a : Nat → Int32) (s : Nat) : srcM a s = -1 ∨ (srcM a s = nI (s - 1) ∧ 0 < s) := by
  unfold srcM
  split
  · exact Or.inr ⟨rfl, by omega⟩
  · split
    · exact Or.inl rfl
    · split
      · exact Or.inr ⟨rfl, by omega⟩
      · exact Or.inl rfl
def brM (a : Nat → Int32) (s : Nat) : Bool := !decide (a (12 + 6 * s + 0) ≤ a 0)
def whyM (a : Nat → Int32) (o : Int32) (t : Nat) : Int32 :=
  if bitM o t = nI 1 then nI 1 else if a 1 ≤ prM a (o ||| (nI 1 <<< (nI t &&& 31))) t then (if srcM a t = -1 then nI 0 else if brM a (t - 1) = true then nI 3 else nI 0) else nI 2
abbrev OW : Type := Int32 × (Nat → Int32)
def laS (a : Nat → Int32) (k : Nat) (w : OW) : OW :=
  if frM a k = -1 then (w.1, upd w.2 k (-1))
  else let t := (frM a k).toNatClampNeg
    let y := whyM a w.1 t
    (w.1 ||| (if y = 0 then nI 1 <<< (nI t &&& 31) else nI 0), upd w.2 k y)
def laI (a : Nat → Int32) (wh : Nat → Int32) : Nat → OW
  | 0 => (nI 0, wh)
  | k + 1 => laS a k (laI a wh k)
theorem laS_m1 {a : Nat → Int32} {k : Nat} {w : OW} (h : frM a k = -1) : laS a k w = (w.1, upd w.2 k (-1)) := by unfold laS; rw [if_pos h]
theorem laS_t {a : Nat → Int32} {k t : Nat} {w : OW} (h : frM a k = nI t) (ht : t < 12) : laS a k w = (w.1 ||| (if whyM a w.1 t = 0 then nI 1 <<< (nI t &&& 31) else nI 0), upd w.2 k (whyM a w.1 t)) := by
  unfold laS
  rw [h, if_neg (nI_nm1 (by omega)), nIcl (by omega)]
/-- the rounds are lists of at most 8 streets -/
def okM (a : Nat → Int32) : Prop := ∀ k, k < 3 → ∃ n, n ≤ 8 ∧ a (84 + 9 * k) = nI n ∧ ∀ j, j < n → ∃ t, t < 12 ∧ a (84 + 9 * k + 1 + j) = nI t
theorem frM_or {a : Nat → Int32} (h : okM a) {k : Nat} (hk : k < 3) : frM a k = -1 ∨ ∃ t, t < 12 ∧ frM a k = nI t := by
  obtain ⟨n, h1, h2, h3⟩ := h k hk
  unfold frM
  rw [h2]
  by_cases e : n = 0
  · subst e; exact Or.inl (if_pos rfl)
  · rw [if_neg (nI_ne0 (by omega) (by omega))]
    obtain ⟨t, h4, h5⟩ := h3 0 (by omega)
    exact Or.inr ⟨t, h4, h5⟩
def cmM (a : Nat → Int32) (s : Nat) (d : Int32) : Nat → Int32 :=
  let a1 := upd a (12 + 6 * s) (a (12 + 6 * s) + d)
  if a1 (12 + 6 * s) ≤ nI 999 then a1 else upd (upd a1 11 (a1 11 + (a1 (12 + 6 * s) - nI 999))) (12 + 6 * s) (nI 999)
def skI (a : Nat → Int32) (r n k : Nat) : Nat → Int32 := fun j => if j = r then nI (n - 1) else if r + 1 ≤ j ∧ j < r + k then a (j + 1) else a j
def skM (a : Nat → Int32) (c : Nat) : Nat → Int32 := skI a (84 + 9 * c) (a (84 + 9 * c)).toNatClampNeg (a (84 + 9 * c)).toNatClampNeg
theorem skI_1 (a : Nat → Int32) (r n : Nat) : upd a r (nI (n - 1)) = skI a r n 1 := by
  funext j
  by_cases h : j = r
  · subst h; rw [pk_us]; simp [skI]
  · rw [pk_un h]; simp [skI, h]; omega
theorem skI_s (a : Nat → Int32) (r n k : Nat) (hk : 1 ≤ k) : upd (skI a r n k) (r + k) (skI a r n k (r + k + 1)) = skI a r n (k + 1) := by
  funext j
  by_cases h : j = r + k
  · subst h; rw [pk_us]; unfold skI; rw [if_neg (by omega), if_neg (by omega), if_neg (by omega), if_pos (by omega)]
  · rw [pk_un h]
    unfold skI
    by_cases h1 : j = r
    · simp [h1]
    · by_cases h2 : r + 1 ≤ j ∧ j < r + k
      · rw [if_neg h1, if_pos h2, if_neg h1, if_pos (by omega)]
      · rw [if_neg h1, if_neg h2, if_neg h1, if_neg (by omega)]
theorem skI_r (a : Nat → Int32) (r n k : Nat) : skI a r n k r = nI (n - 1) := by simp [skI]
abbrev AC : Type := (Nat → Int32) × Int32
def hfA (a : Nat → Int32) (k : Nat) (g : Int32) : Nat → Int32 :=
  let a1 := upd a (12 + 6 * k) (a (12 + 6 * k) - g)
  let a2 := upd a1 (12 + 6 * k + 4) (a1 (12 + 6 * k + 4) + g)
  upd a2 (12 + 6 * k + 5) (a2 (12 + 6 * k + 5) + nI 1)
def hfS (o : Int32) (k : Nat) (w : AC) : AC :=
  if bitM o k = nI 1 then
    let a3 := hfA w.1 k (mn (prM w.1 o k * w.1 2) (w.1 (12 + 6 * k + 0)))
    (a3, w.2 ||| (if a3 (12 + 6 * k + 0) = 0 then nI 1 <<< (nI k &&& 31) else nI 0))
  else w
def hfI (o : Int32) (a : Nat → Int32) : Nat → AC
  | 0 => (a, nI 0)
  | k + 1 => hfS o k (hfI o a k)
def hcS (o : Int32) (k : Nat) (a : Nat → Int32) : Nat → Int32 :=
  if bitM o k = 0 then (if srcM a (k + 1) = nI k then cmM (upd a (12 + 6 * k) (a (12 + 6 * k) - a (12 + 6 * k + 0) / nI 10)) (k + 1) (a (12 + 6 * k + 0) / nI 10) else a) else a
def hcI (o : Int32) (a : Nat → Int32) : Nat → Nat → Int32
  | 0 => a
  | d + 1 => hcS o (10 - d) (hcI o a d)
def hgS (k : Nat) (a : Nat → Int32) : Nat → Int32 :=
  let a1 := cmM a k (a 3)
  if brM a1 k = true then upd (upd a1 (12 + 6 * k + 3) (a1 (12 + 6 * k + 3) + (nI 1 + a1 (12 + 6 * k + 2)))) (12 + 6 * k + 2) (nI 1)
  else upd (upd a1 (12 + 6 * k + 3) (a1 (12 + 6 * k + 3) + nI 0)) (12 + 6 * k + 2) (nI 0)
def hgI (a : Nat → Int32) : Nat → Nat → Int32
  | 0 => a
  | k + 1 => hgS k (hgI a k)
def hwS (wh : Nat → Int32) (cl : Int32) (k : Nat) (a : Nat → Int32) : Nat → Int32 :=
  let a1 := upd a 10 (a 10 + (if wh k ≤ 0 then nI 0 else nI 1))
  if wh k = 0 then (if (cl >>> (frM a1 k &&& 31)) &&& nI 1 = nI 1 then skM a1 k else a1) else a1
def hwI (wh : Nat → Int32) (cl : Int32) (a : Nat → Int32) : Nat → Nat → Int32
  | 0 => a
  | k + 1 => hwS wh cl k (hwI wh cl a k)
def hourM (a : Nat → Int32) (wh : Nat → Int32) : Nat → Int32 :=
  let w := laI a wh 3
  let v := hfI w.1 a 12
  let a4 := hwI w.2 v.2 (hgI (hcI w.1 v.1 11) 12) 3
  upd a4 9 (a4 9 + nI 1)
def sumM (a : Nat → Int32) (w : Nat) : Nat → Int32
  | 0 => nI 0
  | k + 1 => sumM a w k + a (12 + 6 * k + w)
def brNM (a : Nat → Int32) : Nat → Nat
  | 0 => 0
  | k + 1 => brNM a k + (if brM a k = true then 1 else 0)
theorem brNM_le (a : Nat → Int32) : ∀ k, brNM a k ≤ k
  | 0 => Nat.le_refl 0
  | k + 1 => by
    have := brNM_le a k
    simp only [brNM]
    split <;> omega
theorem va_cpy_0 (f g : Nat → Int32) (s d : Nat) : va_cpy f g s d 0 = g := by
  funext j
  unfold va_cpy
  rw [if_neg (by omega)]
theorem va_cpy_s (f g : Nat → Int32) (s d k : Nat) : upd (va_cpy f g s d k) (d + k) (f (s + k)) = va_cpy f g s d (k + 1) := by
  funext j
  by_cases h : j = d + k
  · subst h; rw [pk_us]; unfold va_cpy; rw [if_pos (by omega)]; congr 1; omega
  · rw [pk_un h]
    unfold va_cpy
    by_cases h2 : d ≤ j ∧ j < d + k
    · rw [if_pos h2, if_pos (by omega)]
    · rw [if_neg h2, if_neg (by omega)]
/-- the saved rows moved up, the oldest dropped, as far as k -/
def shP (p : Nat → Int32) (k : Nat) : Nat → Int32 := fun j => if j < k then p (j + 111) else p j
theorem shP_0 (p : Nat → Int32) : shP p 0 = p := by funext j; simp [shP]
theorem shP_s (p : Nat → Int32) (k : Nat) : upd (shP p k) k (shP p k (k + 111)) = shP p (k + 1) := by
  funext j
  by_cases h : j = k
  · subst h; rw [pk_us]; unfold shP; rw [if_neg (by omega), if_pos (by omega)]
  · rw [pk_un h]
    unfold shP
    by_cases h2 : j < k
    · rw [if_pos h2, if_pos (by omega)]
    · rw [if_neg h2, if_neg (by omega)]
def svP (a p : Nat → Int32) (kp : Nat) : Nat → Int32 := if kp = 6 then va_cpy a (shP p 555) 0 (111 * 5) 111 else va_cpy a p 0 (111 * kp) 111
def svK (kp : Nat) : Nat := if kp = 6 then 6 else kp + 1
theorem hfS_n {o : Int32} {k : Nat} {w : AC} (h : ¬ bitM o k = nI 1) : hfS o k w = w := by unfold hfS; rw [if_neg h]
theorem hfS_0 {o x : Int32} {k : Nat} {w : AC} (h : bitM o k = nI 1) (hx : x = mn (prM w.1 o k * w.1 2) (w.1 (12 + 6 * k + 0))) (h0 : hfA w.1 k x (12 + 6 * k + 0) = 0) : hfS o k w = (hfA w.1 k x, w.2 ||| (nI 1 <<< (nI k &&& 31))) := by
  unfold hfS
  rw [if_pos h, ← hx]
  try dsimp only
  rw [if_pos h0]
theorem hfS_1 {o x : Int32} {k : Nat} {w : AC} (h : bitM o k = nI 1) (hx : x = mn (prM w.1 o k * w.1 2) (w.1 (12 + 6 * k + 0))) (h0 : ¬ hfA w.1 k x (12 + 6 * k + 0) = 0) : hfS o k w = (hfA w.1 k x, w.2 ||| nI 0) := by
  unfold hfS
  rw [if_pos h, ← hx]
  try dsimp only
  rw [if_neg h0]
theorem hcS_1 {o : Int32} {k : Nat} {a : Nat → Int32} (h : ¬ bitM o k = 0) : hcS o k a = a := by unfold hcS; rw [if_neg h]
theorem hcS_2 {o : Int32} {k : Nat} {a : Nat → Int32} (h : bitM o k = 0) (h2 : ¬ srcM a (k + 1) = nI k) : hcS o k a = a := by unfold hcS; rw [if_pos h, if_neg h2]
theorem hcS_3 {o : Int32} {k : Nat} {a : Nat → Int32} (h : bitM o k = 0) (h2 : srcM a (k + 1) = nI k) : hcS o k a = cmM (upd a (12 + 6 * k) (a (12 + 6 * k) - a (12 + 6 * k + 0) / nI 10)) (k + 1) (a (12 + 6 * k + 0) / nI 10) := by unfold hcS; rw [if_pos h, if_pos h2]
theorem hgS_1 {k : Nat} {a : Nat → Int32} (h : brM (cmM a k (a 3)) k = true) : hgS k a = upd (upd (cmM a k (a 3)) (12 + 6 * k + 3) (cmM a k (a 3) (12 + 6 * k + 3) + (nI 1 + cmM a k (a 3) (12 + 6 * k + 2)))) (12 + 6 * k + 2) (nI 1) := by unfold hgS; rw [if_pos h]
theorem hgS_0 {k : Nat} {a : Nat → Int32} (h : brM (cmM a k (a 3)) k = false) : hgS k a = upd (upd (cmM a k (a 3)) (12 + 6 * k + 3) (cmM a k (a 3) (12 + 6 * k + 3) + nI 0)) (12 + 6 * k + 2) (nI 0) := by unfold hgS; rw [if_neg (by rw [h]; decide)]
theorem cmM_t {a : Nat → Int32} {s : Nat} {d : Int32} {j : Nat} (h1 : j ≠ 12 + 6 * s) (h2 : j ≠ 11) : cmM a s d j = a j := by
  unfold cmM
  try dsimp only
  split
  · exact pk_un h1
  · rw [pk_un h1, pk_un h2, pk_un h1]
theorem hfI_t (o : Int32) (a : Nat → Int32) : ∀ k, k ≤ 12 → ∀ j, 84 ≤ j → (hfI o a k).1 j = a j := by
  intro k
  induction k with
  | zero => intro _ j _; rfl
  | succ k ih =>
    intro hk j hj
    rw [hfI]
    unfold hfS
    split
    · show hfA _ k _ j = a j
      unfold hfA
      try dsimp only
      rw [pk_un (by omega), pk_un (by omega), pk_un (by omega)]
      exact ih (by omega) j hj
    · exact ih (by omega) j hj
theorem hcI_t (o : Int32) (a : Nat → Int32) : ∀ k, k ≤ 11 → ∀ j, 84 ≤ j → hcI o a k j = a j := by
  intro k
  induction k with
  | zero => intro _ j _; rfl
  | succ k ih =>
    intro hk j hj
    rw [hcI]
    unfold hcS
    split
    · split
      · rw [cmM_t (by omega) (by omega), pk_un (by omega)]
        exact ih (by omega) j hj
      · exact ih (by omega) j hj
    · exact ih (by omega) j hj
theorem hgI_t (a : Nat → Int32) : ∀ k, k ≤ 12 → ∀ j, 84 ≤ j → hgI a k j = a j := by
  intro k
  induction k with
  | zero => intro _ j _; rfl
  | succ k ih =>
    intro hk j hj
    rw [hgI]
    unfold hgS
    try dsimp only
    split
    · rw [pk_un (by omega), pk_un (by omega), cmM_t (by omega) (by omega)]
      exact ih (by omega) j hj
    · rw [pk_un (by omega), pk_un (by omega), cmM_t (by omega) (by omega)]
      exact ih (by omega) j hj
theorem skI_out {a : Nat → Int32} {r n j : Nat} (h : r + n ≤ j) (hn : 0 < n) : skI a r n n j = a j := by
  unfold skI
  rw [if_neg (by omega), if_neg (by omega)]
theorem hwS_1 {wh : Nat → Int32} {cl : Int32} {k : Nat} {a a1 : Nat → Int32} (h1 : a1 = upd a 10 (a 10 + (if wh k ≤ 0 then nI 0 else nI 1))) (h : ¬ wh k = 0) : hwS wh cl k a = a1 := by unfold hwS; rw [if_neg h, h1]
theorem hwS_2 {wh : Nat → Int32} {cl : Int32} {k : Nat} {a a1 : Nat → Int32} (h1 : a1 = upd a 10 (a 10 + (if wh k ≤ 0 then nI 0 else nI 1))) (h : wh k = 0) (h2 : ¬ (cl >>> (frM a1 k &&& 31)) &&& nI 1 = nI 1) : hwS wh cl k a = a1 := by
  unfold hwS
  rw [if_pos h, ← h1]
  try dsimp only
  rw [if_neg h2]
theorem hwS_3 {wh : Nat → Int32} {cl : Int32} {k n : Nat} {a a1 : Nat → Int32} (h1 : a1 = upd a 10 (a 10 + (if wh k ≤ 0 then nI 0 else nI 1))) (h : wh k = 0) (h2 : (cl >>> (frM a1 k &&& 31)) &&& nI 1 = nI 1) (hn : a1 (84 + 9 * k) = nI n) (hn8 : n ≤ 8) : hwS wh cl k a = skI a1 (84 + 9 * k) n n := by
  unfold hwS
  rw [if_pos h, ← h1]
  try dsimp only
  rw [if_pos h2]
  unfold skM
  rw [hn, nIcl (by omega)]
theorem laI_f {a : Nat → Int32} (hok : okM a) (wh : Nat → Int32) : ∀ n, n ≤ 3 → ∀ k, k < n → (laI a wh n).2 k = 0 → ¬ frM a k = -1 := by
  intro n
  induction n with
  | zero => intro _ k hk; omega
  | succ n ih =>
    intro hn k hk h0
    rw [laI] at h0
    by_cases e : k = n
    · subst e
      intro hf
      rw [laS_m1 hf] at h0
      have h0 : upd _ k (-1) k = 0 := h0
      rw [pk_us] at h0
      exact absurd h0 (by decide)
    · refine ih (by omega) k (by omega) ?_
      rcases frM_or hok (show n < 3 by omega) with hf | ⟨t, ht, hf⟩
      · rw [laS_m1 hf] at h0
        exact (pk_un (f := (laI a wh n).2) e).symm.trans h0
      · rw [laS_t hf ht] at h0
        exact (pk_un (f := (laI a wh n).2) e).symm.trans h0
theorem laI_n0 {a : Nat → Int32} (hok : okM a) {wh : Nat → Int32} {k n : Nat} (hk : k < 3) (h0 : (laI a wh 3).2 k = 0) (hn : a (84 + 9 * k) = nI n) : 0 < n := by
  rcases Nat.eq_zero_or_pos n with e | e
  · subst e
    exact absurd (show frM a k = -1 from if_pos hn) (laI_f hok wh 3 (by omega) k hk h0)
  · exact e
theorem laS_1 (a : Nat → Int32) (k : Nat) (w w' : OW) (h : w.1 = w'.1) : (laS a k w).1 = (laS a k w').1 ∧ (laS a k w).2 k = (laS a k w').2 k := by
  unfold laS
  split
  · exact ⟨h, by show upd _ k _ k = upd _ k _ k; rw [pk_us, pk_us]⟩
  · refine ⟨?_, ?_⟩
    · show _ ||| _ = _ ||| _
      rw [h]
    · show upd _ k _ k = upd _ k _ k
      rw [pk_us, pk_us, h]
theorem laS_o (a : Nat → Int32) (k : Nat) (w : OW) {j : Nat} (h : j ≠ k) : (laS a k w).2 j = w.2 j := by
  unfold laS
  split
  · exact pk_un h
  · exact pk_un h
theorem laI_eq (a wh wh' : Nat → Int32) : ∀ n, (laI a wh n).1 = (laI a wh' n).1 ∧ ∀ k, k < n → (laI a wh n).2 k = (laI a wh' n).2 k := by
  intro n
  induction n with
  | zero => exact ⟨rfl, fun k hk => absurd hk (Nat.not_lt_zero _)⟩
  | succ n ih =>
    obtain ⟨h1, h2⟩ := ih
    have h := laS_1 a n _ _ h1
    refine ⟨h.1, fun k hk => ?_⟩
    by_cases e : k = n
    · subst e; exact h.2
    · rw [laI, laI, laS_o a n _ e, laS_o a n _ e]; exact h2 k (by omega)
theorem hwI_eq {wh wh' : Nat → Int32} {cl : Int32} {a : Nat → Int32} : ∀ n, (∀ k, k < n → wh k = wh' k) → hwI wh cl a n = hwI wh' cl a n := by
  intro n
  induction n with
  | zero => intro _; rfl
  | succ n ih =>
    intro h
    rw [hwI, hwI, ih (fun k hk => h k (by omega))]
    unfold hwS
    rw [h n (by omega)]
def hourF (a : Nat → Int32) : Nat → Int32 := hourM a (fun _ => 0)
theorem hourM_eq (a wh : Nat → Int32) : hourM a wh = hourF a := by
  unfold hourF hourM
  obtain ⟨h1, h2⟩ := laI_eq a wh (fun _ => 0) 3
  try dsimp only
  rw [h1, hwI_eq 3 h2]
theorem hour_end {a wh a1 a2 a3 a4 wh2 : Nat → Int32} {op cl : Int32} (h1 : (op, wh2) = laI a wh 3) (h2 : (a1, cl) = hfI op a 12) (h3 : a2 = hcI op a1 11) (h4 : a3 = hgI a2 12) (h5 : a4 = hwI wh2 cl a3 3) : upd a4 9 (a4 9 + nI 1) = hourF a := by
  rw [← hourM_eq a wh]
  unfold hourM
  rw [← h1]
  try dsimp only
  rw [← h2]
  try dsimp only
  rw [← h3, ← h4, ← h5]
