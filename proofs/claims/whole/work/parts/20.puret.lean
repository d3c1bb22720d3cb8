/-! the buffer, read sign by sign: place 0: a crew, 1: a street, 2: behind a 1, 3: behind a street -/
def isCr (x : Int32) : Bool := !decide (x < nI 97) && !decide (nI 100 ≤ x)
def isDg (x : Int32) : Bool := !decide (x < nI 48) && !decide (nI 57 < x)
def sepP (x : Int32) : Nat := if x = nI 59 then 0 else 1
def sepB (ps : Nat) (x : Int32) : Bool := decide (x = nI 59) || (decide (x = nI 44) && decide (ps < 8))
def tkP (pl : Nat) (x : Int32) : Nat := if pl = 0 then 1 else if pl = 1 then (if x = nI 49 then 2 else 3) else if pl = 2 then (if x = nI 48 then 3 else if x = nI 49 then 3 else sepP x) else sepP x
def tkS (pl ps : Nat) : Nat := if pl = 0 then 0 else if pl = 1 then ps + 1 else ps
def tkB (pl ps : Nat) (x : Int32) : Bool := if pl = 0 then isCr x else if pl = 1 then isDg x else if pl = 2 then (if x = nI 48 then true else if x = nI 49 then true else sepB ps x) else sepB ps x
def stT (f : Nat → Int32) (ps : Nat) : Nat → Nat × Nat
  | 0 => (0, ps)
  | i + 1 => (tkP (stT f ps i).1 (f i), tkS (stT f ps i).1 (stT f ps i).2)
/-- the first sign that cannot stand where it stands, or n -/
def erT (f : Nat → Int32) (ps : Nat) : Nat → Nat
  | 0 => 0
  | i + 1 => if erT f ps i < i then erT f ps i else if tkB (stT f ps i).1 (stT f ps i).2 (f i) = true then i + 1 else i
theorem erT_le (f : Nat → Int32) (ps : Nat) : ∀ n, erT f ps n ≤ n
  | 0 => Nat.le_refl 0
  | i + 1 => by
    have := erT_le f ps i
    rw [erT]
    split
    · omega
    · split <;> omega
theorem erT_s {f : Nat → Int32} {ps i : Nat} (h : erT f ps i = i) (hb : tkB (stT f ps i).1 (stT f ps i).2 (f i) = true) : erT f ps (i + 1) = i + 1 := by
  rw [erT, if_neg (by omega), if_pos hb]
theorem erT_x {f : Nat → Int32} {ps i : Nat} (h : erT f ps i = i) (hb : tkB (stT f ps i).1 (stT f ps i).2 (f i) = false) : ∀ n, i < n → erT f ps n = i := by
  intro n
  induction n with
  | zero => intro h; omega
  | succ n ih =>
    intro hn
    rw [erT]
    by_cases e : i = n
    · subst e
      rw [h, if_neg (by omega), if_neg (by rw [hb]; decide)]
    · have := ih (by omega)
      rw [this, if_pos (by omega)]
theorem tkP_le {pl : Nat} (x : Int32) : tkP pl x ≤ 3 := by
  unfold tkP sepP
  split
  · omega
  · split
    · split <;> omega
    · split
      · split
        · omega
        · split
          · omega
          · split <;> omega
      · split <;> omega
theorem stT_le (f : Nat → Int32) (ps : Nat) : ∀ i, (stT f ps i).1 ≤ 3
  | 0 => Nat.zero_le _
  | i + 1 => tkP_le _
theorem stT_2 (f : Nat → Int32) (ps : Nat) : ∀ i, (stT f ps i).2 ≤ ps + i
  | 0 => Nat.le_refl _
  | i + 1 => by
    have := stT_2 f ps i
    show tkS _ _ ≤ _
    unfold tkS
    split
    · omega
    · split <;> omega
def cmB (f : Nat → Int32) (ps n : Nat) : Bool := decide (erT f ps n = n) && (decide ((stT f ps n).1 = 2) || decide ((stT f ps n).1 = 3))
theorem stT_b (f : Nat → Int32) {ps : Nat} (h : ps ≤ 61) : ∀ i, i ≤ 61 → (stT f ps i).2 ≤ 61
  | 0, _ => h
  | 1, _ => by show tkS 0 ps ≤ 61; exact Nat.zero_le _
  | i + 2, hi => by
    have key : ∀ j, (stT f ps (j + 1)).2 ≤ j := by
      intro j
      induction j with
      | zero => exact Nat.le_refl 0
      | succ j ih =>
        show tkS (stT f ps (j + 1)).1 (stT f ps (j + 1)).2 ≤ j + 1
        unfold tkS
        split
        · omega
        · split <;> omega
    exact Nat.le_trans (key (i + 1)) (by omega)
theorem stT_ps (f : Nat → Int32) (a b : Nat) : ∀ i, stT f a (i + 1) = stT f b (i + 1)
  | 0 => rfl
  | i + 1 => by rw [stT, stT_ps f a b i]; rfl
theorem erT_ps (f : Nat → Int32) (a b : Nat) : ∀ i, erT f a i = erT f b i
  | 0 => rfl
  | 1 => rfl
  | i + 2 => by
    have h1 := erT_ps f a b (i + 1)
    have h2 := stT_ps f a b i
    show (if erT f a (i + 1) < i + 1 then erT f a (i + 1) else if tkB (stT f a (i + 1)).1 (stT f a (i + 1)).2 (f (i + 1)) = true then i + 1 + 1 else i + 1) = (if erT f b (i + 1) < i + 1 then erT f b (i + 1) else if tkB (stT f b (i + 1)).1 (stT f b (i + 1)).2 (f (i + 1)) = true then i + 1 + 1 else i + 1)
    rw [h1, h2]
