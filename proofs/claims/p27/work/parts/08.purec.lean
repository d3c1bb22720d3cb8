/-! what the class's methods answer, of a state's numbers c -/
def brB (c : Nat → Nat → Int32) (s : Nat) : Bool := !decide (c 3 s ≤ c 2 0)
def brN (c : Nat → Nat → Int32) : Nat → Nat
  | 0 => 0
  | i + 1 => brN c i + (if brB c i then 1 else 0)
def srcI (c : Nat → Nat → Int32) (s : Nat) : Int32 := if s % 4 = 0 then (if s / 4 = 0 then -1 else if c 1 (s / 4 - 1) = 0 then -1 else nI (s - 1)) else nI (s - 1)
def fedI (c : Nat → Nat → Int32) (s : Nat) : Int32 := if 12 ≤ s + 1 then -1 else if srcI c (s + 1) = nI s then nI (s + 1) else -1
def mn (x y : Int32) : Int32 := if y ≤ x then y else x
def clampZ (x : Int32) : Int32 := if 0 ≤ x then x else 0
def prL (c : Nat → Nat → Int32) (dr : Nat → Int32) : Nat → Int32 → Int32
  | 0, x => x
  | z + 1, x => if c 1 z = 0 then x else prL c dr z (mn (c 0 z - nI 3 - dr z) x)
def prC (c : Nat → Nat → Int32) (dr : Nat → Int32) (s : Nat) : Int32 := clampZ (prL c dr (s / 4) (c 0 (s / 4) - nI (s % 4) - dr (s / 4)))
def keptD (x : Int32) : Int32 := if nI 999 < x then nI 999 else x
def addDC (c : Nat → Nat → Int32) (s : Nat) (x : Int32) : Nat → Nat → Int32 := vset (vset c 3 (upd (c 3) s (keptD (c 3 s + x)))) 12 (upd (c 12) 5 (c 12 5 + (c 3 s + x - keptD (c 3 s + x))))
def Eqv (c d : Nat → Nat → Int32) : Prop := (∀ k, k < 3 → c 0 k = d 0 k) ∧ (∀ k, k < 2 → c 1 k = d 1 k) ∧ (∀ k, k < 4 → c 2 k = d 2 k) ∧ (∀ i, 3 ≤ i → i < 9 → ∀ k, k < 12 → c i k = d i k) ∧ (∀ i, 9 ≤ i → i < 12 → ∀ k, k < 8 → c i k = d i k) ∧ (∀ k, 3 ≤ k → k < 6 → c 12 k = d 12 k)
theorem cpy_in {f g : Nat → Int32} {n k : Nat} (h : k < n) : va_cpy f g 0 0 n k = f k := by simp [va_cpy, h]
def tourL (L : Nat → Nat) : Prop := L 0 ≤ 8 ∧ L 1 ≤ 8 ∧ L 2 ≤ 8
def L1 : Nat → Nat := fun k => if k = 0 then 1 else 0
theorem brN_le (c : Nat → Nat → Int32) : ∀ i, brN c i ≤ i
  | 0 => Nat.le_refl 0
  | i + 1 => by
    have := brN_le c i
    simp only [brN]
    split <;> omega
