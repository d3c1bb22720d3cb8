/-! what the reference's public methods answer: answer, thrown, now, past, kept -/
abbrev R5 : Type := Int32 × Int32 × (Nat → Int32) × (Nat → Int32) × Nat
def noR (k : Nat) (now past : Nat → Int32) (kp : Nat) : R5 := (nI 0, nI k, now, past, kp)
def setR (k : Nat) (v : Int32) (now past : Nat → Int32) (kp : Nat) : R5 := (now k, nI 0, upd now k v, svP now past kp, svK kp)
def pressureP (zn p : Int32) (now past : Nat → Int32) (kp : Nat) : R5 := if inB zn (nI 0) (nI 2) = true then (if inB p (nI 0) (nI 99) = true then setR (4 + zn.toNatClampNeg) p now past kp else noR 2 now past kp) else noR 1 now past kp
def valveP (zn : Int32) (ob : Bool) (now past : Nat → Int32) (kp : Nat) : R5 := if inB zn (nI 0) (nI 1) = true then setR (7 + zn.toNatClampNeg) (bI ob) now past kp else noR 1 now past kp
def dirtP (st d : Int32) (now past : Nat → Int32) (kp : Nat) : R5 := if inB st (nI 0) (nI 11) = true then (if inB d (nI 0) (nI 999) = true then setR (12 + 6 * st.toNatClampNeg) d now past kp else noR 2 now past kp) else noR 1 now past kp
def hydrantP (st d : Int32) (now past : Nat → Int32) (kp : Nat) : R5 := if inB st (nI 0) (nI 11) = true then (if inB d (nI 1) (nI 30) = true then setR (12 + 6 * st.toNatClampNeg + 1) d now past kp else noR 2 now past kp) else noR 1 now past kp
def sendR (r n : Nat) (x : Int32) (now past : Nat → Int32) (kp : Nat) : R5 := (nI (n + 1), nI 0, upd (upd now r (nI (n + 1))) (r + (n + 1)) x, svP now past kp, svK kp)
def sendP (cr st : Int32) (now past : Nat → Int32) (kp : Nat) : R5 :=
  if inB cr (nI 0) (nI 2) = true then (if inB st (nI 0) (nI 11) = true then (if (now (84 + 9 * cr.toNatClampNeg)).toNatClampNeg = 8 then noR 2 now past kp else sendR (84 + 9 * cr.toNatClampNeg) (now (84 + 9 * cr.toNatClampNeg)).toNatClampNeg st now past kp) else noR 1 now past kp) else noR 1 now past kp
def skipP (cr : Int32) (now past : Nat → Int32) (kp : Nat) : R5 :=
  if inB cr (nI 0) (nI 2) = true then (frM now cr.toNatClampNeg, nI 0, (if frM now cr.toNatClampNeg = -1 then now else skM now cr.toNatClampNeg), svP now past kp, svK kp) else noR 1 now past kp
def forB (k : Nat) (v : Int32) : Bool := inB v (if k = 2 then nI 1 else nI 0) (if k = 0 then nI 99 else if k = 1 then nI 60 else if k = 2 then nI 9 else nI 20)
def setP (se v : Int32) (now past : Nat → Int32) (kp : Nat) : R5 := if inB se (nI 0) (nI 3) = true then (if forB se.toNatClampNeg v = true then setR se.toNatClampNeg v now past kp else noR 2 now past kp) else noR 1 now past kp
def passP (h : Int32) (now past : Nat → Int32) (kp : Nat) : R5 := if inB h (nI 1) (nI 48) = true then (sumM (hourN now h.toNatClampNeg) 3 12 - sumM now 3 12, nI 0, hourN now h.toNatClampNeg, svP now past kp, svK kp) else noR 1 now past kp
def undoP (now past : Nat → Int32) (kp : Nat) : R5 := if kp = 0 then noR 1 now past kp else (nI (kp - 1), nI 0, va_cpy past now (111 * (kp - 1)) 0 111, past, kp - 1)
def appendP (x : Int32) (ty : Nat) (tx : Nat → Int32) : Int32 × Int32 × Nat × (Nat → Int32) := if inB x (nI 33) (nI 126) = true then (if ty = 60 then (nI 0, nI 2, ty, tx) else (nI (ty + 1), nI 0, ty + 1, upd tx ty x)) else (nI 0, nI 1, ty, tx)
/-! looks -/
def ofSt (now : Nat → Int32) (s w : Nat) : Int32 := if w ≤ 1 then now (12 + 6 * s + w) else if w = 2 then bI (brM now s) else if w = 3 then prM now (nI 0) s else if w = 4 then srcM now s else now (12 + 6 * s + (w - 2))
def streetP (st w : Int32) (now : Nat → Int32) : Int32 × Int32 := if inB st (nI 0) (nI 11) = true then (if inB w (nI 0) (nI 7) = true then (ofSt now st.toNatClampNeg w.toNatClampNeg, nI 0) else (nI 0, nI 2)) else (nI 0, nI 1)
def roundP (cr pl : Int32) (now : Nat → Int32) : Int32 × Int32 := if inB cr (nI 0) (nI 2) = true then (if pl < 0 then (nI 0, nI 2) else (if pl.toNatClampNeg < (now (84 + 9 * cr.toNatClampNeg)).toNatClampNeg then now (84 + 9 * cr.toNatClampNeg + 1 + pl.toNatClampNeg) else -1, nI 0)) else (nI 0, nI 1)
def inR (now : Nat → Int32) : Int32 := now 84 + now 93 + now 102
def cntd (now : Nat → Int32) (kp w : Nat) : Int32 := if w = 0 then now 9 else if w = 1 then sumM now 0 12 else if w = 2 then nI (brNM now 12) else if w = 3 then sumM now 3 12 else if w = 4 then sumM now 4 12 else if w = 5 then now 10 else if w = 6 then inR now else if w = 7 then now 11 else nI kp
def countP (w : Int32) (now : Nat → Int32) (kp : Nat) : Int32 × Int32 := if inB w (nI 0) (nI 8) = true then (cntd now kp w.toNatClampNeg, nI 0) else (nI 0, nI 1)
def settingP (k : Int32) (now : Nat → Int32) : Int32 × Int32 := if inB k (nI 0) (nI 3) = true then (now k.toNatClampNeg, nI 0) else (nI 0, nI 1)
def waitsP (cr : Int32) (now wh : Nat → Int32) : Int32 × Int32 := if inB cr (nI 0) (nI 2) = true then ((laI now wh 3).2 cr.toNatClampNeg, nI 0) else (nI 0, nI 1)
/-- m: the row that the hours run on -/
def byP (m now : Nat → Int32) (h w : Nat) : Int32 := if w = 0 then sumM (hourN m h) 3 12 - sumM now 3 12 else if w = 1 then sumM (hourN m h) 4 12 - sumM now 4 12 else if w = 2 then nI (brNM (hourN m h) 12) else inR (hourN m h)
def ifPassedP (h w : Int32) (m now : Nat → Int32) : Int32 × Int32 := if inB h (nI 1) (nI 48) = true then (if inB w (nI 0) (nI 3) = true then (byP m now h.toNatClampNeg w.toNatClampNeg, nI 0) else (nI 0, nI 1)) else (nI 0, nI 1)
/-- a row where the crew 0 alone has a street -/
def only (m : Nat → Int32) (s : Nat) : Nat → Int32 := upd (upd (upd (upd m 84 (nI 1)) 85 (nI s)) 93 (nI 0)) 102 (nI 0)
theorem inB_l {v : Int32} {lo hi : Nat} (h : inB v (nI lo) (nI hi) = true) (hl : lo < 2147483648) (hh : hi < 2147483648) : ∃ j, lo ≤ j ∧ j ≤ hi ∧ v = nI j := by
  have h2 : ¬ v < nI lo ∧ ¬ nI hi < v := by simpa [inB] using h
  have h0 : ¬ v < nI 0 := by
    intro q
    have a1 := Int32.lt_iff_toInt_lt.mp q
    have a2 := Int32.le_iff_toInt_le.mp (Int32.not_lt.mp h2.1)
    rw [nI_toInt (by omega)] at a1 a2
    omega
  obtain ⟨j, h3, h4⟩ := nI_of2 (M := nI hi) (nI_toInt (by omega)) h0 (Int32.not_lt.mp h2.2)
  subst h4
  exact ⟨j, (nI_leI (by omega) (by omega)).mp (Int32.not_lt.mp h2.1), h3, rfl⟩
def bestT (m : Nat → Int32) (s : Nat) : Int32 := sumM (hourN (only m s) 12) 3 12
def bsS (its : Int32) (s : Nat) (w : Int32 × Int32) : Int32 × Int32 :=
  let f := if w.1 = -1 then nI s else if w.2 ≤ its then w.1 else nI s
  (f, if f = nI s then its else w.2)
def bsI (m : Nat → Int32) : Nat → Int32 × Int32
  | 0 => (-1, nI 0)
  | s + 1 => bsS (bestT m s) s (bsI m s)
def clG (m : Nat → Int32) (i : Nat) : Nat → Int32
  | 0 => -1
  | f + 1 => if brNM (hourN m i) 12 = 0 then nI i else clG m (i + 1) f
def lsG (m : Nat → Int32) (s p : Nat) : Nat → Int32
  | 0 => -1
  | f + 1 => if prM (upd m (4 + s / 4) (nI p)) (nI 1 <<< (nI s &&& 31)) s < m 1 then lsG m s (p + 1) f else nI p
def leastP (st : Int32) (now : Nat → Int32) : Int32 × Int32 := if inB st (nI 0) (nI 11) = true then (lsG now st.toNatClampNeg 0 100, nI 0) else (nI 0, nI 1)
theorem only_e {m m1 : Nat → Int32} (h : e111 m m1) (s : Nat) : e111 (only m s) (only m1 s) := by
  intro j hj
  unfold only upd
  split
  · rfl
  · split
    · rfl
    · split
      · rfl
      · split
        · rfl
        · exact h j hj
theorem only_lo {m : Nat → Int32} {s j : Nat} (hj : j < 84) : only m s j = m j := by
  unfold only
  rw [pk_un (by omega), pk_un (by omega), pk_un (by omega), pk_un (by omega)]
/-- the state in which the crew 0 alone has a street -/
theorem sim_only {c : Nat → Nat → Int32} {L : Nat → Nat} {m : Nat → Int32} (h : Sim c L m) {s : Nat} (hs : s < 12) : Sim (vset c 9 (upd (c 9) 0 (nI s))) L1 (only m s) := by
  obtain ⟨⟨a1, a2, a3⟩, ⟨b1, b2, b3, b4, b5, b6⟩, ⟨d1, d2, d3⟩, ⟨f1, f2⟩, g1, g2, g3⟩ := h
  have ho : ∀ j, j < 84 → m j = only m s j := fun j hj => (only_lo hj).symm
  refine ⟨⟨fun z hz => (a1 z hz).trans (ho _ (by omega)), fun z hz => (a2 z hz).trans (ho _ (by omega)), fun z hz => (a3 z hz).trans (ho _ (by omega))⟩,
    ⟨fun z hz => (b1 z hz).trans (ho _ (by omega)), fun z hz => (b2 z hz).trans (ho _ (by omega)), fun z hz => (b3 z hz).trans (ho _ (by omega)), fun z hz => (b4 z hz).trans (ho _ (by omega)), fun z hz => (b5 z hz).trans (ho _ (by omega)), fun z hz => (b6 z hz).trans (ho _ (by omega))⟩,
    ⟨d1.trans (ho _ (by omega)), d2.trans (ho _ (by omega)), d3.trans (ho _ (by omega))⟩, ⟨fun k hk => ?_, fun k hk j hj => ?_⟩, fun k hk => ⟨?_, fun j hj => ?_⟩, g2, g3⟩
  · rcases (show k = 0 ∨ k = 1 ∨ k = 2 by omega) with rfl | rfl | rfl <;> rfl
  · rcases (show k = 0 ∨ k = 1 ∨ k = 2 by omega) with rfl | rfl | rfl
    · have hj : j < 1 := hj
      obtain rfl : j = 0 := by omega
      rfl
    · exact absurd hj (Nat.not_lt_zero _)
    · exact absurd hj (Nat.not_lt_zero _)
  · rcases (show k = 0 ∨ k = 1 ∨ k = 2 by omega) with rfl | rfl | rfl <;> decide
  · rcases (show k = 0 ∨ k = 1 ∨ k = 2 by omega) with rfl | rfl | rfl
    · have hj : j < 1 := hj
      obtain rfl : j = 0 := by omega
      exact ⟨s, hs, rfl⟩
    · exact absurd hj (Nat.not_lt_zero _)
    · exact absurd hj (Nat.not_lt_zero _)
theorem okS_self {m m1 : Nat → Int32} (h : okS m) (e : e111 m m1) : eqS m1 m := by
  obtain ⟨c, L, h⟩ := h
  exact ⟨c, L, h.e111 e, h⟩
theorem okS_only {m m1 : Nat → Int32} (h : okS m) (e : e111 m m1) {s : Nat} (hs : s < 12) : eqS (only m1 s) (only m s) := by
  obtain ⟨c, L, h⟩ := h
  exact ⟨_, _, sim_only (h.e111 e) hs, sim_only h hs⟩
theorem eqS.sum3 {m m1 : Nat → Int32} (h : eqS m m1) : sumM m 3 12 = sumM m1 3 12 := by
  obtain ⟨c, L, h1, h2⟩ := h
  rw [← h1.sum.2.1, h2.sum.2.1]
theorem eqS.sum4 {m m1 : Nat → Int32} (h : eqS m m1) : sumM m 4 12 = sumM m1 4 12 := by
  obtain ⟨c, L, h1, h2⟩ := h
  rw [← h1.sum.2.2, h2.sum.2.2]
theorem eqS.br {m m1 : Nat → Int32} (h : eqS m m1) : brNM m 12 = brNM m1 12 := by
  obtain ⟨c, L, h1, h2⟩ := h
  rw [← h1.brN 12 (by omega), h2.brN 12 (by omega)]
theorem Sim.inR {c : Nat → Nat → Int32} {L : Nat → Nat} {m : Nat → Int32} (h : Sim c L m) : nI (0 + L 0 + L 1 + L 2) = m 84 + m 93 + m 102 := by
  obtain ⟨-, -, -, ⟨f1, -⟩, -⟩ := h
  rw [show m 84 = nI (L 0) from f1 0 (by omega), show m 93 = nI (L 1) from f1 1 (by omega), show m 102 = nI (L 2) from f1 2 (by omega), nI_add, nI_add, Nat.zero_add]
theorem eqS.rounds {m m1 : Nat → Int32} (h : eqS m m1) : inR m = inR m1 := by
  obtain ⟨c, L, h1, h2⟩ := h
  exact h1.inR.symm.trans h2.inR
theorem eqS.by_ {m m1 now : Nat → Int32} (h : eqS m m1) (k w : Nat) : byP m now k w = byP m1 now k w := by
  have h := h.hourN k
  unfold byP
  rw [h.sum3, h.sum4, h.br, h.rounds]
theorem owI_congr {a b : Nat → Int32} (e : e111 a b) (o : Int32) (z : Nat) (hz : z < 3) (its : Int32) : ∀ j, j ≤ 4 → owI a o z its j = owI b o z its j := by
  intro j
  induction j with
  | zero => intro _; rfl
  | succ j ih => intro hj; rw [owI, owI, ih (by omega)]; unfold owS; rw [e _ (by omega)]
theorem ownM_congr {a b : Nat → Int32} (e : e111 a b) (o : Int32) {s : Nat} (hs : s < 12) : ownM a o s = ownM b o s := by
  unfold ownM
  rw [owI_congr e o _ (by omega) _ 4 (by omega), e (4 + s / 4) (by omega)]
theorem pmL_congr {a b : Nat → Int32} (e : e111 a b) (o : Int32) : ∀ z, z < 3 → ∀ x, pmL a o z x = pmL b o z x := by
  intro z
  induction z with
  | zero => intro _ x; rfl
  | succ z ih => intro hz x; rw [pmL, pmL, e (7 + z) (by omega), ownM_congr e o (by omega), ih (by omega)]
theorem prM_congr {a b : Nat → Int32} (e : e111 a b) (o : Int32) {s : Nat} (hs : s < 12) : prM a o s = prM b o s := by
  unfold prM
  rw [ownM_congr e o hs, pmL_congr e o _ (by omega)]
def shareD (n : Nat) : UInt64 := FP.ddiv (FP.i2d (nI n)) 4622945017495814144
theorem shareD_ok : ∀ n, n < 13 → vf_n64 (FP.ddiv (FP.i2d (nI n)) 4622945017495814144) := by
  unfold vf_n64
  decide +kernel
