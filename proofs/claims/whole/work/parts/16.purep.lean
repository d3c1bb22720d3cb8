/-! what the reference's public methods answer: answer, thrown, now, past, kept -/
abbrev R5 : Type := Int32 × Int32 × (Nat → Int32) × (Nat → Int32) × Nat
def noR (k : Nat) (now past : Nat → Int32) (kp : Nat) : R5 := (nI 0, nI k, now, past, kp)
def setR (k : Nat) (v : Int32) (now past : Nat → Int32) (kp : Nat) : R5 := (now k, nI 0, upd now k v, svP now past kp, svK kp)
def pressureP (zn p : Int32) (now past : Nat → Int32) (kp : Nat) : R5 := if inB zn (nI 0) (nI 2) = true then (if inB p (nI 0) (nI 99) = true then setR (4 + zn.toNatClampNeg) p now past kp else noR 2 now past kp) else noR 1 now past kp
def valveP (zn : Int32) (ob : Bool) (now past : Nat → Int32) (kp : Nat) : R5 := if inB zn (nI 0) (nI 1) = true then setR (7 + zn.toNatClampNeg) (bI ob) now past kp else noR 1 now past kp
def dirtP (st d : Int32) (now past : Nat → Int32) (kp : Nat) : R5 := if inB st (nI 0) (nI 11) = true then (if inB d (nI 0) (nI 999) = true then setR (12 + 6 * st.toNatClampNeg) d now past kp else noR 2 now past kp) else noR 1 now past kp
def hydrantP (st d : Int32) (now past : Nat → Int32) (kp : Nat) : R5 := if inB st (nI 0) (nI 11) = true then (if inB d (nI 1) (nI 30) = true then setR (12 + 6 * st.toNatClampNeg + 1) d now past kp else noR 2 now past kp) else noR 1 now past kp
def sendR (r n : Nat) (x : Int32) (now past : Nat → Int32) (kp : Nat) : R5 := (nI (n + 1), nI 0, upd (upd now r (nI (n + 1))) (r + (n + 1)) x, svP now past kp, svK kp)
def sendP (cr st : Int32) (now past : Nat → Int32) (kp : Nat) : R5 :=
  if inB cr (nI 0) (nI 2) = true then (if inB st (nI 0) (nI 11) = true then (if (now (84 + 9 * cr.toNatClampNeg)).toNatClampNeg = 8 then noR 2 now past kp else sendR (84 + 9 * cr.toNatClampNeg) (now (84 + 9 * cr.toNatClampNeg)).toNatClampNeg st now past kp) else noR 1 now past kp) else noR 1 now past kp
def skipP (cr : Int32) (now past : Nat → Int32) (kp : Nat) : R5 :=
  if inB cr (nI 0) (nI 2) = true then (frM now cr.toNatClampNeg, nI 0, (if frM now cr.toNatClampNeg = -1 then now else skM now cr.toNatClampNeg), svP now past kp, svK kp) else noR 1 now past kp
def forB (k : Nat) (v : Int32) : Bool := inB v (if k = 2 then nI 1 else nI 0) (if k = 0 then nI 99 else if k = 1 then nI 60 else if k = 2 then nI 9 else nI 20)
def setP (se v : Int32) (now past : Nat → Int32) (kp : Nat) : R5 := if inB se (nI 0) (nI 3) = true then (if forB se.toNatClampNeg v = true then setR se.toNatClampNeg v now past kp else noR 2 now past kp) else noR 1 now past kp
def passP (h : Int32) (now past : Nat → Int32) (kp : Nat) : R5 := if inB h (nI 1) (nI 48) = true then (sumM (hourN now h.toNatClampNeg) 3 12 - sumM now 3 12, nI 0, hourN now h.toNatClampNeg, svP now past kp, svK kp) else noR 1 now past kp
def undoP (now past : Nat → Int32) (kp : Nat) : R5 := if kp = 0 then noR 1 now past kp else (nI (kp - 1), nI 0, va_cpy past now (111 * (kp - 1)) 0 111, past, kp - 1)
def appendP (x : Int32) (ty : Nat) (tx : Nat → Int32) : Int32 × Int32 × Nat × (Nat → Int32) := if inB x (nI 33) (nI 126) = true then (if ty = 60 then (nI 0, nI 2, ty, tx) else (nI (ty + 1), nI 0, ty + 1, upd tx ty x)) else (nI 0, nI 1, ty, tx)
/-! looks -/
def ofSt (now : Nat → Int32) (s w : Nat) : Int32 := if w ≤ 1 then now (12 + 6 * s + w) else if w = 2 then bI (brM now s) else if w = 3 then prM now (nI 0) s else if w = 4 then srcM now s else now (12 + 6 * s + (w - 2))
def streetP (st w : Int32) (now : Nat → Int32) : Int32 × Int32 := if inB st (nI 0) (nI 11) = true then (if inB w (nI 0) (nI 7) = true then (ofSt now st.toNatClampNeg w.toNatClampNeg, nI 0) else (nI 0, nI 2)) else (nI 0, nI 1)
def roundP (cr pl : Int32) (now : Nat → Int32) : Int32 × Int32 := if inB cr (nI 0) (nI 2) = true then (if pl < 0 then (nI 0, nI 2) else (if pl.toNatClampNeg < (now (84 + 9 * cr.toNatClampNeg)).toNatClampNeg then now (84 + 9 * cr.toNatClampNeg + 1 + pl.toNatClampNeg) else -1, nI 0)) else (nI 0, nI 1)
def inR (now : Nat → Int32) : Int32 := now 84 + now 93 + now 102
def cntd (now : Nat → Int32) (kp w : Nat) : Int32 := if w = 0 then now 9 else if w = 1 then sumM now 0 12 else if w = 2 then nI (brNM now 12) else if w = 3 then sumM now 3 12 else if w = 4 then sumM now 4 12 else if w = 5 then now 10 else if w = 6 then inR now else if w = 7 then now 11 else nI kp
def countP (w : Int32) (now : Nat → Int32) (kp : Nat) : Int32 × Int32 := if inB w (nI 0) (nI 8) = true then (cntd now kp w.toNatClampNeg, nI 0) else (nI 0, nI 1)
def settingP (k : Int32) (now : Nat → Int32) : Int32 × Int32 := if inB k (nI 0) (nI 3) = true then (now k.toNatClampNeg, nI 0) else (nI 0, nI 1)
def waitsP (cr : Int32) (now wh : Nat → Int32) : Int32 × Int32 := if inB cr (nI 0) (nI 2) = true then ((laI now wh 3).2 cr.toNatClampNeg, nI 0) else (nI 0, nI 1)
/-- m: the row that the hours run on -/
def byP (m now : Nat → Int32) (h w : Nat) : Int32 := if w = 0 then sumM (hourN m h) 3 12 - sumM now 3 12 else if w = 1 then sumM (hourN m h) 4 12 - sumM now 4 12 else if w = 2 then nI (brNM (hourN m h) 12) else inR (hourN m h)
def ifPassedP (h w : Int32) (m now : Nat → Int32) : Int32 × Int32 := if inB h (nI 1) (nI 48) = true then (if inB w (nI 0) (nI 3) = true then (byP m now h.toNatClampNeg w.toNatClampNeg, nI 0) else (nI 0, nI 1)) else (nI 0, nI 1)
/-- a row where the crew 0 alone has a street -/
def only (m : Nat → Int32) (s : Nat) : Nat → Int32 := upd (upd (upd (upd m 84 (nI 1)) 85 (nI s)) 93 (nI 0)) 102 (nI 0)
