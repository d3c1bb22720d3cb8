theorem kmin : Cond.code Lib.Math.min.name Lib.Math.min.code 2 (some .int) ∈ W0 := W0_in (List.mem_of_getElem? (i := 332) (by decide +kernel)) (by decide +kernel)
theorem kobj : Cond.code objectInit ⟨#[0xb1]⟩ 1 none ∈ W0 := W0_in (List.mem_of_getElem? (i := 29) (by decide +kernel)) (by decide +kernel)
theorem nI_prd {n : Nat} (h : 0 < n) : nI n + (-1) = nI (n - 1) := by
  obtain ⟨k, rfl⟩ : ∃ k, n = k + 1 := ⟨n - 1, by omega⟩
  exact pk_m1 k
section RCOPY
variable {p : Program} {l : Launch} {e : Env} {R : Room} {s : State} {m : MethodId} {args : Array Value} {below : List Frame} {meth : Method} {c : Code} {H H0 : Heap} {locs : List Loc} {cells slots : Nat} {Q : State → Prop} {cc : ByteArray} {pc : Nat} {ls : Array Slot} {rest : List Value} {D : va_G} {T : TI} {A : Nat → Prop} {ws : va_W} {a : Nat}
theorem r_copy (hexec : p.tables.exec = Jvm.exec) (hb : c.code = cc) (hml : c.maxLocals = ls.size) {own : String} {index : Nat} (hown : s.vm.findClass own = some m.cls) (hlink : (Cond.methodLink own index arraycopyName).before args s = true) (hnat : (Cond.native arraycopyName).before args s = true) (hstat : (Cond.static arraycopyName).before args s = true) (hini : (Cond.initialized "java/lang/System").before args s = true)
    (hK : KN D T s) (hP : va_P D vwCl ws H) (hD : va_D A ws) (hS : va_S A H0 H locs) (q0 q1 t0 : Nat) {a0 : Nat} {n0 n1 : Nat} {f g : Nat → Int32} {ty : FieldType} (ha0 : ws[q0]? = some (a0, .inl (T t0, n0, .inl f))) (ha1 : ws[q1]? = some (a, .inl (T t0, n1, .inl g))) (ht0 : (tysT T)[t0]? = some (T t0, ty)) (hprim : refKind ty = false)
    (sp dp n : Nat) (hn : sp < 1000000 ∧ dp < 1000000 ∧ n < 1000000) (h4 : sp + n ≤ n0) (h5 : dp + n ≤ n1) (hfit : ∀ i, i < n → fits ty (.int (f (sp + i))) = true)
    (hframes : 1 ≤ R.frames) (hlocals : (rest.map fun v => v.category).sum + (nativeFrameWords "java/lang/System" "arraycopy" 5 + 11) ≤ R.locals) (hdg : decode cc pc = .ok (.invokestatic index, 3))
    (kk : ∀ (H1 : Heap) (locs1 : List Loc), va_P D vwCl (ws.set q1 (a, .inl (T t0, n1, .inl (va_cpy f g sp dp n)))) H1 → va_D A (ws.set q1 (a, .inl (T t0, n1, .inl (va_cpy f g sp dp n)))) → va_S A H0 H1 locs1 → W p l e R s m args below meth c H1 locs1 cells slots Q (F0 m (pc + 3) ls rest)) : W p l e R s m args below meth c H locs cells slots Q (F0 m pc ls (.int (nI n) :: .int (nI dp) :: .ref a :: .int (nI sp) :: .ref a0 :: rest)) := by
  have e1 : (nI sp).toNatClampNeg = sp := nIcl (by omega)
  have e2 : (nI dp).toNatClampNeg = dp := nIcl (by omega)
  have e3 : (nI n).toNatClampNeg = n := nIcl (by omega)
  refine va_copyi hexec hb hml hown hlink hnat hstat hini hK.1 hP hD hS q0 q1 t0 t0 ha0 ha1 ht0 ht0 hprim (nI_pos (by omega)) (nI_pos (by omega)) (nI_pos (by omega)) (by rw [e1, e3]; exact h4) (by rw [e2, e3]; exact h5) (by rw [e1, e3]; exact hfit) hframes hlocals hdg ?_
  rw [e1, e2, e3]
  exact kk
end RCOPY
def tAt (n : Nat) (f : Nat → Int32) (k : Int32) : Int32 := if k < 0 then -1 else if k.toNatClampNeg < n then f k.toNatClampNeg else -1
section NESTC
variable {p : Program} {l : Launch} {e : Env} {R : Room} {s : State} {m : MethodId} {args : Array Value} {mc ms n index maxL : Nat} {own host : String} {y : MethodName} {bytes : ByteArray} {ret : Option FieldType} {rm : Room}
theorem mkSN (hts : ∀ w ∈ W0, w.before args s = true) (hy : yOk y bytes maxL ret n) (hl : va_Nw (.methodLinkNest own index y host) s) (hi : Cond.static y ∈ W0) (hm : rm.cells = mc ∧ rm.slots = ms ∧ rm.frames + 1 ≤ R.frames ∧ 8 + (maxL + 11) + rm.locals ≤ R.locals) : va_CN R s args own index y host bytes maxL ret (.code y bytes maxL ret :: W0) rm mc ms n ∧ (Cond.static y).before args s = true ∧ True :=
  ⟨va_cnB n hts (gW0 hy.1) rfl hm.1 hm.2.1 hl (hts _ hy.2.1) ⟨hy.2.2.1.1, hy.2.2.1.2, hy.2.2.2⟩ hm.2.2, hts _ hi, trivial⟩
end NESTC
/-- an array filled up to a place -/
def fillF (f : Nat → Int32) (n : Nat) (v : Int32) : Nat → Int32 := fun k => if k < n then v else f k
theorem fillF_0 (f : Nat → Int32) (v : Int32) : fillF f 0 v = f := by funext k; simp [fillF]
theorem fillF_succ (f : Nat → Int32) (i : Nat) (v : Int32) : upd (fillF f i v) i v = fillF f (i + 1) v := by
  funext k
  by_cases h : k = i
  · subst h; rw [pk_us]; simp [fillF]
  · rw [pk_un h]; by_cases h2 : k < i
    · simp [fillF, h2, show k < i + 1 by omega]
    · simp [fillF, h2, show ¬ k < i + 1 by omega]
theorem fillF_in {f : Nat → Int32} {n k : Nat} {v : Int32} (h : k < n) : fillF f n v k = v := by simp [fillF, h]
def sumF (f : Nat → Int32) : Nat → Int32
  | 0 => nI 0
  | i + 1 => sumF f i + f i
def shf (f : Nat → Int32) : Nat → Int32 := fun k => if k < 7 then f (k + 1) else f k
def drF (n : Nat) (f : Nat → Int32) : Nat → Int32 := if n = 0 then f else shf f
def upN (L : Nat → Nat) (k v : Nat) : Nat → Nat := fun j => if j = k then v else L j
theorem nI_nm1 {n : Nat} (h : n < 2147483648) : ¬ nI n = -1 := by
  intro e
  have := congrArg Int32.toInt e
  rw [nI_toInt (by omega)] at this
  have h2 : (-1 : Int32).toInt = -1 := by decide
  omega
def jm (j : Nat) : Int32 := if j = 0 then -1 else nI (j - 1)
theorem jm_pred (k : Nat) : nI k + (-1) = jm k := by
  unfold jm
  split
  · next h => subst h; decide
  · next h => exact nI_prd (by omega)
section RAAST
variable {p : Program} {l : Launch} {e : Env} {R : Room} {s : State} {m : MethodId} {args : Array Value} {below : List Frame} {meth : Method} {c : Code} {H H0 : Heap} {locs : List Loc} {cells slots : Nat} {Q : State → Prop} {cc : ByteArray} {pc : Nat} {ls : Array Slot} {rest : List Value} {D : va_G} {T : TI} {A : Nat → Prop} {ws : va_W} {a : Nat}
theorem r_aast (hexec : p.tables.exec = Jvm.exec) (hb : c.code = cc) (hK : KN D T s) (hP : va_P D vwCl ws H) (hD : va_D A ws) (hS : va_S A H0 H locs) (q0 t0 qk ci : Nat) {r : vw_C} {n v : Nat} {vs : List Value} {f : Nat → Option Nat} (ht : (tysT T)[t0]? = some (T t0, .object r.1)) (ha : ws[q0]? = some (a, .inl (T t0, n, .inr (.inr (.inr (.inr f)))))) (hv : ws[qk]? = some (v, .inr (ci, vs))) (hc : vwCl[ci]? = some r) (i : Nat) (hn : n < 2147483648) (hdg : decode cc pc = .ok (.aastore, 1)) (hin : i < n)
    (kk : ∀ (H1 : Heap) (locs1 : List Loc), va_P D vwCl (ws.set q0 (a, .inl (T t0, n, .inr (.inr (.inr (.inr (va_up f i (some v)))))))) H1 → va_D A (ws.set q0 (a, .inl (T t0, n, .inr (.inr (.inr (.inr (va_up f i (some v)))))))) → va_S A H0 H1 locs1 → W p l e R s m args below meth c H1 locs1 cells slots Q (F0 m (pc + 1) ls rest)) : W p l e R s m args below meth c H locs cells slots Q (F0 m pc ls (.ref v :: .int (nI i) :: .ref a :: rest)) := by
  refine va_astq hexec hb hK.1 hP hD hS q0 t0 qk ci ha ht hv hc (nIin hin hn) hdg ?_
  rw [nIcl (by omega)]
  exact kk
end RAAST
def rotG {α : Type} (g : Nat → α) : Nat → α := fun i => if i < 5 then g (i + 1) else g 0
def pushS {α : Type} (kp : Nat) (cs : Nat → α) (x : α) : Nat → α := if kp = 6 then (fun i => if i < 5 then cs (i + 1) else x) else (fun i => if i = kp then x else cs i)
