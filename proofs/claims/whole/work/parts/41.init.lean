/-! constructors -/
def SV (l : Launch) (y : MethodName) (cc : ByteArray) (nL : Nat) (rm : Room) (D : va_G) (T : TI) (As : List Value) (bs : List va_W) (mc ms : Nat) {β : Type} (WS : β → List va_W) (Q : β → Prop) : Prop := ∀ sz, Met l y (.code y cc nL none :: W0) rm (va_Pc As (PREX D T bs sz)) (va_Qv Q (PST D WS (va_A (fl bs) sz)) (va_A (fl bs) sz)) mc ms (va_A (fl bs) sz)
section SCONTR
variable {l : Launch} {y : MethodName} {cc : ByteArray} {nL : Nat} {rm : Room} {D : va_G} {T : TI} {As : List Value} {bs : List va_W} {mc ms : Nat}
theorem met_s {ret : Option FieldType} {Qc : (Nat → Prop) → Array Value → State → Outcome → State → Prop} {sz : Nat} (hy : plainName y.cls = true) (hn : (lg_sl As).length ≤ nL)
    (body : ∀ {p : Program} {e : Env} {s : State} {m : MethodId} {below : List Frame} {meth : Method} {c : Code} (A : Nat → Prop), A = va_A (fl bs) s.heap.size → CX D T p s m As.toArray meth c cc nL y ret → STA A s s.heap → (∀ q, s.heap.size ≤ q → A q) → va_P D vwCl (fl bs) s.heap → va_D A (fl bs) → va_S A s.heap s.heap [] → ∀ ls, lv_has ls nL (lv_args 0 As) → ∀ TG : State → Prop, TG = MQ below (Qc A) As.toArray s mc ms A →
      W p l e rm s m As.toArray below meth c s.heap [] 0 0 TG (F0 m 0 ls [])) :
    Met l y (.code y cc nL ret :: W0) rm (va_Pc As (PREX D T bs sz)) (Qc (va_A (fl bs) sz)) mc ms (va_A (fl bs) sz) := by
  refine Met.ofW (cc := cc) (maxL := nL) (ret := ret) hy rfl ?_
  intro p e s m args below meth c s₁ B hml hv
  obtain ⟨rfl, ⟨hsz, hP, hK, hD0⟩, hST⟩ := hv
  subst hsz
  rw [lg_entry_eq]
  exact body (va_A (fl bs) s.heap.size) rfl (CX_of B hml hK) hST (fun q h => Or.inr h) hP hD0.self va_S.rf _ (lv_entry As hn) _ rfl
end SCONTR
section BIRTH
variable {p : Program} {l : Launch} {e : Env} {R : Room} {s : State} {m : MethodId} {args : Array Value} {below : List Frame} {meth : Method} {c : Code} {H H0 : Heap} {locs : List Loc} {cells slots : Nat} {Q : State → Prop} {cc : ByteArray} {pc : Nat} {ls : Array Slot} {rest : List Value} {D : va_G} {T : TI} {A : Nat → Prop} {bs : List va_W} {a : Nat}
theorem r_newa (hexec : p.tables.exec = Jvm.exec) (hb : c.code = cc) (hts : ∀ w ∈ W0, w.before args s = true) (hK : KN D T s) (hP : va_P D vwCl (fl bs) H) (hD : va_D A (fl bs)) (hS : va_S A H0 H locs) (hA : ∀ q, H0.size ≤ q → A q) (N : Nat) (hN : N < 1000) (hcells : cells + 1 ≤ R.cells) (hslots : slots + N ≤ R.slots) (hdg : decode cc pc = .ok (.newarray .int, 2))
    (kk : ∀ (q : Nat) (H1 : Heap), va_P D vwCl (fl (bs ++ [aW T 0 q N (fun _ => nI 0)])) H1 → va_D A (fl (bs ++ [aW T 0 q N (fun _ => nI 0)])) → va_S A H0 H1 locs → W p l e R s m args below meth c H1 locs (cells + 1) (slots + N) Q (F0 m (pc + 2) ls (.ref q :: rest))) : W p l e R s m args below meth c H locs cells slots Q (F0 m pc ls (.int (nI N) :: rest)) := by
  refine va_newa (atype := .int) hexec hb (hts _ kw_57) rfl hK.1 hP hD hS hA (N' := N) (a0 := (N, .inl (fun _ => nI 0))) (fun cA => rfl) (nI_pos (by omega)) (nIcl (by omega)) (by show N * 4 ≤ _; omega) hcells hslots hdg (fun q cA H1 hK1 hP1 hD1 hS1 => ?_)
  obtain rfl : cA = T 0 := Option.some.inj ((hK1.2 5 (cA, .int) rfl).2.symm.trans (hK.1.2 0 (T 0, .int) rfl).2)
  exact kk q H1 (by rw [fl_app]; exact hP1) (by rw [fl_app]; exact hD1) hS1
theorem r_newz (hexec : p.tables.exec = Jvm.exec) (hb : c.code = cc) (hts : ∀ w ∈ W0, w.before args s = true) (hK : KN D T s) (hP : va_P D vwCl (fl bs) H) (hD : va_D A (fl bs)) (hS : va_S A H0 H locs) (hA : ∀ q, H0.size ≤ q → A q) (N : Nat) (hN : N < 1000) (hcells : cells + 1 ≤ R.cells) (hslots : slots + N ≤ R.slots) (hdg : decode cc pc = .ok (.newarray .boolean, 2))
    (kk : ∀ (q : Nat) (H1 : Heap), va_P D vwCl (fl (bs ++ [aW T 1 q N (fun _ => nI 0)])) H1 → va_D A (fl (bs ++ [aW T 1 q N (fun _ => nI 0)])) → va_S A H0 H1 locs → W p l e R s m args below meth c H1 locs (cells + 1) (slots + N) Q (F0 m (pc + 2) ls (.ref q :: rest))) : W p l e R s m args below meth c H locs cells slots Q (F0 m pc ls (.int (nI N) :: rest)) := by
  refine va_newa (atype := .boolean) hexec hb (hts _ kw_58) rfl hK.1 hP hD hS hA (N' := N) (a0 := (N, .inl (fun _ => nI 0))) (fun cA => rfl) (nI_pos (by omega)) (nIcl (by omega)) (by show N * 1 ≤ _; omega) hcells hslots hdg (fun q cA H1 hK1 hP1 hD1 hS1 => ?_)
  obtain rfl : cA = T 1 := Option.some.inj ((hK1.2 5 (cA, .boolean) rfl).2.symm.trans (hK.1.2 1 (T 1, .boolean) rfl).2)
  exact kk q H1 (by rw [fl_app]; exact hP1) (by rw [fl_app]; exact hD1) hS1
def rfW (T : TI) (t a n : Nat) (f : Nat → Option Nat) : va_W := [(a, .inl (T t, n, .inr (.inr (.inr (.inr f)))))]
def obW (a ci : Nat) (fs : List Value) : va_W := [(a, .inr (ci, fs))]
theorem r_newq (hexec : p.tables.exec = Jvm.exec) (hb : c.code = cc) {own C : String} {index : Nat} (hown : s.vm.findClass own = some m.cls) (hts : ∀ w ∈ W0, w.before args s = true) (hcl : Cond.classLink own index C ∈ W0) (hov : va_AO C s) (t : Nat) (ht : (tysT T)[t]? = some (T t, .object C)) (hK : KN D T s) (hP : va_P D vwCl (fl bs) H) (hD : va_D A (fl bs)) (hS : va_S A H0 H locs) (hA : ∀ q, H0.size ≤ q → A q) (N : Nat) (hN : N < 1000) (hcells : cells + 1 ≤ R.cells) (hslots : slots + N ≤ R.slots) (hdg : decode cc pc = .ok (.anewarray index, 3))
    (kk : ∀ (q : Nat) (H1 : Heap), va_P D vwCl (fl (bs ++ [rfW T t q N (fun _ => none)])) H1 → va_D A (fl (bs ++ [rfW T t q N (fun _ => none)])) → va_S A H0 H1 locs → W p l e R s m args below meth c H1 locs (cells + 1) (slots + N) Q (F0 m (pc + 3) ls (.ref q :: rest))) : W p l e R s m args below meth c H locs cells slots Q (F0 m pc ls (.int (nI N) :: rest)) := by
  refine va_newq hexec hb hown (hts _ hcl) hov hK.1 hP hD hS hA (N' := N) (nI_pos (by omega)) (nIcl (by omega)) (by omega) hcells hslots hdg (fun q cA H1 hK1 hP1 hD1 hS1 => ?_)
  obtain ⟨_, _, -, -, -, z1⟩ := (hK1.2 5 (cA, .object C) rfl).2
  obtain ⟨_, _, -, -, -, z2⟩ := (hK.1.2 t (T t, .object C) ht).2
  obtain rfl : cA = T t := Option.some.inj (z1.symm.trans z2)
  exact kk q H1 (by rw [fl_app]; exact hP1) (by rw [fl_app]; exact hD1) hS1
theorem r_new (hexec : p.tables.exec = Jvm.exec) (hb : c.code = cc) (hts : ∀ w ∈ W0, w.before args s = true) {own C : String} {F : u_T} {N ci index : Nat} (hin : ∀ w ∈ u_ws C F N, w ∈ W0) (ty : Nat → FieldType) (hty : ∀ k, k < N → parseFieldDescriptor (F k).2.2.1 = some (ty k)) (hown : s.vm.findClass own = some m.cls) (hcl : Cond.classLink own index C ∈ W0) (hinst : Cond.instantiable C N ∈ W0) (hini : Cond.initialized C ∈ W0) (hK : KN D T s) (hP : va_P D vwCl (fl bs) H) (hD : va_D A (fl bs)) (hS : va_S A H0 H locs) (hA : ∀ q, H0.size ≤ q → A q) (hc : vwCl[ci]? = some (C, F, N)) (fs : List Value) (hfs : ∀ j, j < N → defaultValue (ty j) = vp_V fs j) (hcells : cells + 1 ≤ R.cells) (hslots : slots + N ≤ R.slots) (hdg : decode cc pc = .ok (.new index, 3))
    (kk : ∀ (q : Nat) (H1 : Heap), va_P D vwCl (fl (bs ++ [obW q ci fs])) H1 → va_D A (fl (bs ++ [obW q ci fs])) → va_S A H0 H1 locs → W p l e R s m args below meth c H1 locs (cells + 1) (slots + N) Q (F0 m (pc + 3) ls (.ref q :: rest))) : W p l e R s m args below meth c H locs cells slots Q (F0 m pc ls rest) :=
  va_new hexec hb hts hin ty hty hown (hts _ hcl) (hts _ hinst) (hts _ hini) hK.1 hP hD hS hA hc hfs hcells hslots hdg (fun q H1 hP1 hD1 hS1 => kk q H1 (by rw [fl_app]; exact hP1) (by rw [fl_app]; exact hD1) hS1)
theorem r_putF (hexec : p.tables.exec = Jvm.exec) (hb : c.code = cc) (hK : KN D T s) (hts : ∀ w ∈ W0, w.before args s = true) {own : String} {F : u_T} {N ci index : Nat} (hin : ∀ w ∈ u_ws own F N, w ∈ W0) (ty0 : Nat → FieldType) (hty : ∀ k, k < N → parseFieldDescriptor (F k).2.2.1 = some (ty0 k)) (hnm : ∀ a, a < N → ∀ b, b < N → a ≠ b → (F a).2.1 ≠ (F b).2.1) (hown : s.vm.findClass own = some m.cls) {ws : va_W} (hP : va_P D vwCl ws H) (hD : va_D A ws) (hS0 : va_S A H0 H locs) (q0 : Nat) {fs : List Value} (he : ws[q0]? = some (a, .inr (ci, fs))) (hc : vwCl[ci]? = some (own, F, N)) (k : Nat) (hk : k < N) (hlink : Cond.fieldLink own index own (F k).2.1 (F k).2.2.1 ∈ W0) (hdecl : (F k).1 = own) (hfin : (F k).2.2.2 = true) (hin2 : meth.name = "<init>") {v : Nat} (hfit : fits (ty0 k) (.ref v) = true) (hnr : narrow (ty0 k) (.ref v) = .ref v) (hl : k < fs.length) (hdg : decode cc pc = .ok (.putfield index, 3))
    (kk : ∀ (H1 : Heap) (locs1 : List Loc), va_P D vwCl (ws.set q0 (a, .inr (ci, fs.set k (.ref v)))) H1 → va_D A (ws.set q0 (a, .inr (ci, fs.set k (.ref v)))) → va_S A H0 H1 locs1 → W p l e R s m args below meth c H1 locs1 cells slots Q (F0 m (pc + 3) ls rest)) : W p l e R s m args below meth c H locs cells slots Q (F0 m pc ls (.ref v :: .ref a :: rest)) :=
  va_putF (ref := own) hexec hb hts hin ty0 hty hnm hown hK.1 hP hD hS0 q0 he hc k hk (hts _ hlink) (fun x h => by rw [hdecl] at h; exact h) hfin hin2 hdecl (ty := ty0 k) (hty k hk) hnr hfit hl hdg kk
theorem P_ref {ws : va_W} (hP : va_P D vwCl ws H) (hD : va_D A ws) (q0 : Nat) {t n : Nat} {f : Nat → Option Nat} (g : Nat → Option Nat) (ha : ws[q0]? = some (a, .inl (T t, n, .inr (.inr (.inr (.inr f)))))) (h : ∀ k, k < n → f k = g k) : va_P D vwCl (ws.set q0 (a, .inl (T t, n, .inr (.inr (.inr (.inr g)))))) H := by
  have e2 : arrV (T t) n (fun j => va_rf (g j)) = arrV (T t) n (fun j => va_rf (f j)) := by
    unfold arrV
    have e3 : (fun j : Fin n => va_rf (g j.val)) = (fun j : Fin n => va_rf (f j.val)) := by
      funext j
      rw [h j.val j.isLt]
    rw [e3]
  refine hP.set hD ha ?_ (fun _ _ => rfl)
  show H[a]? = some (vp_cell (T t) (n, .inr (.inr (.inr (.inr g)))))
  rw [vp_cell_q, e2, ← vp_cell_q]
  exact hP q0 _ ha
end BIRTH
