/-! constructors -/
def SV (l : Launch) (y : MethodName) (cc : ByteArray) (nL : Nat) (rm : Room) (D : va_G) (T : TI) (As : List Value) (bs : List va_W) (mc ms : Nat) {β : Type} (WS : β → List va_W) (Q : β → Prop) : Prop := ∀ sz, Met l y (.code y cc nL none :: W0) rm (va_Pc As (PREX D T bs sz)) (va_Qv Q (PST D WS (va_A (fl bs) sz)) (va_A (fl bs) sz)) mc ms (va_A (fl bs) sz)
section SCONTR
variable {l : Launch} {y : MethodName} {cc : ByteArray} {nL : Nat} {rm : Room} {D : va_G} {T : TI} {As : List Value} {bs : List va_W} {mc ms : Nat}
theorem met_s {ret : Option FieldType} {Qc : (Nat → Prop) → Array Value → State → Outcome → State → Prop} {sz : Nat} (hy : plainName y.cls = true) (hn : (lg_sl As).length ≤ nL)
    (body : ∀ {p : Program} {e : Env} {s : State} {m : MethodId} {below : List Frame} {meth : Method} {c : Code} (A : Nat → Prop), A = va_A (fl bs) s.heap.size → CX D T p s m As.toArray meth c cc nL y ret → STA A s s.heap → (∀ q, s.heap.size ≤ q → A q) → va_P D vwCl (fl bs) s.heap → va_D A (fl bs) → va_S A s.heap s.heap [] → ∀ ls, lv_has ls nL (lv_args 0 As) → ∀ TG : State → Prop, TG = MQ below (Qc A) As.toArray s mc ms A →
      W p l e rm s m As.toArray below meth c s.heap [] 0 0 TG (F0 m 0 ls [])) :
    Met l y (.code y cc nL ret :: W0) rm (va_Pc As (PREX D T bs sz)) (Qc (va_A (fl bs) sz)) mc ms (va_A (fl bs) sz) := by
  refine Met.ofW (cc := cc) (maxL := nL) (ret := ret) hy rfl ?_
  intro p e s m args below meth c s₁ B hml hv
  obtain ⟨rfl, ⟨hsz, hP, hK, hD0⟩, hST⟩ := hv
  subst hsz
  rw [lg_entry_eq]
  exact body (va_A (fl bs) s.heap.size) rfl (CX_of B hml hK) hST (fun q h => Or.inr h) hP hD0.self va_S.rf _ (lv_entry As hn) _ rfl
end SCONTR
section BIRTH
variable {p : Program} {l : Launch} {e : Env} {R : Room} {s : State} {m : MethodId} {args : Array Value} {below : List Frame} {meth : Method} {c : Code} {H H0 : Heap} {locs : List Loc} {cells slots : Nat} {Q : State → Prop} {cc : ByteArray} {pc : Nat} {ls : Array Slot} {rest : List Value} {D : va_G} {T : TI} {A : Nat → Prop} {bs : List va_W} {a : Nat}
theorem r_newa (hexec : p.tables.exec = Jvm.exec) (hb : c.code = cc) (hts : ∀ w ∈ W0, w.before args s = true) (hK : KN D T s) (hP : va_P D vwCl (fl bs) H) (hD : va_D A (fl bs)) (hS : va_S A H0 H locs) (hA : ∀ q, H0.size ≤ q → A q) (N : Nat) (hN : N < 1000) (hcells : cells + 1 ≤ R.cells) (hslots : slots + N ≤ R.slots) (hdg : decode cc pc = .ok (.newarray .int, 2))
    (kk : ∀ (q : Nat) (H1 : Heap), va_P D vwCl (fl (bs ++ [aW T 0 q N (fun _ => nI 0)])) H1 → va_D A (fl (bs ++ [aW T 0 q N (fun _ => nI 0)])) → va_S A H0 H1 locs → W p l e R s m args below meth c H1 locs (cells + 1) (slots + N) Q (F0 m (pc + 2) ls (.ref q :: rest))) : W p l e R s m args below meth c H locs cells slots Q (F0 m pc ls (.int (nI N) :: rest)) := by
  refine va_newa (atype := .int) hexec hb (hts _ kw_54) rfl hK.1 hP hD hS hA (N' := N) (a0 := (N, .inl (fun _ => nI 0))) (fun cA => rfl) (nI_pos (by omega)) (nIcl (by omega)) (by show N * 4 ≤ _; omega) hcells hslots hdg (fun q cA H1 hK1 hP1 hD1 hS1 => ?_)
  obtain rfl : cA = T 0 := Option.some.inj ((hK1.2 4 (cA, .int) rfl).2.symm.trans (hK.1.2 0 (T 0, .int) rfl).2)
  exact kk q H1 (by rw [fl_app]; exact hP1) (by rw [fl_app]; exact hD1) hS1
theorem r_newz (hexec : p.tables.exec = Jvm.exec) (hb : c.code = cc) (hts : ∀ w ∈ W0, w.before args s = true) (hK : KN D T s) (hP : va_P D vwCl (fl bs) H) (hD : va_D A (fl bs)) (hS : va_S A H0 H locs) (hA : ∀ q, H0.size ≤ q → A q) (N : Nat) (hN : N < 1000) (hcells : cells + 1 ≤ R.cells) (hslots : slots + N ≤ R.slots) (hdg : decode cc pc = .ok (.newarray .boolean, 2))
    (kk : ∀ (q : Nat) (H1 : Heap), va_P D vwCl (fl (bs ++ [aW T 1 q N (fun _ => nI 0)])) H1 → va_D A (fl (bs ++ [aW T 1 q N (fun _ => nI 0)])) → va_S A H0 H1 locs → W p l e R s m args below meth c H1 locs (cells + 1) (slots + N) Q (F0 m (pc + 2) ls (.ref q :: rest))) : W p l e R s m args below meth c H locs cells slots Q (F0 m pc ls (.int (nI N) :: rest)) := by
  refine va_newa (atype := .boolean) hexec hb (hts _ kw_55) rfl hK.1 hP hD hS hA (N' := N) (a0 := (N, .inl (fun _ => nI 0))) (fun cA => rfl) (nI_pos (by omega)) (nIcl (by omega)) (by show N * 1 ≤ _; omega) hcells hslots hdg (fun q cA H1 hK1 hP1 hD1 hS1 => ?_)
  obtain rfl : cA = T 1 := Option.some.inj ((hK1.2 4 (cA, .boolean) rfl).2.symm.trans (hK.1.2 1 (T 1, .boolean) rfl).2)
  exact kk q H1 (by rw [fl_app]; exact hP1) (by rw [fl_app]; exact hD1) hS1
def rfW (T : TI) (t a n : Nat) (f : Nat → Option Nat) : va_W := [(a, .inl (T t, n, .inr (.inr (.inr (.inr f)))))]
def obW (a ci : Nat) (fs : List Value) : va_W := [(a, .inr (ci, fs))]
theorem r_newq (hexec : p.tables.exec = Jvm.exec) (hb : c.code = cc) {own C : String} {index : Nat} (hown : s.vm.findClass own = some m.cls) (hts : ∀ w ∈ W0, w.before args s = true) (hcl : Cond.classLink own index C ∈ W0) (hov : va_AO C s) (t : Nat) (ht : (tysT T)[t]? = some (T t, .object C)) (hK : KN D T s) (hP : va_P D vwCl (fl bs) H) (hD : va_D A (fl bs)) (hS : va_S A H0 H locs) (hA : ∀ q, H0.size ≤ q → A q) (N : Nat) (hN : N < 1000) (hcells : cells + 1 ≤ R.cells) (hslots : slots + N ≤ R.slots) (hdg : decode cc pc = .ok (.anewarray index, 3))
    (kk : ∀ (q : Nat) (H1 : Heap), va_P D vwCl (fl (bs ++ [rfW T t q N (fun _ => none)])) H1 → va_D A (fl (bs ++ [rfW T t q N (fun _ => none)])) → va_S A H0 H1 locs → W p l e R s m args below meth c H1 locs (cells + 1) (slots + N) Q (F0 m (pc + 3) ls (.ref q :: rest))) : W p l e R s m args below meth c H locs cells slots Q (F0 m pc ls (.int (nI N) :: rest)) := by
  refine va_newq hexec hb hown (hts _ hcl) hov hK.1 hP hD hS hA (N' := N) (nI_pos (by omega)) (nIcl (by omega)) (by omega) hcells hslots hdg (fun q cA H1 hK1 hP1 hD1 hS1 => ?_)
  obtain ⟨_, _, -, -, -, z1⟩ := (hK1.2 4 (cA, .object C) rfl).2
  obtain ⟨_, _, -, -, -, z2⟩ := (hK.1.2 t (T t, .object C) ht).2
  obtain rfl : cA = T t := Option.some.inj (z1.symm.trans z2)
  exact kk q H1 (by rw [fl_app]; exact hP1) (by rw [fl_app]; exact hD1) hS1
theorem r_new (hexec : p.tables.exec = Jvm.exec) (hb : c.code = cc) (hts : ∀ w ∈ W0, w.before args s = true) {own C : String} {F : u_T} {N ci index : Nat} (hin : ∀ w ∈ u_ws C F N, w ∈ W0) (ty : Nat → FieldType) (hty : ∀ k, k < N → parseFieldDescriptor (F k).2.2.1 = some (ty k)) (hown : s.vm.findClass own = some m.cls) (hcl : Cond.classLink own index C ∈ W0) (hinst : Cond.instantiable C N ∈ W0) (hini : Cond.initialized C ∈ W0) (hK : KN D T s) (hP : va_P D vwCl (fl bs) H) (hD : va_D A (fl bs)) (hS : va_S A H0 H locs) (hA : ∀ q, H0.size ≤ q → A q) (hc : vwCl[ci]? = some (C, F, N)) (fs : List Value) (hfs : ∀ j, j < N → defaultValue (ty j) = vp_V fs j) (hcells : cells + 1 ≤ R.cells) (hslots : slots + N ≤ R.slots) (hdg : decode cc pc = .ok (.new index, 3))
    (kk : ∀ (q : Nat) (H1 : Heap), va_P D vwCl (fl (bs ++ [obW q ci fs])) H1 → va_D A (fl (bs ++ [obW q ci fs])) → va_S A H0 H1 locs → W p l e R s m args below meth c H1 locs (cells + 1) (slots + N) Q (F0 m (pc + 3) ls (.ref q :: rest))) : W p l e R s m args below meth c H locs cells slots Q (F0 m pc ls rest) :=
  va_new hexec hb hts hin ty hty hown (hts _ hcl) (hts _ hinst) (hts _ hini) hK.1 hP hD hS hA hc hfs hcells hslots hdg (fun q H1 hP1 hD1 hS1 => kk q H1 (by rw [fl_app]; exact hP1) (by rw [fl_app]; exact hD1) hS1)
theorem r_putF (hexec : p.tables.exec = Jvm.exec) (hb : c.code = cc) (hK : KN D T s) (hts : ∀ w ∈ W0, w.before args s = true) {own : String} {F : u_T} {N ci index : Nat} (hin : ∀ w ∈ u_ws own F N, w ∈ W0) (ty0 : Nat → FieldType) (hty : ∀ k, k < N → parseFieldDescriptor (F k).2.2.1 = some (ty0 k)) (hnm : ∀ a, a < N → ∀ b, b < N → a ≠ b → (F a).2.1 ≠ (F b).2.1) (hown : s.vm.findClass own = some m.cls) {ws : va_W} (hP : va_P D vwCl ws H) (hD : va_D A ws) (hS0 : va_S A H0 H locs) (q0 : Nat) {fs : List Value} (he : ws[q0]? = some (a, .inr (ci, fs))) (hc : vwCl[ci]? = some (own, F, N)) (k : Nat) (hk : k < N) (hlink : Cond.fieldLink own index own (F k).2.1 (F k).2.2.1 ∈ W0) (hdecl : (F k).1 = own) (hfin : (F k).2.2.2 = true) (hin2 : meth.name = "<init>") {v : Nat} (hfit : fits (ty0 k) (.ref v) = true) (hnr : narrow (ty0 k) (.ref v) = .ref v) (hl : k < fs.length) (hdg : decode cc pc = .ok (.putfield index, 3))
    (kk : ∀ (H1 : Heap) (locs1 : List Loc), va_P D vwCl (ws.set q0 (a, .inr (ci, fs.set k (.ref v)))) H1 → va_D A (ws.set q0 (a, .inr (ci, fs.set k (.ref v)))) → va_S A H0 H1 locs1 → W p l e R s m args below meth c H1 locs1 cells slots Q (F0 m (pc + 3) ls rest)) : W p l e R s m args below meth c H locs cells slots Q (F0 m pc ls (.ref v :: .ref a :: rest)) :=
  va_putF (ref := own) hexec hb hts hin ty0 hty hnm hown hK.1 hP hD hS0 q0 he hc k hk (hts _ hlink) (fun x h => by rw [hdecl] at h; exact h) hfin hin2 hdecl (ty := ty0 k) (hty k hk) hnr hfit hl hdg kk
theorem r_copyx (hexec : p.tables.exec = Jvm.exec) (hb : c.code = cc) (hml : c.maxLocals = ls.size) {own : String} {index : Nat} (hown : s.vm.findClass own = some m.cls) (hlink : (Cond.methodLink own index arraycopyName).before args s = true) (hnat : (Cond.native arraycopyName).before args s = true) (hstat : (Cond.static arraycopyName).before args s = true) (hini : (Cond.initialized "java/lang/System").before args s = true)
    (hK : KN D T s) {ws : va_W} (hP : va_P D vwCl ws H) (hD : va_D A ws) (hS : va_S A s.heap H locs) {b0 n0 : Nat} {f : Nat → Int32} (hX : va_X b0 n0 f s s.heap) (hbl : b0 < s.heap.size) (hbA : ¬ A b0) (q1 : Nat) {n1 : Nat} {g : Nat → Int32} (ha1 : ws[q1]? = some (a, .inl (T 0, n1, .inl g)))
    (sp dp n : Nat) (hn : sp < 1000000 ∧ dp < 1000000 ∧ n < 1000000) (h4 : sp + n ≤ n0) (h5 : dp + n ≤ n1) (hframes : 1 ≤ R.frames) (hlocals : (rest.map fun v => v.category).sum + (nativeFrameWords "java/lang/System" "arraycopy" 5 + 11) ≤ R.locals) (hdg : decode cc pc = .ok (.invokestatic index, 3))
    (kk : ∀ (H1 : Heap) (locs1 : List Loc), va_P D vwCl (ws.set q1 (a, .inl (T 0, n1, .inl (va_cpy f g sp dp n)))) H1 → va_D A (ws.set q1 (a, .inl (T 0, n1, .inl (va_cpy f g sp dp n)))) → va_S A s.heap H1 locs1 → W p l e R s m args below meth c H1 locs1 cells slots Q (F0 m (pc + 3) ls rest)) : W p l e R s m args below meth c H locs cells slots Q (F0 m pc ls (.int (nI n) :: .int (nI dp) :: .ref a :: .int (nI sp) :: .ref b0 :: rest)) := by
  have e1 : (nI sp).toNatClampNeg = sp := nIcl (by omega)
  have e2 : (nI dp).toNatClampNeg = dp := nIcl (by omega)
  have e3 : (nI n).toNatClampNeg = n := nIcl (by omega)
  refine va_copyx hexec hb hml hown hlink hnat hstat hini hK.1 hP hD hS hX hbl hbA q1 0 ha1 rfl (nI_pos (by omega)) (nI_pos (by omega)) (nI_pos (by omega)) (by rw [e1, e3]; exact h4) (by rw [e2, e3]; exact h5) hframes hlocals hdg ?_
  rw [e1, e2, e3]
  exact kk
theorem P_ref {ws : va_W} (hP : va_P D vwCl ws H) (hD : va_D A ws) (q0 : Nat) {t n : Nat} {f : Nat → Option Nat} (g : Nat → Option Nat) (ha : ws[q0]? = some (a, .inl (T t, n, .inr (.inr (.inr (.inr f)))))) (h : ∀ k, k < n → f k = g k) : va_P D vwCl (ws.set q0 (a, .inl (T t, n, .inr (.inr (.inr (.inr g)))))) H := by
  have e2 : arrV (T t) n (fun j => va_rf (g j)) = arrV (T t) n (fun j => va_rf (f j)) := by
    unfold arrV
    have e3 : (fun j : Fin n => va_rf (g j.val)) = (fun j : Fin n => va_rf (f j.val)) := by
      funext j
      rw [h j.val j.isLt]
    rw [e3]
  refine hP.set hD ha ?_ (fun _ _ => rfl)
  show H[a]? = some (vp_cell (T t) (n, .inr (.inr (.inr (.inr g)))))
  rw [vp_cell_q, e2, ← vp_cell_q]
  exact hP q0 _ ha
end BIRTH
set_option maxHeartbeats 4000000 in
set_option maxRecDepth 100000 in
theorem c_X4_init (l : Launch) (D : va_G) (T : TI) (a : Nat)  : CV l yX4_init cX4_init 1 (rmD 1 1 8) D T [.ref a] [obW a 4 [.null, .int (nI 0)]] 1 8 (β := Nat) (fun (b : Nat) => [tW T a b (nI 0) (fun _ => nI 0)]) (fun (b : Nat) => True) := by
  intro sz
  refine met_rw (Qc := fun A => va_Qv _ (PST D _ A) A) rfl (Nat.le_of_ble_eq_true rfl) ?_
  intro pX eX sX mX bX mtX cX A hAe hC hA hP0 hD0 hS0 ls0 hl0 TG hTG
  clear hAe
  obtain ⟨hx, hb, hr, hml, hown, hts, hlocks, hin, hK⟩ := hC
  have hown : sX.vm.findClass RX4 = some mX.cls := hown
  have hl0 : lv_has ls0 1 [(0, .ref a)] := hl0
  refine lv_aload_n hx hb dX4_init_0 rfl (lv_at hl0 0 rfl) ?_
  refine W.objInit hx hb hown (hts _ kw_44) (hts _ kw_22) (hts _ kobj) rfl (by rw [hml]; exact hl0.1) rfl dX4_init_1 (Nat.le_of_ble_eq_true rfl) (Nat.le_of_ble_eq_true rfl) ?_
  refine W.eq (g2 := F0 mX 4 _ []) rfl ?_
  refine lv_aload_n hx hb dX4_init_4 rfl (lv_at hl0 0 rfl) ?_
  refine lv_bipush (v := nI 8) hx hb dX4_init_5 (by decide) ?_
  refine r_newa hx hb hts hK hP0 hD0 hS0 hA 8 (by decide) (Nat.le_of_ble_eq_true rfl) (Nat.le_of_ble_eq_true rfl) dX4_init_7 (fun (b_7 : Nat) (H1 : Heap) (hP1 : va_P D vwCl (fl [obW a 4 [.null, .int (nI 0)], aW T 0 b_7 8 (fun _ => nI 0)]) H1) (hD1 : va_D A (fl [obW a 4 [.null, .int (nI 0)], aW T 0 b_7 8 (fun _ => nI 0)])) hS1 => ?_)
  clear hP0 hD0 hS0
  refine r_putF (own := RX4) (F := TX4) (N := 2) (ci := 4) hx hb hK hts in_X4 tyX4 tyX4_ok nmX4 hown hP1 hD1 hS1 0 rfl rfl 0 (by decide) kw_45 rfl rfl hin rfl rfl (Nat.le_of_ble_eq_true rfl) dX4_init_9 (fun (H2 : Heap) (locs2 : List Loc) (hP2 : va_P D vwCl (fl [obW a 4 [.ref b_7, .int (nI 0)], aW T 0 b_7 8 (fun _ => nI 0)]) H2) (hD2 : va_D A (fl [obW a 4 [.ref b_7, .int (nI 0)], aW T 0 b_7 8 (fun _ => nI 0)])) hS2 => ?_)
  clear hP1 hD1 hS1
  refine lv_aload_n hx hb dX4_init_12 rfl (lv_at hl0 0 rfl) ?_
  refine lv_iconst (v := nI 0) hx hb dX4_init_13 (by decide) ?_
  refine r_put (own := RX4) (C := RX4) (F := TX4) (N := 2) (ci := 4) (v := nI 0) hx hb hK hts in_X4 tyX4 tyX4_ok nmX4 hown hP2 hD2 hS2 0 rfl rfl 1 (by decide) kw_46 rfl rfl (Nat.le_of_ble_eq_true rfl) dX4_init_14 (fun (H3 : Heap) (locs3 : List Loc) (hP3 : va_P D vwCl (fl [obW a 4 [.ref b_7, .int (nI 0)], aW T 0 b_7 8 (fun _ => nI 0)]) H3) (hD3 : va_D A (fl [obW a 4 [.ref b_7, .int (nI 0)], aW T 0 b_7 8 (fun _ => nI 0)])) hS3 => ?_)
  clear hP2 hD2 hS2
  have hP4 : va_P D vwCl (fl [tW T a b_7 (nI 0) (fun _ => nI 0)]) _ := hP3
  have hD4 : va_D A (fl [tW T a b_7 (nI 0) (fun _ => nI 0)]) := hD3
  have hS4 := hS3
  refine ret_v hTG (Nat.le_of_ble_eq_true rfl) (Nat.le_of_ble_eq_true rfl) hx hb hr hlocks (b_7) hP4 hD4 hS4 [0] rfl (by decide) dX4_init_17 ?_
  first | rfl | trivial
set_option maxHeartbeats 4000000 in
set_option maxRecDepth 100000 in
theorem c_X1_init (l : Launch) (D : va_G) (T : TI) (a : Nat)  : CV l yX1_init cX1_init 1 (rmD 1 3 18) D T [.ref a] [obW a 1 [.null, .null, .null]] 3 18 (β := Nat → Nat) (fun (q : Nat → Nat) => [hO q, aW T 0 (q 1) 12 (fun _ => nI 0), aW T 0 (q 2) 3 (fun _ => nI 0), aW T 0 (q 3) 3 (fun _ => nI 0)]) (fun (q : Nat → Nat) => q 0 = a) := by
  intro sz
  refine met_rw (Qc := fun A => va_Qv _ (PST D _ A) A) rfl (Nat.le_of_ble_eq_true rfl) ?_
  intro pX eX sX mX bX mtX cX A hAe hC hA hP0 hD0 hS0 ls0 hl0 TG hTG
  clear hAe
  obtain ⟨hx, hb, hr, hml, hown, hts, hlocks, hin, hK⟩ := hC
  have hown : sX.vm.findClass RX1 = some mX.cls := hown
  have hl0 : lv_has ls0 1 [(0, .ref a)] := hl0
  refine lv_aload_n hx hb dX1_init_0 rfl (lv_at hl0 0 rfl) ?_
  refine W.objInit hx hb hown (hts _ kw_123) (hts _ kw_22) (hts _ kobj) rfl (by rw [hml]; exact hl0.1) rfl dX1_init_1 (Nat.le_of_ble_eq_true rfl) (Nat.le_of_ble_eq_true rfl) ?_
  refine W.eq (g2 := F0 mX 4 _ []) rfl ?_
  refine lv_aload_n hx hb dX1_init_4 rfl (lv_at hl0 0 rfl) ?_
  refine lv_bipush (v := nI 12) hx hb dX1_init_5 (by decide) ?_
  refine r_newa hx hb hts hK hP0 hD0 hS0 hA 12 (by decide) (Nat.le_of_ble_eq_true rfl) (Nat.le_of_ble_eq_true rfl) dX1_init_7 (fun (b_7 : Nat) (H1 : Heap) (hP1 : va_P D vwCl (fl [obW a 1 [.null, .null, .null], aW T 0 b_7 12 (fun _ => nI 0)]) H1) (hD1 : va_D A (fl [obW a 1 [.null, .null, .null], aW T 0 b_7 12 (fun _ => nI 0)])) hS1 => ?_)
  clear hP0 hD0 hS0
  refine r_putF (own := RX1) (F := TX1) (N := 3) (ci := 1) hx hb hK hts in_X1 tyX1 tyX1_ok nmX1 hown hP1 hD1 hS1 0 rfl rfl 0 (by decide) kw_124 rfl rfl hin rfl rfl (Nat.le_of_ble_eq_true rfl) dX1_init_9 (fun (H2 : Heap) (locs2 : List Loc) (hP2 : va_P D vwCl (fl [obW a 1 [.ref b_7, .null, .null], aW T 0 b_7 12 (fun _ => nI 0)]) H2) (hD2 : va_D A (fl [obW a 1 [.ref b_7, .null, .null], aW T 0 b_7 12 (fun _ => nI 0)])) hS2 => ?_)
  clear hP1 hD1 hS1
  refine lv_aload_n hx hb dX1_init_12 rfl (lv_at hl0 0 rfl) ?_
  refine lv_iconst (v := nI 3) hx hb dX1_init_13 (by decide) ?_
  refine r_newa hx hb hts hK hP2 hD2 hS2 hA 3 (by decide) (Nat.le_of_ble_eq_true rfl) (Nat.le_of_ble_eq_true rfl) dX1_init_14 (fun (b_14 : Nat) (H3 : Heap) (hP3 : va_P D vwCl (fl [obW a 1 [.ref b_7, .null, .null], aW T 0 b_7 12 (fun _ => nI 0), aW T 0 b_14 3 (fun _ => nI 0)]) H3) (hD3 : va_D A (fl [obW a 1 [.ref b_7, .null, .null], aW T 0 b_7 12 (fun _ => nI 0), aW T 0 b_14 3 (fun _ => nI 0)])) hS3 => ?_)
  clear hP2 hD2 hS2
  refine r_putF (own := RX1) (F := TX1) (N := 3) (ci := 1) hx hb hK hts in_X1 tyX1 tyX1_ok nmX1 hown hP3 hD3 hS3 0 rfl rfl 1 (by decide) kw_125 rfl rfl hin rfl rfl (Nat.le_of_ble_eq_true rfl) dX1_init_16 (fun (H4 : Heap) (locs4 : List Loc) (hP4 : va_P D vwCl (fl [obW a 1 [.ref b_7, .ref b_14, .null], aW T 0 b_7 12 (fun _ => nI 0), aW T 0 b_14 3 (fun _ => nI 0)]) H4) (hD4 : va_D A (fl [obW a 1 [.ref b_7, .ref b_14, .null], aW T 0 b_7 12 (fun _ => nI 0), aW T 0 b_14 3 (fun _ => nI 0)])) hS4 => ?_)
  clear hP3 hD3 hS3
  refine lv_aload_n hx hb dX1_init_19 rfl (lv_at hl0 0 rfl) ?_
  refine lv_iconst (v := nI 3) hx hb dX1_init_20 (by decide) ?_
  refine r_newa hx hb hts hK hP4 hD4 hS4 hA 3 (by decide) (Nat.le_of_ble_eq_true rfl) (Nat.le_of_ble_eq_true rfl) dX1_init_21 (fun (b_21 : Nat) (H5 : Heap) (hP5 : va_P D vwCl (fl [obW a 1 [.ref b_7, .ref b_14, .null], aW T 0 b_7 12 (fun _ => nI 0), aW T 0 b_14 3 (fun _ => nI 0), aW T 0 b_21 3 (fun _ => nI 0)]) H5) (hD5 : va_D A (fl [obW a 1 [.ref b_7, .ref b_14, .null], aW T 0 b_7 12 (fun _ => nI 0), aW T 0 b_14 3 (fun _ => nI 0), aW T 0 b_21 3 (fun _ => nI 0)])) hS5 => ?_)
  clear hP4 hD4 hS4
  refine r_putF (own := RX1) (F := TX1) (N := 3) (ci := 1) hx hb hK hts in_X1 tyX1 tyX1_ok nmX1 hown hP5 hD5 hS5 0 rfl rfl 2 (by decide) kw_127 rfl rfl hin rfl rfl (Nat.le_of_ble_eq_true rfl) dX1_init_23 (fun (H6 : Heap) (locs6 : List Loc) (hP6 : va_P D vwCl (fl [obW a 1 [.ref b_7, .ref b_14, .ref b_21], aW T 0 b_7 12 (fun _ => nI 0), aW T 0 b_14 3 (fun _ => nI 0), aW T 0 b_21 3 (fun _ => nI 0)]) H6) (hD6 : va_D A (fl [obW a 1 [.ref b_7, .ref b_14, .ref b_21], aW T 0 b_7 12 (fun _ => nI 0), aW T 0 b_14 3 (fun _ => nI 0), aW T 0 b_21 3 (fun _ => nI 0)])) hS6 => ?_)
  clear hP5 hD5 hS5
  have hP7 : va_P D vwCl (fl [hO (fun k => [a, b_7, b_14, b_21].getD k 0), aW T 0 ((fun k => [a, b_7, b_14, b_21].getD k 0) 1) 12 (fun _ => nI 0), aW T 0 ((fun k => [a, b_7, b_14, b_21].getD k 0) 2) 3 (fun _ => nI 0), aW T 0 ((fun k => [a, b_7, b_14, b_21].getD k 0) 3) 3 (fun _ => nI 0)]) _ := hP6
  have hD7 : va_D A (fl [hO (fun k => [a, b_7, b_14, b_21].getD k 0), aW T 0 ((fun k => [a, b_7, b_14, b_21].getD k 0) 1) 12 (fun _ => nI 0), aW T 0 ((fun k => [a, b_7, b_14, b_21].getD k 0) 2) 3 (fun _ => nI 0), aW T 0 ((fun k => [a, b_7, b_14, b_21].getD k 0) 3) 3 (fun _ => nI 0)]) := hD6
  have hS7 := hS6
  refine ret_v hTG (Nat.le_of_ble_eq_true rfl) (Nat.le_of_ble_eq_true rfl) hx hb hr hlocks ((fun k => [a, b_7, b_14, b_21].getD k 0)) hP7 hD7 hS7 [0, 1, 2, 3] rfl (by decide) dX1_init_26 ?_
  first | rfl | trivial
set_option maxHeartbeats 4000000 in
set_option maxRecDepth 100000 in
theorem c_X2_init (l : Launch) (D : va_G) (T : TI) (a : Nat)  : CV l yX2_init cX2_init 1 (rmD 1 1 60) D T [.ref a] [obW a 2 [.null, .int (nI 0), .int (nI 0), .int (nI 0)]] 1 60 (β := Nat) (fun (b : Nat) => [gW T a b (fun _ => nI 0) (nI 0) (nI 0) (nI 0)]) (fun (b : Nat) => True) := by
  intro sz
  refine met_rw (Qc := fun A => va_Qv _ (PST D _ A) A) rfl (Nat.le_of_ble_eq_true rfl) ?_
  intro pX eX sX mX bX mtX cX A hAe hC hA hP0 hD0 hS0 ls0 hl0 TG hTG
  clear hAe
  obtain ⟨hx, hb, hr, hml, hown, hts, hlocks, hin, hK⟩ := hC
  have hown : sX.vm.findClass RX2 = some mX.cls := hown
  have hl0 : lv_has ls0 1 [(0, .ref a)] := hl0
  refine lv_aload_n hx hb dX2_init_0 rfl (lv_at hl0 0 rfl) ?_
  refine W.objInit hx hb hown (hts _ kw_158) (hts _ kw_22) (hts _ kobj) rfl (by rw [hml]; exact hl0.1) rfl dX2_init_1 (Nat.le_of_ble_eq_true rfl) (Nat.le_of_ble_eq_true rfl) ?_
  refine W.eq (g2 := F0 mX 4 _ []) rfl ?_
  refine lv_aload_n hx hb dX2_init_4 rfl (lv_at hl0 0 rfl) ?_
  refine lv_bipush (v := nI 60) hx hb dX2_init_5 (by decide) ?_
  refine r_newa hx hb hts hK hP0 hD0 hS0 hA 60 (by decide) (Nat.le_of_ble_eq_true rfl) (Nat.le_of_ble_eq_true rfl) dX2_init_7 (fun (b_7 : Nat) (H1 : Heap) (hP1 : va_P D vwCl (fl [obW a 2 [.null, .int (nI 0), .int (nI 0), .int (nI 0)], aW T 0 b_7 60 (fun _ => nI 0)]) H1) (hD1 : va_D A (fl [obW a 2 [.null, .int (nI 0), .int (nI 0), .int (nI 0)], aW T 0 b_7 60 (fun _ => nI 0)])) hS1 => ?_)
  clear hP0 hD0 hS0
  refine r_putF (own := RX2) (F := TX2) (N := 4) (ci := 2) hx hb hK hts in_X2 tyX2 tyX2_ok nmX2 hown hP1 hD1 hS1 0 rfl rfl 0 (by decide) kw_159 rfl rfl hin rfl rfl (Nat.le_of_ble_eq_true rfl) dX2_init_9 (fun (H2 : Heap) (locs2 : List Loc) (hP2 : va_P D vwCl (fl [obW a 2 [.ref b_7, .int (nI 0), .int (nI 0), .int (nI 0)], aW T 0 b_7 60 (fun _ => nI 0)]) H2) (hD2 : va_D A (fl [obW a 2 [.ref b_7, .int (nI 0), .int (nI 0), .int (nI 0)], aW T 0 b_7 60 (fun _ => nI 0)])) hS2 => ?_)
  clear hP1 hD1 hS1
  refine lv_aload_n hx hb dX2_init_12 rfl (lv_at hl0 0 rfl) ?_
  refine lv_iconst (v := nI 0) hx hb dX2_init_13 (by decide) ?_
  refine r_put (own := RX2) (C := RX2) (F := TX2) (N := 4) (ci := 2) (v := nI 0) hx hb hK hts in_X2 tyX2 tyX2_ok nmX2 hown hP2 hD2 hS2 0 rfl rfl 1 (by decide) kw_160 rfl rfl (Nat.le_of_ble_eq_true rfl) dX2_init_14 (fun (H3 : Heap) (locs3 : List Loc) (hP3 : va_P D vwCl (fl [obW a 2 [.ref b_7, .int (nI 0), .int (nI 0), .int (nI 0)], aW T 0 b_7 60 (fun _ => nI 0)]) H3) (hD3 : va_D A (fl [obW a 2 [.ref b_7, .int (nI 0), .int (nI 0), .int (nI 0)], aW T 0 b_7 60 (fun _ => nI 0)])) hS3 => ?_)
  clear hP2 hD2 hS2
  refine lv_aload_n hx hb dX2_init_17 rfl (lv_at hl0 0 rfl) ?_
  refine lv_iconst (v := nI 0) hx hb dX2_init_18 (by decide) ?_
  refine r_put (own := RX2) (C := RX2) (F := TX2) (N := 4) (ci := 2) (v := nI 0) hx hb hK hts in_X2 tyX2 tyX2_ok nmX2 hown hP3 hD3 hS3 0 rfl rfl 2 (by decide) kw_161 rfl rfl (Nat.le_of_ble_eq_true rfl) dX2_init_19 (fun (H4 : Heap) (locs4 : List Loc) (hP4 : va_P D vwCl (fl [obW a 2 [.ref b_7, .int (nI 0), .int (nI 0), .int (nI 0)], aW T 0 b_7 60 (fun _ => nI 0)]) H4) (hD4 : va_D A (fl [obW a 2 [.ref b_7, .int (nI 0), .int (nI 0), .int (nI 0)], aW T 0 b_7 60 (fun _ => nI 0)])) hS4 => ?_)
  clear hP3 hD3 hS3
  refine lv_aload_n hx hb dX2_init_22 rfl (lv_at hl0 0 rfl) ?_
  refine lv_iconst (v := nI 0) hx hb dX2_init_23 (by decide) ?_
  refine r_put (own := RX2) (C := RX2) (F := TX2) (N := 4) (ci := 2) (v := nI 0) hx hb hK hts in_X2 tyX2 tyX2_ok nmX2 hown hP4 hD4 hS4 0 rfl rfl 3 (by decide) kw_162 rfl rfl (Nat.le_of_ble_eq_true rfl) dX2_init_24 (fun (H5 : Heap) (locs5 : List Loc) (hP5 : va_P D vwCl (fl [obW a 2 [.ref b_7, .int (nI 0), .int (nI 0), .int (nI 0)], aW T 0 b_7 60 (fun _ => nI 0)]) H5) (hD5 : va_D A (fl [obW a 2 [.ref b_7, .int (nI 0), .int (nI 0), .int (nI 0)], aW T 0 b_7 60 (fun _ => nI 0)])) hS5 => ?_)
  clear hP4 hD4 hS4
  have hP6 : va_P D vwCl (fl [gW T a b_7 (fun _ => nI 0) (nI 0) (nI 0) (nI 0)]) _ := hP5
  have hD6 : va_D A (fl [gW T a b_7 (fun _ => nI 0) (nI 0) (nI 0) (nI 0)]) := hD5
  have hS6 := hS5
  refine ret_v hTG (Nat.le_of_ble_eq_true rfl) (Nat.le_of_ble_eq_true rfl) hx hb hr hlocks (b_7) hP6 hD6 hS6 [0] rfl (by decide) dX2_init_27 ?_
  first | rfl | trivial
