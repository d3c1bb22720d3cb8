/-! the law's methods that catch -/
def oW (T : TI) (o : Nat) (g : Nat → Int64) : va_W := [(o, .inl (T 4, 1, .inr (.inl g)))]
def WI (l : Launch) (y : MethodName) (cc : ByteArray) (nL : Nat) (hh : List (Nat × Nat × Nat × Nat)) (rm : Room) (D : va_G) (T : TI) (As : List Value) (bs : List va_W) (mc ms : Nat) {β : Type} (WS : β → List va_W) (Q : Int32 → β → Prop) : Prop := ∀ sz, vx_Met l y (.codeWith y cc nL (some .int) hh :: W0) rm (va_Pc As (PREX D T bs sz)) (va_Qi Q (PST D WS (va_A (fl bs) sz)) (va_A (fl bs) sz)) (XPS D (fun _ : Unit => []) (fun _ _ => False) (va_A (fl bs) sz)) mc ms (va_A (fl bs) sz)
section WCONTR
variable {l : Launch} {y : MethodName} {cc : ByteArray} {nL : Nat} {rm : Room} {D : va_G} {T : TI} {As : List Value} {bs : List va_W} {mc ms : Nat}
theorem met_w {ret : Option FieldType} {hh : List (Nat × Nat × Nat × Nat)} {Qc : (Nat → Prop) → Array Value → State → Outcome → State → Prop} {XC : (Nat → Prop) → String → State → State → Prop} {sz : Nat} (hy : plainName y.cls = true) (hn : (lg_sl As).length ≤ nL)
    (body : ∀ {p : Program} {e : Env} {s : State} {m : MethodId} {below : List Frame} {meth : Method} {c : Code} (A : Nat → Prop), A = va_A (fl bs) s.heap.size → CX D T p s m As.toArray meth c cc nL y ret → c.exceptionTable.toList = tableOf hh → STA A s s.heap → (∀ q, s.heap.size ≤ q → A q) → va_P D vwCl (fl bs) s.heap → va_D A (fl bs) → va_S A s.heap s.heap [] → ∀ ls, lv_has ls nL (lv_args 0 As) → ∀ TG : State → Prop, TG = vx_MQ below (Qc A) (XC A) As.toArray s mc ms A →
      W p l e rm s m As.toArray below meth c s.heap [] 0 0 TG (F0 m 0 ls [])) :
    vx_Met l y (.codeWith y cc nL ret hh :: W0) rm (va_Pc As (PREX D T bs sz)) (Qc (va_A (fl bs) sz)) (XC (va_A (fl bs) sz)) mc ms (va_A (fl bs) sz) := by
  refine vx_ofWH (cc := cc) (maxL := nL) (ret := ret) (hh := hh) hy rfl ?_
  intro p e s m args below meth c s₁ B hml hv
  obtain ⟨rfl, ⟨hsz, hP, hK, hD0⟩, hST⟩ := hv
  subst hsz
  rw [lg_entry_eq]
  have h := atoms_spec (ws := .codeWith y cc nL ret hh :: W0) B.pre
  have htb := vx_table (x := y) B (h _ List.mem_cons_self)
  exact body (va_A (fl bs) s.heap.size) rfl ⟨B.exec, B.bytes, B.returns, hml, findClass_of_methodNamed B.named, fun w hw => h w (List.mem_cons_of_mem _ hw), B.notSynchronized, (name_of_methodNamed B.named B.method).1, hK⟩ htb hST (fun q h => Or.inr h) hP hD0.self va_S.rf _ (lv_entry As hn) _ rfl
end WCONTR
section RLONG
variable {p : Program} {l : Launch} {e : Env} {R : Room} {s : State} {m : MethodId} {args : Array Value} {below : List Frame} {meth : Method} {c : Code} {H H0 : Heap} {locs : List Loc} {cells slots : Nat} {Q : State → Prop} {cc : ByteArray} {pc : Nat} {ls : Array Slot} {rest : List Value} {D : va_G} {T : TI} {A : Nat → Prop} {ws : va_W} {a : Nat}
theorem r_last (hexec : p.tables.exec = Jvm.exec) (hb : c.code = cc) (hK : KN D T s) (hP : va_P D vwCl ws H) (hD : va_D A ws) (hS : va_S A H0 H locs) (q0 : Nat) {n : Nat} {f : Nat → Int64} (ha : ws[q0]? = some (a, .inl (T 4, n, .inr (.inl f)))) (i : Nat) (hn : n < 2147483648) {x : Int64} (hdg : decode cc pc = .ok (.lastore, 1)) (hin : i < n)
    (kk : ∀ (H1 : Heap) (locs1 : List Loc), va_P D vwCl (ws.set q0 (a, .inl (T 4, n, .inr (.inl (vp_updL f i x))))) H1 → va_D A (ws.set q0 (a, .inl (T 4, n, .inr (.inl (vp_updL f i x))))) → va_S A H0 H1 locs1 → W p l e R s m args below meth c H1 locs1 cells slots Q (F0 m (pc + 1) ls rest)) : W p l e R s m args below meth c H locs cells slots Q (F0 m pc ls (.long x :: .int (nI i) :: .ref a :: rest)) := by
  refine va_last hexec hb hK.1 hP hD hS q0 4 ha rfl (nIin hin hn) hdg ?_
  rw [nIcl (by omega)]
  exact kk
theorem r_lald (hexec : p.tables.exec = Jvm.exec) (hb : c.code = cc) (hK : KN D T s) (hP : va_P D vwCl ws H) (q0 : Nat) {n : Nat} {f : Nat → Int64} (ha : ws[q0]? = some (a, .inl (T 4, n, .inr (.inl f)))) (i : Nat) (hn : n < 2147483648) (hdg : decode cc pc = .ok (.laload, 1)) (hin : i < n)
    (kk : W p l e R s m args below meth c H locs cells slots Q (F0 m (pc + 1) ls (.long (f i) :: rest))) : W p l e R s m args below meth c H locs cells slots Q (F0 m pc ls (.int (nI i) :: .ref a :: rest)) := by
  refine va_lald hexec hb hK.1 hP q0 4 ha rfl (nIin hin hn) hdg ?_
  rw [nIcl (by omega)]
  exact kk
end RLONG
theorem updL_0 (g : Nat → Int64) (x : Int64) : vp_updL g 0 x 0 = x := by simp [vp_updL]
abbrev WQ (T : TI) (xa K : Nat) (P : R5) (f : Nat → Int32) (n : Nat) : Int32 → va_W × (Nat → Int64) → Prop := fun r u => r = P.2.1 ∧ (r = nI 0 → u.2 0 = P.1.toInt64) ∧ XINV T xa u.1 P.2.2.1 P.2.2.2.1 P.2.2.2.2 f n (K + 96)
abbrev WQr (T : TI) (xa K : Nat) (mm past : Nat → Int32) (kp : Nat) (f : Nat → Int32) (n : Nat) : Int32 → va_W × (Nat → Int64) → Prop := fun r u => (r = nI 0 ∧ ∃ v, u.2 0 = v.toInt64 ∧ QNr T xa K mm past kp f n v u.1) ∨ (r = nI 1 ∧ cmB f 0 n = false ∧ XINV T xa u.1 mm past kp f n (K + 96))
theorem kcw_pressure : Cond.codeWith yL_pressure cL_pressure 5 (some .int) [(0, 10, 13, 13), (0, 10, 17, 15)] ∈ W0 := W0_in (List.mem_of_getElem? (i := 518) (by decide +kernel)) (by decide +kernel)
set_option maxHeartbeats 4000000 in
set_option maxRecDepth 100000 in
theorem c_L_pressure (l : Launch) (D : va_G) (T : TI) (hl : l.stackTraces = false) {xa : Nat} {wb : va_W} {mm past : Nat → Int32} {kp : Nat} {f : Nat → Int32} {n K : Nat} (hI : XINV T xa wb mm past kp f n K) (hK : K ≤ 490000) (o : Nat) (g : Nat → Int64) (zn : Int32) (p : Int32) : WI l yL_pressure cL_pressure 5 [(0, 10, 13, 13), (0, 10, 17, 15)] (rmD 8 2 12) D T [.ref xa, .int zn, .int p, .ref o] [oW T o g, wb] 2 12 (β := va_W × (Nat → Int64)) (fun u => [oW T o u.2, u.1]) (WQ T xa K (pressureP zn p mm past kp) (f) (n)) := by
  intro sz
  refine met_w (Qc := fun A => va_Qi _ (PST D _ A) A) (XC := fun A => XPS D _ _ A) rfl (Nat.le_of_ble_eq_true rfl) ?_
  intro pX eX sX mX bX mtX cX A hAe hC htb hST hA hP0 hD0 hS0 ls0 hl0 TG hTG
  clear hAe
  obtain ⟨hx, hb, hr, hml, hown, hts, hlocks, hin, hK2⟩ := hC
  have hown : sX.vm.findClass RL = some mX.cls := hown
  have htb : cX.exceptionTable.toList = [⟨0, 10, 13, 13⟩, ⟨0, 10, 17, 15⟩] := htb
  have hl0 : lv_has ls0 5 [(0, .ref xa), (1, .int zn), (2, .int p), (3, .ref o)] := hl0
  refine lv_aload_n hx hb dL_pressure_0 rfl (lv_at hl0 3 rfl) ?_
  refine lv_iconst (v := nI 0) hx hb dL_pressure_1 (by decide) ?_
  refine lv_aload_n hx hb dL_pressure_2 rfl (lv_at hl0 0 rfl) ?_
  refine lv_iload_n hx hb dL_pressure_3 rfl (lv_at hl0 1 rfl) ?_
  refine lv_iload_n hx hb dL_pressure_4 rfl (lv_at hl0 2 rfl) ?_
  have hPc : va_P D vwCl (fl [wb]) _ := flP_sub hP0 [1] rfl
  have hDc : va_D A (fl [wb]) := flD_sub hD0 [1] (by decide) rfl
  obtain ⟨fs, hfs⟩ := hI.recv
  refine clx_i (br := [oW T o g]) (vx_runV (As := [.int zn, .int p]) (rest := [.int (nI 0), .ref o]) ⟨hx, hb, hml, hown, hts⟩ (d_X5_pressure l D T hl hI hK zn p _) (mkV hts okX5_pressure kw_493 kw_494 kw_495 ⟨rfl, rfl, Nat.le_of_ble_eq_true rfl, Nat.le_of_ble_eq_true rfl⟩) (pv_x hK2 hST hS0 hPc hDc (vA_c (br := [oW T o g]) hP0 hD0 hS0 hA (isR := [0]) (isC := [1]) rfl (by decide)) hfs (q := (RX5, TX5, 5)) rfl rfl) rfl rfl hl0.1 rfl (lv_room (Nat.le_of_ble_eq_true rfl)) dL_pressure_5 ⟨Nat.le_of_ble_eq_true rfl, Nat.le_of_ble_eq_true rfl⟩) hP0 hD0 hS0 hA [0] [1] rfl (by decide) (fun E ce q9 w2 Hx lx hqx hPx hDx hSx h1 h2 h3 => ?_) (fun r w2 H1 locs1 hq hP1 hD1 hS1 => ?_)
  · have hPx : va_P D vwCl (fl [oW T o g, w2]) Hx := hPx
    have hDx : va_D A (fl [oW T o g, w2]) := hDx
    obtain ⟨hE, hI2⟩ := hqx
    rcases hE with ⟨rfl, e1⟩ | ⟨rfl, e2⟩
    · skip
      refine vx_catch (own := RL) (name := XIO) (E := XIO) hown [] ⟨0, 10, 13, 13⟩ [⟨0, 10, 17, 15⟩] htb (fun z hz => absurd hz List.not_mem_nil) (by decide) (by decide) (hts _ kw_491) (va_tabs rfl rfl hK2.2.2.2.2.1.1) h1 h2 h3 ?_
      refine lv_astore (pc := 13) (lv' := [(4, .ref q9), (0, .ref xa), (1, .int zn), (2, .int p), (3, .ref o)]) hx hb dL_pressure_13 hl0 (by decide) rfl (fun ls2 hl2 => ?_)
      refine lv_iconst (v := nI 1) hx hb dL_pressure_15 (by decide) ?_
      exact retx_i hTG (Nat.le_of_ble_eq_true rfl) (Nat.le_of_ble_eq_true rfl) hx hb hr hlocks (w2, g) hPx hDx hSx [0, 1] rfl (by decide) dL_pressure_16 (⟨e1.symm, fun q => absurd q (by decide), hI2⟩)
    · skip
      refine vx_catch (own := RL) (name := XIA) (E := XIA) hown [⟨0, 10, 13, 13⟩] ⟨0, 10, 17, 15⟩ [] htb (fun z hz => by rw [List.mem_singleton] at hz; subst hz; exact Or.inr ⟨by decide, XIO, hts _ kw_491, hK2.2.2.2.2.2.1.1⟩) (by decide) (by decide) (hts _ kw_492) (va_tabs rfl rfl hK2.2.2.2.2.1.2.1) h1 h2 h3 ?_
      refine lv_astore (pc := 17) (lv' := [(4, .ref q9), (0, .ref xa), (1, .int zn), (2, .int p), (3, .ref o)]) hx hb dL_pressure_17 hl0 (by decide) rfl (fun ls2 hl2 => ?_)
      refine lv_iconst (v := nI 2) hx hb dL_pressure_19 (by decide) ?_
      exact retx_i hTG (Nat.le_of_ble_eq_true rfl) (Nat.le_of_ble_eq_true rfl) hx hb hr hlocks (w2, g) hPx hDx hSx [0, 1] rfl (by decide) dL_pressure_20 (⟨e2.symm, fun q => absurd q (by decide), hI2⟩)
  · have hP1 : va_P D vwCl (fl [oW T o g, w2]) H1 := hP1
    have hD1 : va_D A (fl [oW T o g, w2]) := hD1
    refine lv_i2l hx hb dL_pressure_8 rfl ?_
    refine r_last hx hb hK2 hP1 hD1 hS1 0 (f := g) rfl 0 (by decide) dL_pressure_9 (by decide) (fun H2 locs2 (hP2 : va_P D vwCl (fl [oW T o (vp_updL g 0 r.toInt64), w2]) H2) (hD2 : va_D A (fl [oW T o (vp_updL g 0 r.toInt64), w2])) hS2 => ?_)
    refine lv_goto (tgt := 21) hx hb dL_pressure_10 (by decide) ?_
    refine lv_iconst (v := nI 0) hx hb dL_pressure_21 (by decide) ?_
    exact retx_i hTG (Nat.le_of_ble_eq_true rfl) (Nat.le_of_ble_eq_true rfl) hx hb hr hlocks (w2, vp_updL g 0 r.toInt64) hP2 hD2 hS2 [0, 1] rfl (by decide) dL_pressure_22 (⟨hq.2.1.symm, fun _ => (updL_0 g _).trans (congrArg Int32.toInt64 hq.1), hq.2.2⟩)
theorem kcw_valve : Cond.codeWith yL_valve cL_valve 5 (some .int) [(0, 10, 13, 13)] ∈ W0 := W0_in (List.mem_of_getElem? (i := 536) (by decide +kernel)) (by decide +kernel)
set_option maxHeartbeats 4000000 in
set_option maxRecDepth 100000 in
theorem c_L_valve (l : Launch) (D : va_G) (T : TI) (hl : l.stackTraces = false) {xa : Nat} {wb : va_W} {mm past : Nat → Int32} {kp : Nat} {f : Nat → Int32} {n K : Nat} (hI : XINV T xa wb mm past kp f n K) (hK : K ≤ 490000) (o : Nat) (g : Nat → Int64) (zn : Int32) (ob : Bool) : WI l yL_valve cL_valve 5 [(0, 10, 13, 13)] (rmD 8 2 12) D T [.ref xa, .int zn, .int (bI ob), .ref o] [oW T o g, wb] 2 12 (β := va_W × (Nat → Int64)) (fun u => [oW T o u.2, u.1]) (WQ T xa K (valveP zn ob mm past kp) (f) (n)) := by
  intro sz
  refine met_w (Qc := fun A => va_Qi _ (PST D _ A) A) (XC := fun A => XPS D _ _ A) rfl (Nat.le_of_ble_eq_true rfl) ?_
  intro pX eX sX mX bX mtX cX A hAe hC htb hST hA hP0 hD0 hS0 ls0 hl0 TG hTG
  clear hAe
  obtain ⟨hx, hb, hr, hml, hown, hts, hlocks, hin, hK2⟩ := hC
  have hown : sX.vm.findClass RL = some mX.cls := hown
  have htb : cX.exceptionTable.toList = [⟨0, 10, 13, 13⟩] := htb
  have hl0 : lv_has ls0 5 [(0, .ref xa), (1, .int zn), (2, .int (bI ob)), (3, .ref o)] := hl0
  refine lv_aload_n hx hb dL_valve_0 rfl (lv_at hl0 3 rfl) ?_
  refine lv_iconst (v := nI 0) hx hb dL_valve_1 (by decide) ?_
  refine lv_aload_n hx hb dL_valve_2 rfl (lv_at hl0 0 rfl) ?_
  refine lv_iload_n hx hb dL_valve_3 rfl (lv_at hl0 1 rfl) ?_
  refine lv_iload_n hx hb dL_valve_4 rfl (lv_at hl0 2 rfl) ?_
  have hPc : va_P D vwCl (fl [wb]) _ := flP_sub hP0 [1] rfl
  have hDc : va_D A (fl [wb]) := flD_sub hD0 [1] (by decide) rfl
  obtain ⟨fs, hfs⟩ := hI.recv
  refine clx_i (br := [oW T o g]) (vx_runV (As := [.int zn, .int (bI ob)]) (rest := [.int (nI 0), .ref o]) ⟨hx, hb, hml, hown, hts⟩ (d_X5_valve l D T hl hI hK zn ob _) (mkV hts okX5_valve kw_509 kw_510 kw_511 ⟨rfl, rfl, Nat.le_of_ble_eq_true rfl, Nat.le_of_ble_eq_true rfl⟩) (pv_x hK2 hST hS0 hPc hDc (vA_c (br := [oW T o g]) hP0 hD0 hS0 hA (isR := [0]) (isC := [1]) rfl (by decide)) hfs (q := (RX5, TX5, 5)) rfl rfl) rfl rfl hl0.1 rfl (lv_room (Nat.le_of_ble_eq_true rfl)) dL_valve_5 ⟨Nat.le_of_ble_eq_true rfl, Nat.le_of_ble_eq_true rfl⟩) hP0 hD0 hS0 hA [0] [1] rfl (by decide) (fun E ce q9 w2 Hx lx hqx hPx hDx hSx h1 h2 h3 => ?_) (fun r w2 H1 locs1 hq hP1 hD1 hS1 => ?_)
  · have hPx : va_P D vwCl (fl [oW T o g, w2]) Hx := hPx
    have hDx : va_D A (fl [oW T o g, w2]) := hDx
    obtain ⟨hE, hI2⟩ := hqx
    obtain ⟨rfl, e1⟩ := hE
    refine vx_catch (own := RL) (name := XIO) (E := XIO) hown [] ⟨0, 10, 13, 13⟩ [] htb (fun z hz => absurd hz List.not_mem_nil) (by decide) (by decide) (hts _ kw_491) (va_tabs rfl rfl hK2.2.2.2.2.1.1) h1 h2 h3 ?_
    refine lv_astore (pc := 13) (lv' := [(4, .ref q9), (0, .ref xa), (1, .int zn), (2, .int (bI ob)), (3, .ref o)]) hx hb dL_valve_13 hl0 (by decide) rfl (fun ls2 hl2 => ?_)
    refine lv_iconst (v := nI 1) hx hb dL_valve_15 (by decide) ?_
    exact retx_i hTG (Nat.le_of_ble_eq_true rfl) (Nat.le_of_ble_eq_true rfl) hx hb hr hlocks (w2, g) hPx hDx hSx [0, 1] rfl (by decide) dL_valve_16 (⟨e1.symm, fun q => absurd q (by decide), hI2⟩)
  · have hP1 : va_P D vwCl (fl [oW T o g, w2]) H1 := hP1
    have hD1 : va_D A (fl [oW T o g, w2]) := hD1
    refine lv_i2l hx hb dL_valve_8 rfl ?_
    refine r_last hx hb hK2 hP1 hD1 hS1 0 (f := g) rfl 0 (by decide) dL_valve_9 (by decide) (fun H2 locs2 (hP2 : va_P D vwCl (fl [oW T o (vp_updL g 0 r.toInt64), w2]) H2) (hD2 : va_D A (fl [oW T o (vp_updL g 0 r.toInt64), w2])) hS2 => ?_)
    refine lv_goto (tgt := 17) hx hb dL_valve_10 (by decide) ?_
    refine lv_iconst (v := nI 0) hx hb dL_valve_17 (by decide) ?_
    exact retx_i hTG (Nat.le_of_ble_eq_true rfl) (Nat.le_of_ble_eq_true rfl) hx hb hr hlocks (w2, vp_updL g 0 r.toInt64) hP2 hD2 hS2 [0, 1] rfl (by decide) dL_valve_18 (⟨hq.2.1.symm, fun _ => (updL_0 g _).trans (congrArg Int32.toInt64 hq.1), hq.2.2⟩)
theorem kcw_dirt : Cond.codeWith yL_dirt cL_dirt 5 (some .int) [(0, 10, 13, 13), (0, 10, 17, 15)] ∈ W0 := W0_in (List.mem_of_getElem? (i := 543) (by decide +kernel)) (by decide +kernel)
set_option maxHeartbeats 4000000 in
set_option maxRecDepth 100000 in
theorem c_L_dirt (l : Launch) (D : va_G) (T : TI) (hl : l.stackTraces = false) {xa : Nat} {wb : va_W} {mm past : Nat → Int32} {kp : Nat} {f : Nat → Int32} {n K : Nat} (hI : XINV T xa wb mm past kp f n K) (hK : K ≤ 490000) (o : Nat) (g : Nat → Int64) (zn : Int32) (p : Int32) : WI l yL_dirt cL_dirt 5 [(0, 10, 13, 13), (0, 10, 17, 15)] (rmD 8 2 12) D T [.ref xa, .int zn, .int p, .ref o] [oW T o g, wb] 2 12 (β := va_W × (Nat → Int64)) (fun u => [oW T o u.2, u.1]) (WQ T xa K (dirtP zn p mm past kp) (f) (n)) := by
  intro sz
  refine met_w (Qc := fun A => va_Qi _ (PST D _ A) A) (XC := fun A => XPS D _ _ A) rfl (Nat.le_of_ble_eq_true rfl) ?_
  intro pX eX sX mX bX mtX cX A hAe hC htb hST hA hP0 hD0 hS0 ls0 hl0 TG hTG
  clear hAe
  obtain ⟨hx, hb, hr, hml, hown, hts, hlocks, hin, hK2⟩ := hC
  have hown : sX.vm.findClass RL = some mX.cls := hown
  have htb : cX.exceptionTable.toList = [⟨0, 10, 13, 13⟩, ⟨0, 10, 17, 15⟩] := htb
  have hl0 : lv_has ls0 5 [(0, .ref xa), (1, .int zn), (2, .int p), (3, .ref o)] := hl0
  refine lv_aload_n hx hb dL_dirt_0 rfl (lv_at hl0 3 rfl) ?_
  refine lv_iconst (v := nI 0) hx hb dL_dirt_1 (by decide) ?_
  refine lv_aload_n hx hb dL_dirt_2 rfl (lv_at hl0 0 rfl) ?_
  refine lv_iload_n hx hb dL_dirt_3 rfl (lv_at hl0 1 rfl) ?_
  refine lv_iload_n hx hb dL_dirt_4 rfl (lv_at hl0 2 rfl) ?_
  have hPc : va_P D vwCl (fl [wb]) _ := flP_sub hP0 [1] rfl
  have hDc : va_D A (fl [wb]) := flD_sub hD0 [1] (by decide) rfl
  obtain ⟨fs, hfs⟩ := hI.recv
  refine clx_i (br := [oW T o g]) (vx_runV (As := [.int zn, .int p]) (rest := [.int (nI 0), .ref o]) ⟨hx, hb, hml, hown, hts⟩ (d_X5_dirt l D T hl hI hK zn p _) (mkV hts okX5_dirt kw_516 kw_517 kw_518 ⟨rfl, rfl, Nat.le_of_ble_eq_true rfl, Nat.le_of_ble_eq_true rfl⟩) (pv_x hK2 hST hS0 hPc hDc (vA_c (br := [oW T o g]) hP0 hD0 hS0 hA (isR := [0]) (isC := [1]) rfl (by decide)) hfs (q := (RX5, TX5, 5)) rfl rfl) rfl rfl hl0.1 rfl (lv_room (Nat.le_of_ble_eq_true rfl)) dL_dirt_5 ⟨Nat.le_of_ble_eq_true rfl, Nat.le_of_ble_eq_true rfl⟩) hP0 hD0 hS0 hA [0] [1] rfl (by decide) (fun E ce q9 w2 Hx lx hqx hPx hDx hSx h1 h2 h3 => ?_) (fun r w2 H1 locs1 hq hP1 hD1 hS1 => ?_)
  · have hPx : va_P D vwCl (fl [oW T o g, w2]) Hx := hPx
    have hDx : va_D A (fl [oW T o g, w2]) := hDx
    obtain ⟨hE, hI2⟩ := hqx
    rcases hE with ⟨rfl, e1⟩ | ⟨rfl, e2⟩
    · skip
      refine vx_catch (own := RL) (name := XIO) (E := XIO) hown [] ⟨0, 10, 13, 13⟩ [⟨0, 10, 17, 15⟩] htb (fun z hz => absurd hz List.not_mem_nil) (by decide) (by decide) (hts _ kw_491) (va_tabs rfl rfl hK2.2.2.2.2.1.1) h1 h2 h3 ?_
      refine lv_astore (pc := 13) (lv' := [(4, .ref q9), (0, .ref xa), (1, .int zn), (2, .int p), (3, .ref o)]) hx hb dL_dirt_13 hl0 (by decide) rfl (fun ls2 hl2 => ?_)
      refine lv_iconst (v := nI 1) hx hb dL_dirt_15 (by decide) ?_
      exact retx_i hTG (Nat.le_of_ble_eq_true rfl) (Nat.le_of_ble_eq_true rfl) hx hb hr hlocks (w2, g) hPx hDx hSx [0, 1] rfl (by decide) dL_dirt_16 (⟨e1.symm, fun q => absurd q (by decide), hI2⟩)
    · skip
      refine vx_catch (own := RL) (name := XIA) (E := XIA) hown [⟨0, 10, 13, 13⟩] ⟨0, 10, 17, 15⟩ [] htb (fun z hz => by rw [List.mem_singleton] at hz; subst hz; exact Or.inr ⟨by decide, XIO, hts _ kw_491, hK2.2.2.2.2.2.1.1⟩) (by decide) (by decide) (hts _ kw_492) (va_tabs rfl rfl hK2.2.2.2.2.1.2.1) h1 h2 h3 ?_
      refine lv_astore (pc := 17) (lv' := [(4, .ref q9), (0, .ref xa), (1, .int zn), (2, .int p), (3, .ref o)]) hx hb dL_dirt_17 hl0 (by decide) rfl (fun ls2 hl2 => ?_)
      refine lv_iconst (v := nI 2) hx hb dL_dirt_19 (by decide) ?_
      exact retx_i hTG (Nat.le_of_ble_eq_true rfl) (Nat.le_of_ble_eq_true rfl) hx hb hr hlocks (w2, g) hPx hDx hSx [0, 1] rfl (by decide) dL_dirt_20 (⟨e2.symm, fun q => absurd q (by decide), hI2⟩)
  · have hP1 : va_P D vwCl (fl [oW T o g, w2]) H1 := hP1
    have hD1 : va_D A (fl [oW T o g, w2]) := hD1
    refine lv_i2l hx hb dL_dirt_8 rfl ?_
    refine r_last hx hb hK2 hP1 hD1 hS1 0 (f := g) rfl 0 (by decide) dL_dirt_9 (by decide) (fun H2 locs2 (hP2 : va_P D vwCl (fl [oW T o (vp_updL g 0 r.toInt64), w2]) H2) (hD2 : va_D A (fl [oW T o (vp_updL g 0 r.toInt64), w2])) hS2 => ?_)
    refine lv_goto (tgt := 21) hx hb dL_dirt_10 (by decide) ?_
    refine lv_iconst (v := nI 0) hx hb dL_dirt_21 (by decide) ?_
    exact retx_i hTG (Nat.le_of_ble_eq_true rfl) (Nat.le_of_ble_eq_true rfl) hx hb hr hlocks (w2, vp_updL g 0 r.toInt64) hP2 hD2 hS2 [0, 1] rfl (by decide) dL_dirt_22 (⟨hq.2.1.symm, fun _ => (updL_0 g _).trans (congrArg Int32.toInt64 hq.1), hq.2.2⟩)
theorem kcw_hydrant : Cond.codeWith yL_hydrant cL_hydrant 5 (some .int) [(0, 10, 13, 13), (0, 10, 17, 15)] ∈ W0 := W0_in (List.mem_of_getElem? (i := 550) (by decide +kernel)) (by decide +kernel)
set_option maxHeartbeats 4000000 in
set_option maxRecDepth 100000 in
theorem c_L_hydrant (l : Launch) (D : va_G) (T : TI) (hl : l.stackTraces = false) {xa : Nat} {wb : va_W} {mm past : Nat → Int32} {kp : Nat} {f : Nat → Int32} {n K : Nat} (hI : XINV T xa wb mm past kp f n K) (hK : K ≤ 490000) (o : Nat) (g : Nat → Int64) (zn : Int32) (p : Int32) : WI l yL_hydrant cL_hydrant 5 [(0, 10, 13, 13), (0, 10, 17, 15)] (rmD 8 2 12) D T [.ref xa, .int zn, .int p, .ref o] [oW T o g, wb] 2 12 (β := va_W × (Nat → Int64)) (fun u => [oW T o u.2, u.1]) (WQ T xa K (hydrantP zn p mm past kp) (f) (n)) := by
  intro sz
  refine met_w (Qc := fun A => va_Qi _ (PST D _ A) A) (XC := fun A => XPS D _ _ A) rfl (Nat.le_of_ble_eq_true rfl) ?_
  intro pX eX sX mX bX mtX cX A hAe hC htb hST hA hP0 hD0 hS0 ls0 hl0 TG hTG
  clear hAe
  obtain ⟨hx, hb, hr, hml, hown, hts, hlocks, hin, hK2⟩ := hC
  have hown : sX.vm.findClass RL = some mX.cls := hown
  have htb : cX.exceptionTable.toList = [⟨0, 10, 13, 13⟩, ⟨0, 10, 17, 15⟩] := htb
  have hl0 : lv_has ls0 5 [(0, .ref xa), (1, .int zn), (2, .int p), (3, .ref o)] := hl0
  refine lv_aload_n hx hb dL_hydrant_0 rfl (lv_at hl0 3 rfl) ?_
  refine lv_iconst (v := nI 0) hx hb dL_hydrant_1 (by decide) ?_
  refine lv_aload_n hx hb dL_hydrant_2 rfl (lv_at hl0 0 rfl) ?_
  refine lv_iload_n hx hb dL_hydrant_3 rfl (lv_at hl0 1 rfl) ?_
  refine lv_iload_n hx hb dL_hydrant_4 rfl (lv_at hl0 2 rfl) ?_
  have hPc : va_P D vwCl (fl [wb]) _ := flP_sub hP0 [1] rfl
  have hDc : va_D A (fl [wb]) := flD_sub hD0 [1] (by decide) rfl
  obtain ⟨fs, hfs⟩ := hI.recv
  refine clx_i (br := [oW T o g]) (vx_runV (As := [.int zn, .int p]) (rest := [.int (nI 0), .ref o]) ⟨hx, hb, hml, hown, hts⟩ (d_X5_hydrant l D T hl hI hK zn p _) (mkV hts okX5_hydrant kw_523 kw_524 kw_525 ⟨rfl, rfl, Nat.le_of_ble_eq_true rfl, Nat.le_of_ble_eq_true rfl⟩) (pv_x hK2 hST hS0 hPc hDc (vA_c (br := [oW T o g]) hP0 hD0 hS0 hA (isR := [0]) (isC := [1]) rfl (by decide)) hfs (q := (RX5, TX5, 5)) rfl rfl) rfl rfl hl0.1 rfl (lv_room (Nat.le_of_ble_eq_true rfl)) dL_hydrant_5 ⟨Nat.le_of_ble_eq_true rfl, Nat.le_of_ble_eq_true rfl⟩) hP0 hD0 hS0 hA [0] [1] rfl (by decide) (fun E ce q9 w2 Hx lx hqx hPx hDx hSx h1 h2 h3 => ?_) (fun r w2 H1 locs1 hq hP1 hD1 hS1 => ?_)
  · have hPx : va_P D vwCl (fl [oW T o g, w2]) Hx := hPx
    have hDx : va_D A (fl [oW T o g, w2]) := hDx
    obtain ⟨hE, hI2⟩ := hqx
    rcases hE with ⟨rfl, e1⟩ | ⟨rfl, e2⟩
    · skip
      refine vx_catch (own := RL) (name := XIO) (E := XIO) hown [] ⟨0, 10, 13, 13⟩ [⟨0, 10, 17, 15⟩] htb (fun z hz => absurd hz List.not_mem_nil) (by decide) (by decide) (hts _ kw_491) (va_tabs rfl rfl hK2.2.2.2.2.1.1) h1 h2 h3 ?_
      refine lv_astore (pc := 13) (lv' := [(4, .ref q9), (0, .ref xa), (1, .int zn), (2, .int p), (3, .ref o)]) hx hb dL_hydrant_13 hl0 (by decide) rfl (fun ls2 hl2 => ?_)
      refine lv_iconst (v := nI 1) hx hb dL_hydrant_15 (by decide) ?_
      exact retx_i hTG (Nat.le_of_ble_eq_true rfl) (Nat.le_of_ble_eq_true rfl) hx hb hr hlocks (w2, g) hPx hDx hSx [0, 1] rfl (by decide) dL_hydrant_16 (⟨e1.symm, fun q => absurd q (by decide), hI2⟩)
    · skip
      refine vx_catch (own := RL) (name := XIA) (E := XIA) hown [⟨0, 10, 13, 13⟩] ⟨0, 10, 17, 15⟩ [] htb (fun z hz => by rw [List.mem_singleton] at hz; subst hz; exact Or.inr ⟨by decide, XIO, hts _ kw_491, hK2.2.2.2.2.2.1.1⟩) (by decide) (by decide) (hts _ kw_492) (va_tabs rfl rfl hK2.2.2.2.2.1.2.1) h1 h2 h3 ?_
      refine lv_astore (pc := 17) (lv' := [(4, .ref q9), (0, .ref xa), (1, .int zn), (2, .int p), (3, .ref o)]) hx hb dL_hydrant_17 hl0 (by decide) rfl (fun ls2 hl2 => ?_)
      refine lv_iconst (v := nI 2) hx hb dL_hydrant_19 (by decide) ?_
      exact retx_i hTG (Nat.le_of_ble_eq_true rfl) (Nat.le_of_ble_eq_true rfl) hx hb hr hlocks (w2, g) hPx hDx hSx [0, 1] rfl (by decide) dL_hydrant_20 (⟨e2.symm, fun q => absurd q (by decide), hI2⟩)
  · have hP1 : va_P D vwCl (fl [oW T o g, w2]) H1 := hP1
    have hD1 : va_D A (fl [oW T o g, w2]) := hD1
    refine lv_i2l hx hb dL_hydrant_8 rfl ?_
    refine r_last hx hb hK2 hP1 hD1 hS1 0 (f := g) rfl 0 (by decide) dL_hydrant_9 (by decide) (fun H2 locs2 (hP2 : va_P D vwCl (fl [oW T o (vp_updL g 0 r.toInt64), w2]) H2) (hD2 : va_D A (fl [oW T o (vp_updL g 0 r.toInt64), w2])) hS2 => ?_)
    refine lv_goto (tgt := 21) hx hb dL_hydrant_10 (by decide) ?_
    refine lv_iconst (v := nI 0) hx hb dL_hydrant_21 (by decide) ?_
    exact retx_i hTG (Nat.le_of_ble_eq_true rfl) (Nat.le_of_ble_eq_true rfl) hx hb hr hlocks (w2, vp_updL g 0 r.toInt64) hP2 hD2 hS2 [0, 1] rfl (by decide) dL_hydrant_22 (⟨hq.2.1.symm, fun _ => (updL_0 g _).trans (congrArg Int32.toInt64 hq.1), hq.2.2⟩)
theorem kcw_send : Cond.codeWith yL_send cL_send 5 (some .int) [(0, 10, 13, 13), (0, 10, 17, 30)] ∈ W0 := W0_in (List.mem_of_getElem? (i := 557) (by decide +kernel)) (by decide +kernel)
set_option maxHeartbeats 4000000 in
set_option maxRecDepth 100000 in
theorem c_L_send (l : Launch) (D : va_G) (T : TI) (hl : l.stackTraces = false) {xa : Nat} {wb : va_W} {mm past : Nat → Int32} {kp : Nat} {f : Nat → Int32} {n K : Nat} (hI : XINV T xa wb mm past kp f n K) (hK : K ≤ 490000) (o : Nat) (g : Nat → Int64) (cr : Int32) (s0 : Int32) : WI l yL_send cL_send 5 [(0, 10, 13, 13), (0, 10, 17, 30)] (rmD 8 3 18) D T [.ref xa, .int cr, .int s0, .ref o] [oW T o g, wb] 3 18 (β := va_W × (Nat → Int64)) (fun u => [oW T o u.2, u.1]) (WQ T xa K (sendP cr s0 mm past kp) (f) (n)) := by
  intro sz
  refine met_w (Qc := fun A => va_Qi _ (PST D _ A) A) (XC := fun A => XPS D _ _ A) rfl (Nat.le_of_ble_eq_true rfl) ?_
  intro pX eX sX mX bX mtX cX A hAe hC htb hST hA hP0 hD0 hS0 ls0 hl0 TG hTG
  clear hAe
  obtain ⟨hx, hb, hr, hml, hown, hts, hlocks, hin, hK2⟩ := hC
  have hown : sX.vm.findClass RL = some mX.cls := hown
  have htb : cX.exceptionTable.toList = [⟨0, 10, 13, 13⟩, ⟨0, 10, 17, 30⟩] := htb
  have hl0 : lv_has ls0 5 [(0, .ref xa), (1, .int cr), (2, .int s0), (3, .ref o)] := hl0
  refine lv_aload_n hx hb dL_send_0 rfl (lv_at hl0 3 rfl) ?_
  refine lv_iconst (v := nI 0) hx hb dL_send_1 (by decide) ?_
  refine lv_aload_n hx hb dL_send_2 rfl (lv_at hl0 0 rfl) ?_
  refine lv_iload_n hx hb dL_send_3 rfl (lv_at hl0 1 rfl) ?_
  refine lv_iload_n hx hb dL_send_4 rfl (lv_at hl0 2 rfl) ?_
  have hPc : va_P D vwCl (fl [wb]) _ := flP_sub hP0 [1] rfl
  have hDc : va_D A (fl [wb]) := flD_sub hD0 [1] (by decide) rfl
  obtain ⟨fs, hfs⟩ := hI.recv
  refine clx_i (br := [oW T o g]) (vx_runV (As := [.int cr, .int s0]) (rest := [.int (nI 0), .ref o]) ⟨hx, hb, hml, hown, hts⟩ (d_X5_send l D T hl hI hK cr s0 _) (mkV hts okX5_send kw_531 kw_532 kw_533 ⟨rfl, rfl, Nat.le_of_ble_eq_true rfl, Nat.le_of_ble_eq_true rfl⟩) (pv_x hK2 hST hS0 hPc hDc (vA_c (br := [oW T o g]) hP0 hD0 hS0 hA (isR := [0]) (isC := [1]) rfl (by decide)) hfs (q := (RX5, TX5, 5)) rfl rfl) rfl rfl hl0.1 rfl (lv_room (Nat.le_of_ble_eq_true rfl)) dL_send_5 ⟨Nat.le_of_ble_eq_true rfl, Nat.le_of_ble_eq_true rfl⟩) hP0 hD0 hS0 hA [0] [1] rfl (by decide) (fun E ce q9 w2 Hx lx hqx hPx hDx hSx h1 h2 h3 => ?_) (fun r w2 H1 locs1 hq hP1 hD1 hS1 => ?_)
  · have hPx : va_P D vwCl (fl [oW T o g, w2]) Hx := hPx
    have hDx : va_D A (fl [oW T o g, w2]) := hDx
    obtain ⟨hE, hI2⟩ := hqx
    rcases hE with ⟨rfl, e1⟩ | ⟨rfl, e2⟩
    · skip
      refine vx_catch (own := RL) (name := XIO) (E := XIO) hown [] ⟨0, 10, 13, 13⟩ [⟨0, 10, 17, 30⟩] htb (fun z hz => absurd hz List.not_mem_nil) (by decide) (by decide) (hts _ kw_491) (va_tabs rfl rfl hK2.2.2.2.2.1.1) h1 h2 h3 ?_
      refine lv_astore (pc := 13) (lv' := [(4, .ref q9), (0, .ref xa), (1, .int cr), (2, .int s0), (3, .ref o)]) hx hb dL_send_13 hl0 (by decide) rfl (fun ls2 hl2 => ?_)
      refine lv_iconst (v := nI 1) hx hb dL_send_15 (by decide) ?_
      exact retx_i hTG (Nat.le_of_ble_eq_true rfl) (Nat.le_of_ble_eq_true rfl) hx hb hr hlocks (w2, g) hPx hDx hSx [0, 1] rfl (by decide) dL_send_16 (⟨e1.symm, fun q => absurd q (by decide), hI2⟩)
    · skip
      refine vx_catch (own := RL) (name := XIS) (E := XIS) hown [⟨0, 10, 13, 13⟩] ⟨0, 10, 17, 30⟩ [] htb (fun z hz => by rw [List.mem_singleton] at hz; subst hz; exact Or.inr ⟨by decide, XIO, hts _ kw_491, hK2.2.2.2.2.2.1.2.1⟩) (by decide) (by decide) (hts _ kw_530) (va_tabs rfl rfl hK2.2.2.2.2.1.2.2) h1 h2 h3 ?_
      refine lv_astore (pc := 17) (lv' := [(4, .ref q9), (0, .ref xa), (1, .int cr), (2, .int s0), (3, .ref o)]) hx hb dL_send_17 hl0 (by decide) rfl (fun ls2 hl2 => ?_)
      refine lv_iconst (v := nI 2) hx hb dL_send_19 (by decide) ?_
      exact retx_i hTG (Nat.le_of_ble_eq_true rfl) (Nat.le_of_ble_eq_true rfl) hx hb hr hlocks (w2, g) hPx hDx hSx [0, 1] rfl (by decide) dL_send_20 (⟨e2.symm, fun q => absurd q (by decide), hI2⟩)
  · have hP1 : va_P D vwCl (fl [oW T o g, w2]) H1 := hP1
    have hD1 : va_D A (fl [oW T o g, w2]) := hD1
    refine lv_i2l hx hb dL_send_8 rfl ?_
    refine r_last hx hb hK2 hP1 hD1 hS1 0 (f := g) rfl 0 (by decide) dL_send_9 (by decide) (fun H2 locs2 (hP2 : va_P D vwCl (fl [oW T o (vp_updL g 0 r.toInt64), w2]) H2) (hD2 : va_D A (fl [oW T o (vp_updL g 0 r.toInt64), w2])) hS2 => ?_)
    refine lv_goto (tgt := 21) hx hb dL_send_10 (by decide) ?_
    refine lv_iconst (v := nI 0) hx hb dL_send_21 (by decide) ?_
    exact retx_i hTG (Nat.le_of_ble_eq_true rfl) (Nat.le_of_ble_eq_true rfl) hx hb hr hlocks (w2, vp_updL g 0 r.toInt64) hP2 hD2 hS2 [0, 1] rfl (by decide) dL_send_22 (⟨hq.2.1.symm, fun _ => (updL_0 g _).trans (congrArg Int32.toInt64 hq.1), hq.2.2⟩)
theorem kcw_skip : Cond.codeWith yL_skip cL_skip 4 (some .int) [(0, 9, 12, 13)] ∈ W0 := W0_in (List.mem_of_getElem? (i := 586) (by decide +kernel)) (by decide +kernel)
set_option maxHeartbeats 4000000 in
set_option maxRecDepth 100000 in
theorem c_L_skip (l : Launch) (D : va_G) (T : TI) (hl : l.stackTraces = false) {xa : Nat} {wb : va_W} {mm past : Nat → Int32} {kp : Nat} {f : Nat → Int32} {n K : Nat} (hI : XINV T xa wb mm past kp f n K) (hK : K ≤ 490000) (o : Nat) (g : Nat → Int64) (cr : Int32) : WI l yL_skip cL_skip 4 [(0, 9, 12, 13)] (rmD 8 2 12) D T [.ref xa, .int cr, .ref o] [oW T o g, wb] 2 12 (β := va_W × (Nat → Int64)) (fun u => [oW T o u.2, u.1]) (WQ T xa K (skipP cr mm past kp) (f) (n)) := by
  intro sz
  refine met_w (Qc := fun A => va_Qi _ (PST D _ A) A) (XC := fun A => XPS D _ _ A) rfl (Nat.le_of_ble_eq_true rfl) ?_
  intro pX eX sX mX bX mtX cX A hAe hC htb hST hA hP0 hD0 hS0 ls0 hl0 TG hTG
  clear hAe
  obtain ⟨hx, hb, hr, hml, hown, hts, hlocks, hin, hK2⟩ := hC
  have hown : sX.vm.findClass RL = some mX.cls := hown
  have htb : cX.exceptionTable.toList = [⟨0, 9, 12, 13⟩] := htb
  have hl0 : lv_has ls0 4 [(0, .ref xa), (1, .int cr), (2, .ref o)] := hl0
  refine lv_aload_n hx hb dL_skip_0 rfl (lv_at hl0 2 rfl) ?_
  refine lv_iconst (v := nI 0) hx hb dL_skip_1 (by decide) ?_
  refine lv_aload_n hx hb dL_skip_2 rfl (lv_at hl0 0 rfl) ?_
  refine lv_iload_n hx hb dL_skip_3 rfl (lv_at hl0 1 rfl) ?_
  have hPc : va_P D vwCl (fl [wb]) _ := flP_sub hP0 [1] rfl
  have hDc : va_D A (fl [wb]) := flD_sub hD0 [1] (by decide) rfl
  obtain ⟨fs, hfs⟩ := hI.recv
  refine clx_i (br := [oW T o g]) (vx_runV (As := [.int cr]) (rest := [.int (nI 0), .ref o]) ⟨hx, hb, hml, hown, hts⟩ (d_X5_skip l D T hl hI hK cr _) (mkV hts okX5_skip kw_559 kw_560 kw_561 ⟨rfl, rfl, Nat.le_of_ble_eq_true rfl, Nat.le_of_ble_eq_true rfl⟩) (pv_x hK2 hST hS0 hPc hDc (vA_c (br := [oW T o g]) hP0 hD0 hS0 hA (isR := [0]) (isC := [1]) rfl (by decide)) hfs (q := (RX5, TX5, 5)) rfl rfl) rfl rfl hl0.1 rfl (lv_room (Nat.le_of_ble_eq_true rfl)) dL_skip_4 ⟨Nat.le_of_ble_eq_true rfl, Nat.le_of_ble_eq_true rfl⟩) hP0 hD0 hS0 hA [0] [1] rfl (by decide) (fun E ce q9 w2 Hx lx hqx hPx hDx hSx h1 h2 h3 => ?_) (fun r w2 H1 locs1 hq hP1 hD1 hS1 => ?_)
  · have hPx : va_P D vwCl (fl [oW T o g, w2]) Hx := hPx
    have hDx : va_D A (fl [oW T o g, w2]) := hDx
    obtain ⟨hE, hI2⟩ := hqx
    obtain ⟨rfl, e1⟩ := hE
    refine vx_catch (own := RL) (name := XIO) (E := XIO) hown [] ⟨0, 9, 12, 13⟩ [] htb (fun z hz => absurd hz List.not_mem_nil) (by decide) (by decide) (hts _ kw_491) (va_tabs rfl rfl hK2.2.2.2.2.1.1) h1 h2 h3 ?_
    refine lv_astore_n (pc := 12) (lv' := [(3, .ref q9), (0, .ref xa), (1, .int cr), (2, .ref o)]) hx hb dL_skip_12 rfl hl0 (by decide) rfl (fun ls2 hl2 => ?_)
    refine lv_iconst (v := nI 1) hx hb dL_skip_13 (by decide) ?_
    exact retx_i hTG (Nat.le_of_ble_eq_true rfl) (Nat.le_of_ble_eq_true rfl) hx hb hr hlocks (w2, g) hPx hDx hSx [0, 1] rfl (by decide) dL_skip_14 (⟨e1.symm, fun q => absurd q (by decide), hI2⟩)
  · have hP1 : va_P D vwCl (fl [oW T o g, w2]) H1 := hP1
    have hD1 : va_D A (fl [oW T o g, w2]) := hD1
    refine lv_i2l hx hb dL_skip_7 rfl ?_
    refine r_last hx hb hK2 hP1 hD1 hS1 0 (f := g) rfl 0 (by decide) dL_skip_8 (by decide) (fun H2 locs2 (hP2 : va_P D vwCl (fl [oW T o (vp_updL g 0 r.toInt64), w2]) H2) (hD2 : va_D A (fl [oW T o (vp_updL g 0 r.toInt64), w2])) hS2 => ?_)
    refine lv_goto (tgt := 15) hx hb dL_skip_9 (by decide) ?_
    refine lv_iconst (v := nI 0) hx hb dL_skip_15 (by decide) ?_
    exact retx_i hTG (Nat.le_of_ble_eq_true rfl) (Nat.le_of_ble_eq_true rfl) hx hb hr hlocks (w2, vp_updL g 0 r.toInt64) hP2 hD2 hS2 [0, 1] rfl (by decide) dL_skip_16 (⟨hq.2.1.symm, fun _ => (updL_0 g _).trans (congrArg Int32.toInt64 hq.1), hq.2.2⟩)
theorem kcw_set : Cond.codeWith yL_set cL_set 5 (some .int) [(0, 10, 13, 13), (0, 10, 17, 15)] ∈ W0 := W0_in (List.mem_of_getElem? (i := 594) (by decide +kernel)) (by decide +kernel)
set_option maxHeartbeats 4000000 in
set_option maxRecDepth 100000 in
theorem c_L_set (l : Launch) (D : va_G) (T : TI) (hl : l.stackTraces = false) {xa : Nat} {wb : va_W} {mm past : Nat → Int32} {kp : Nat} {f : Nat → Int32} {n K : Nat} (hI : XINV T xa wb mm past kp f n K) (hK : K ≤ 490000) (o : Nat) (g : Nat → Int64) (zn : Int32) (p : Int32) : WI l yL_set cL_set 5 [(0, 10, 13, 13), (0, 10, 17, 15)] (rmD 8 2 12) D T [.ref xa, .int zn, .int p, .ref o] [oW T o g, wb] 2 12 (β := va_W × (Nat → Int64)) (fun u => [oW T o u.2, u.1]) (WQ T xa K (setP zn p mm past kp) (f) (n)) := by
  intro sz
  refine met_w (Qc := fun A => va_Qi _ (PST D _ A) A) (XC := fun A => XPS D _ _ A) rfl (Nat.le_of_ble_eq_true rfl) ?_
  intro pX eX sX mX bX mtX cX A hAe hC htb hST hA hP0 hD0 hS0 ls0 hl0 TG hTG
  clear hAe
  obtain ⟨hx, hb, hr, hml, hown, hts, hlocks, hin, hK2⟩ := hC
  have hown : sX.vm.findClass RL = some mX.cls := hown
  have htb : cX.exceptionTable.toList = [⟨0, 10, 13, 13⟩, ⟨0, 10, 17, 15⟩] := htb
  have hl0 : lv_has ls0 5 [(0, .ref xa), (1, .int zn), (2, .int p), (3, .ref o)] := hl0
  refine lv_aload_n hx hb dL_set_0 rfl (lv_at hl0 3 rfl) ?_
  refine lv_iconst (v := nI 0) hx hb dL_set_1 (by decide) ?_
  refine lv_aload_n hx hb dL_set_2 rfl (lv_at hl0 0 rfl) ?_
  refine lv_iload_n hx hb dL_set_3 rfl (lv_at hl0 1 rfl) ?_
  refine lv_iload_n hx hb dL_set_4 rfl (lv_at hl0 2 rfl) ?_
  have hPc : va_P D vwCl (fl [wb]) _ := flP_sub hP0 [1] rfl
  have hDc : va_D A (fl [wb]) := flD_sub hD0 [1] (by decide) rfl
  obtain ⟨fs, hfs⟩ := hI.recv
  refine clx_i (br := [oW T o g]) (vx_runV (As := [.int zn, .int p]) (rest := [.int (nI 0), .ref o]) ⟨hx, hb, hml, hown, hts⟩ (d_X5_set l D T hl hI hK zn p _) (mkV hts okX5_set kw_567 kw_568 kw_569 ⟨rfl, rfl, Nat.le_of_ble_eq_true rfl, Nat.le_of_ble_eq_true rfl⟩) (pv_x hK2 hST hS0 hPc hDc (vA_c (br := [oW T o g]) hP0 hD0 hS0 hA (isR := [0]) (isC := [1]) rfl (by decide)) hfs (q := (RX5, TX5, 5)) rfl rfl) rfl rfl hl0.1 rfl (lv_room (Nat.le_of_ble_eq_true rfl)) dL_set_5 ⟨Nat.le_of_ble_eq_true rfl, Nat.le_of_ble_eq_true rfl⟩) hP0 hD0 hS0 hA [0] [1] rfl (by decide) (fun E ce q9 w2 Hx lx hqx hPx hDx hSx h1 h2 h3 => ?_) (fun r w2 H1 locs1 hq hP1 hD1 hS1 => ?_)
  · have hPx : va_P D vwCl (fl [oW T o g, w2]) Hx := hPx
    have hDx : va_D A (fl [oW T o g, w2]) := hDx
    obtain ⟨hE, hI2⟩ := hqx
    rcases hE with ⟨rfl, e1⟩ | ⟨rfl, e2⟩
    · skip
      refine vx_catch (own := RL) (name := XIO) (E := XIO) hown [] ⟨0, 10, 13, 13⟩ [⟨0, 10, 17, 15⟩] htb (fun z hz => absurd hz List.not_mem_nil) (by decide) (by decide) (hts _ kw_491) (va_tabs rfl rfl hK2.2.2.2.2.1.1) h1 h2 h3 ?_
      refine lv_astore (pc := 13) (lv' := [(4, .ref q9), (0, .ref xa), (1, .int zn), (2, .int p), (3, .ref o)]) hx hb dL_set_13 hl0 (by decide) rfl (fun ls2 hl2 => ?_)
      refine lv_iconst (v := nI 1) hx hb dL_set_15 (by decide) ?_
      exact retx_i hTG (Nat.le_of_ble_eq_true rfl) (Nat.le_of_ble_eq_true rfl) hx hb hr hlocks (w2, g) hPx hDx hSx [0, 1] rfl (by decide) dL_set_16 (⟨e1.symm, fun q => absurd q (by decide), hI2⟩)
    · skip
      refine vx_catch (own := RL) (name := XIA) (E := XIA) hown [⟨0, 10, 13, 13⟩] ⟨0, 10, 17, 15⟩ [] htb (fun z hz => by rw [List.mem_singleton] at hz; subst hz; exact Or.inr ⟨by decide, XIO, hts _ kw_491, hK2.2.2.2.2.2.1.1⟩) (by decide) (by decide) (hts _ kw_492) (va_tabs rfl rfl hK2.2.2.2.2.1.2.1) h1 h2 h3 ?_
      refine lv_astore (pc := 17) (lv' := [(4, .ref q9), (0, .ref xa), (1, .int zn), (2, .int p), (3, .ref o)]) hx hb dL_set_17 hl0 (by decide) rfl (fun ls2 hl2 => ?_)
      refine lv_iconst (v := nI 2) hx hb dL_set_19 (by decide) ?_
      exact retx_i hTG (Nat.le_of_ble_eq_true rfl) (Nat.le_of_ble_eq_true rfl) hx hb hr hlocks (w2, g) hPx hDx hSx [0, 1] rfl (by decide) dL_set_20 (⟨e2.symm, fun q => absurd q (by decide), hI2⟩)
  · have hP1 : va_P D vwCl (fl [oW T o g, w2]) H1 := hP1
    have hD1 : va_D A (fl [oW T o g, w2]) := hD1
    refine lv_i2l hx hb dL_set_8 rfl ?_
    refine r_last hx hb hK2 hP1 hD1 hS1 0 (f := g) rfl 0 (by decide) dL_set_9 (by decide) (fun H2 locs2 (hP2 : va_P D vwCl (fl [oW T o (vp_updL g 0 r.toInt64), w2]) H2) (hD2 : va_D A (fl [oW T o (vp_updL g 0 r.toInt64), w2])) hS2 => ?_)
    refine lv_goto (tgt := 21) hx hb dL_set_10 (by decide) ?_
    refine lv_iconst (v := nI 0) hx hb dL_set_21 (by decide) ?_
    exact retx_i hTG (Nat.le_of_ble_eq_true rfl) (Nat.le_of_ble_eq_true rfl) hx hb hr hlocks (w2, vp_updL g 0 r.toInt64) hP2 hD2 hS2 [0, 1] rfl (by decide) dL_set_22 (⟨hq.2.1.symm, fun _ => (updL_0 g _).trans (congrArg Int32.toInt64 hq.1), hq.2.2⟩)
theorem kcw_pass : Cond.codeWith yL_pass cL_pass 4 (some .int) [(0, 9, 12, 15)] ∈ W0 := W0_in (List.mem_of_getElem? (i := 605) (by decide +kernel)) (by decide +kernel)
set_option maxHeartbeats 4000000 in
set_option maxRecDepth 100000 in
theorem c_L_pass (l : Launch) (D : va_G) (T : TI) (hl : l.stackTraces = false) {xa : Nat} {wb : va_W} {mm past : Nat → Int32} {kp : Nat} {f : Nat → Int32} {n K : Nat} (hI : XINV T xa wb mm past kp f n K) (hK : K ≤ 490000) (o : Nat) (g : Nat → Int64) (h : Int32) : WI l yL_pass cL_pass 4 [(0, 9, 12, 15)] (rmD 9 2 12) D T [.ref xa, .int h, .ref o] [oW T o g, wb] 2 12 (β := va_W × (Nat → Int64)) (fun u => [oW T o u.2, u.1]) (WQ T xa K (passP h mm past kp) (f) (n)) := by
  intro sz
  refine met_w (Qc := fun A => va_Qi _ (PST D _ A) A) (XC := fun A => XPS D _ _ A) rfl (Nat.le_of_ble_eq_true rfl) ?_
  intro pX eX sX mX bX mtX cX A hAe hC htb hST hA hP0 hD0 hS0 ls0 hl0 TG hTG
  clear hAe
  obtain ⟨hx, hb, hr, hml, hown, hts, hlocks, hin, hK2⟩ := hC
  have hown : sX.vm.findClass RL = some mX.cls := hown
  have htb : cX.exceptionTable.toList = [⟨0, 9, 12, 15⟩] := htb
  have hl0 : lv_has ls0 4 [(0, .ref xa), (1, .int h), (2, .ref o)] := hl0
  refine lv_aload_n hx hb dL_pass_0 rfl (lv_at hl0 2 rfl) ?_
  refine lv_iconst (v := nI 0) hx hb dL_pass_1 (by decide) ?_
  refine lv_aload_n hx hb dL_pass_2 rfl (lv_at hl0 0 rfl) ?_
  refine lv_iload_n hx hb dL_pass_3 rfl (lv_at hl0 1 rfl) ?_
  have hPc : va_P D vwCl (fl [wb]) _ := flP_sub hP0 [1] rfl
  have hDc : va_D A (fl [wb]) := flD_sub hD0 [1] (by decide) rfl
  obtain ⟨fs, hfs⟩ := hI.recv
  refine clx_i (br := [oW T o g]) (vx_runV (As := [.int h]) (rest := [.int (nI 0), .ref o]) ⟨hx, hb, hml, hown, hts⟩ (d_X5_pass l D T hl hI hK h _) (mkV hts okX5_pass kw_578 kw_579 kw_580 ⟨rfl, rfl, Nat.le_of_ble_eq_true rfl, Nat.le_of_ble_eq_true rfl⟩) (pv_x hK2 hST hS0 hPc hDc (vA_c (br := [oW T o g]) hP0 hD0 hS0 hA (isR := [0]) (isC := [1]) rfl (by decide)) hfs (q := (RX5, TX5, 5)) rfl rfl) rfl rfl hl0.1 rfl (lv_room (Nat.le_of_ble_eq_true rfl)) dL_pass_4 ⟨Nat.le_of_ble_eq_true rfl, Nat.le_of_ble_eq_true rfl⟩) hP0 hD0 hS0 hA [0] [1] rfl (by decide) (fun E ce q9 w2 Hx lx hqx hPx hDx hSx h1 h2 h3 => ?_) (fun r w2 H1 locs1 hq hP1 hD1 hS1 => ?_)
  · have hPx : va_P D vwCl (fl [oW T o g, w2]) Hx := hPx
    have hDx : va_D A (fl [oW T o g, w2]) := hDx
    obtain ⟨hE, hI2⟩ := hqx
    obtain ⟨rfl, e1⟩ := hE
    refine vx_catch (own := RL) (name := XIA) (E := XIA) hown [] ⟨0, 9, 12, 15⟩ [] htb (fun z hz => absurd hz List.not_mem_nil) (by decide) (by decide) (hts _ kw_492) (va_tabs rfl rfl hK2.2.2.2.2.1.2.1) h1 h2 h3 ?_
    refine lv_astore_n (pc := 12) (lv' := [(3, .ref q9), (0, .ref xa), (1, .int h), (2, .ref o)]) hx hb dL_pass_12 rfl hl0 (by decide) rfl (fun ls2 hl2 => ?_)
    refine lv_iconst (v := nI 1) hx hb dL_pass_13 (by decide) ?_
    exact retx_i hTG (Nat.le_of_ble_eq_true rfl) (Nat.le_of_ble_eq_true rfl) hx hb hr hlocks (w2, g) hPx hDx hSx [0, 1] rfl (by decide) dL_pass_14 (⟨e1.symm, fun q => absurd q (by decide), hI2⟩)
  · have hP1 : va_P D vwCl (fl [oW T o g, w2]) H1 := hP1
    have hD1 : va_D A (fl [oW T o g, w2]) := hD1
    refine lv_i2l hx hb dL_pass_7 rfl ?_
    refine r_last hx hb hK2 hP1 hD1 hS1 0 (f := g) rfl 0 (by decide) dL_pass_8 (by decide) (fun H2 locs2 (hP2 : va_P D vwCl (fl [oW T o (vp_updL g 0 r.toInt64), w2]) H2) (hD2 : va_D A (fl [oW T o (vp_updL g 0 r.toInt64), w2])) hS2 => ?_)
    refine lv_goto (tgt := 15) hx hb dL_pass_9 (by decide) ?_
    refine lv_iconst (v := nI 0) hx hb dL_pass_15 (by decide) ?_
    exact retx_i hTG (Nat.le_of_ble_eq_true rfl) (Nat.le_of_ble_eq_true rfl) hx hb hr hlocks (w2, vp_updL g 0 r.toInt64) hP2 hD2 hS2 [0, 1] rfl (by decide) dL_pass_16 (⟨hq.2.1.symm, fun _ => (updL_0 g _).trans (congrArg Int32.toInt64 hq.1), hq.2.2⟩)
theorem kcw_append : Cond.codeWith yL_append cL_append 4 (some .int) [(0, 9, 12, 15), (0, 9, 15, 30)] ∈ W0 := W0_in (List.mem_of_getElem? (i := 612) (by decide +kernel)) (by decide +kernel)
set_option maxHeartbeats 4000000 in
set_option maxRecDepth 100000 in
theorem c_L_append (l : Launch) (D : va_G) (T : TI) (hl : l.stackTraces = false) {xa : Nat} {wb : va_W} {mm past : Nat → Int32} {kp : Nat} {f : Nat → Int32} {n K : Nat} (hI : XINV T xa wb mm past kp f n K) (hK : K ≤ 490000) (o : Nat) (g : Nat → Int64) (x : Int32) : WI l yL_append cL_append 4 [(0, 9, 12, 15), (0, 9, 15, 30)] (rmD 8 2 12) D T [.ref xa, .int x, .ref o] [oW T o g, wb] 2 12 (β := va_W × (Nat → Int64)) (fun u => [oW T o u.2, u.1]) (WQ T xa K (((appendP x n f).1, (appendP x n f).2.1, mm, past, kp)) ((appendP x n f).2.2.2) ((appendP x n f).2.2.1)) := by
  intro sz
  refine met_w (Qc := fun A => va_Qi _ (PST D _ A) A) (XC := fun A => XPS D _ _ A) rfl (Nat.le_of_ble_eq_true rfl) ?_
  intro pX eX sX mX bX mtX cX A hAe hC htb hST hA hP0 hD0 hS0 ls0 hl0 TG hTG
  clear hAe
  obtain ⟨hx, hb, hr, hml, hown, hts, hlocks, hin, hK2⟩ := hC
  have hown : sX.vm.findClass RL = some mX.cls := hown
  have htb : cX.exceptionTable.toList = [⟨0, 9, 12, 15⟩, ⟨0, 9, 15, 30⟩] := htb
  have hl0 : lv_has ls0 4 [(0, .ref xa), (1, .int x), (2, .ref o)] := hl0
  refine lv_aload_n hx hb dL_append_0 rfl (lv_at hl0 2 rfl) ?_
  refine lv_iconst (v := nI 0) hx hb dL_append_1 (by decide) ?_
  refine lv_aload_n hx hb dL_append_2 rfl (lv_at hl0 0 rfl) ?_
  refine lv_iload_n hx hb dL_append_3 rfl (lv_at hl0 1 rfl) ?_
  have hPc : va_P D vwCl (fl [wb]) _ := flP_sub hP0 [1] rfl
  have hDc : va_D A (fl [wb]) := flD_sub hD0 [1] (by decide) rfl
  obtain ⟨fs, hfs⟩ := hI.recv
  refine clx_i (br := [oW T o g]) (vx_runV (As := [.int x]) (rest := [.int (nI 0), .ref o]) ⟨hx, hb, hml, hown, hts⟩ (d_X5_append l D T hl hI hK x _) (mkV hts okX5_append kw_585 kw_586 kw_587 ⟨rfl, rfl, Nat.le_of_ble_eq_true rfl, Nat.le_of_ble_eq_true rfl⟩) (pv_x hK2 hST hS0 hPc hDc (vA_c (br := [oW T o g]) hP0 hD0 hS0 hA (isR := [0]) (isC := [1]) rfl (by decide)) hfs (q := (RX5, TX5, 5)) rfl rfl) rfl rfl hl0.1 rfl (lv_room (Nat.le_of_ble_eq_true rfl)) dL_append_4 ⟨Nat.le_of_ble_eq_true rfl, Nat.le_of_ble_eq_true rfl⟩) hP0 hD0 hS0 hA [0] [1] rfl (by decide) (fun E ce q9 w2 Hx lx hqx hPx hDx hSx h1 h2 h3 => ?_) (fun r w2 H1 locs1 hq hP1 hD1 hS1 => ?_)
  · have hPx : va_P D vwCl (fl [oW T o g, w2]) Hx := hPx
    have hDx : va_D A (fl [oW T o g, w2]) := hDx
    obtain ⟨hE, hI2⟩ := hqx
    rcases hE with ⟨rfl, e1⟩ | ⟨rfl, e2⟩
    · skip
      refine vx_catch (own := RL) (name := XIA) (E := XIA) hown [] ⟨0, 9, 12, 15⟩ [⟨0, 9, 15, 30⟩] htb (fun z hz => absurd hz List.not_mem_nil) (by decide) (by decide) (hts _ kw_492) (va_tabs rfl rfl hK2.2.2.2.2.1.2.1) h1 h2 h3 ?_
      refine lv_astore_n (pc := 12) (lv' := [(3, .ref q9), (0, .ref xa), (1, .int x), (2, .ref o)]) hx hb dL_append_12 rfl hl0 (by decide) rfl (fun ls2 hl2 => ?_)
      refine lv_iconst (v := nI 1) hx hb dL_append_13 (by decide) ?_
      exact retx_i hTG (Nat.le_of_ble_eq_true rfl) (Nat.le_of_ble_eq_true rfl) hx hb hr hlocks (w2, g) hPx hDx hSx [0, 1] rfl (by decide) dL_append_14 (⟨e1.symm, fun q => absurd q (by decide), hI2⟩)
    · skip
      refine vx_catch (own := RL) (name := XIS) (E := XIS) hown [⟨0, 9, 12, 15⟩] ⟨0, 9, 15, 30⟩ [] htb (fun z hz => by rw [List.mem_singleton] at hz; subst hz; exact Or.inr ⟨by decide, XIA, hts _ kw_492, hK2.2.2.2.2.2.1.2.2⟩) (by decide) (by decide) (hts _ kw_530) (va_tabs rfl rfl hK2.2.2.2.2.1.2.2) h1 h2 h3 ?_
      refine lv_astore_n (pc := 15) (lv' := [(3, .ref q9), (0, .ref xa), (1, .int x), (2, .ref o)]) hx hb dL_append_15 rfl hl0 (by decide) rfl (fun ls2 hl2 => ?_)
      refine lv_iconst (v := nI 2) hx hb dL_append_16 (by decide) ?_
      exact retx_i hTG (Nat.le_of_ble_eq_true rfl) (Nat.le_of_ble_eq_true rfl) hx hb hr hlocks (w2, g) hPx hDx hSx [0, 1] rfl (by decide) dL_append_17 (⟨e2.symm, fun q => absurd q (by decide), hI2⟩)
  · have hP1 : va_P D vwCl (fl [oW T o g, w2]) H1 := hP1
    have hD1 : va_D A (fl [oW T o g, w2]) := hD1
    refine lv_i2l hx hb dL_append_7 rfl ?_
    refine r_last hx hb hK2 hP1 hD1 hS1 0 (f := g) rfl 0 (by decide) dL_append_8 (by decide) (fun H2 locs2 (hP2 : va_P D vwCl (fl [oW T o (vp_updL g 0 r.toInt64), w2]) H2) (hD2 : va_D A (fl [oW T o (vp_updL g 0 r.toInt64), w2])) hS2 => ?_)
    refine lv_goto (tgt := 18) hx hb dL_append_9 (by decide) ?_
    refine lv_iconst (v := nI 0) hx hb dL_append_18 (by decide) ?_
    exact retx_i hTG (Nat.le_of_ble_eq_true rfl) (Nat.le_of_ble_eq_true rfl) hx hb hr hlocks (w2, vp_updL g 0 r.toInt64) hP2 hD2 hS2 [0, 1] rfl (by decide) dL_append_19 (⟨hq.2.1.symm, fun _ => (updL_0 g _).trans (congrArg Int32.toInt64 hq.1), hq.2.2⟩)
theorem kcw_rounds : Cond.codeWith yL_rounds cL_rounds 3 (some .int) [(0, 8, 11, 15)] ∈ W0 := W0_in (List.mem_of_getElem? (i := 628) (by decide +kernel)) (by decide +kernel)
set_option maxHeartbeats 4000000 in
set_option maxRecDepth 100000 in
theorem c_L_rounds (l : Launch) (D : va_G) (T : TI) (hl : l.stackTraces = false) {xa : Nat} {wb : va_W} {mm past : Nat → Int32} {kp : Nat} {f : Nat → Int32} {n K : Nat} (hI : XINV T xa wb mm past kp f n K) (hK : K ≤ 490000) (o : Nat) (g : Nat → Int64)  : WI l yL_rounds cL_rounds 3 [(0, 8, 11, 15)] (rmD 9 2 12) D T [.ref xa, .ref o] [oW T o g, wb] 2 12 (β := va_W × (Nat → Int64)) (fun u => [oW T o u.2, u.1]) (WQr T xa K mm past kp f n) := by
  intro sz
  refine met_w (Qc := fun A => va_Qi _ (PST D _ A) A) (XC := fun A => XPS D _ _ A) rfl (Nat.le_of_ble_eq_true rfl) ?_
  intro pX eX sX mX bX mtX cX A hAe hC htb hST hA hP0 hD0 hS0 ls0 hl0 TG hTG
  clear hAe
  obtain ⟨hx, hb, hr, hml, hown, hts, hlocks, hin, hK2⟩ := hC
  have hown : sX.vm.findClass RL = some mX.cls := hown
  have htb : cX.exceptionTable.toList = [⟨0, 8, 11, 15⟩] := htb
  have hl0 : lv_has ls0 3 [(0, .ref xa), (1, .ref o)] := hl0
  refine lv_aload_n hx hb dL_rounds_0 rfl (lv_at hl0 1 rfl) ?_
  refine lv_iconst (v := nI 0) hx hb dL_rounds_1 (by decide) ?_
  refine lv_aload_n hx hb dL_rounds_2 rfl (lv_at hl0 0 rfl) ?_
  have hPc : va_P D vwCl (fl [wb]) _ := flP_sub hP0 [1] rfl
  have hDc : va_D A (fl [wb]) := flD_sub hD0 [1] (by decide) rfl
  obtain ⟨fs, hfs⟩ := hI.recv
  refine clx_i (br := [oW T o g]) (vx_runV (As := []) (rest := [.int (nI 0), .ref o]) ⟨hx, hb, hml, hown, hts⟩ (d_X5_rounds l D T hl hI hK  _) (mkV hts okX5_rounds kw_601 kw_602 kw_603 ⟨rfl, rfl, Nat.le_of_ble_eq_true rfl, Nat.le_of_ble_eq_true rfl⟩) (pv_x hK2 hST hS0 hPc hDc (vA_c (br := [oW T o g]) hP0 hD0 hS0 hA (isR := [0]) (isC := [1]) rfl (by decide)) hfs (q := (RX5, TX5, 5)) rfl rfl) rfl rfl hl0.1 rfl (lv_room (Nat.le_of_ble_eq_true rfl)) dL_rounds_3 ⟨Nat.le_of_ble_eq_true rfl, Nat.le_of_ble_eq_true rfl⟩) hP0 hD0 hS0 hA [0] [1] rfl (by decide) (fun E ce q9 w2 Hx lx hqx hPx hDx hSx h1 h2 h3 => ?_) (fun r w2 H1 locs1 hq hP1 hD1 hS1 => ?_)
  · have hPx : va_P D vwCl (fl [oW T o g, w2]) Hx := hPx
    have hDx : va_D A (fl [oW T o g, w2]) := hDx
    obtain ⟨hE, hI2⟩ := hqx
    obtain ⟨rfl, e1⟩ := hE
    refine vx_catch (own := RL) (name := XIA) (E := XIA) hown [] ⟨0, 8, 11, 15⟩ [] htb (fun z hz => absurd hz List.not_mem_nil) (by decide) (by decide) (hts _ kw_492) (va_tabs rfl rfl hK2.2.2.2.2.1.2.1) h1 h2 h3 ?_
    refine lv_astore_n (pc := 11) (lv' := [(2, .ref q9), (0, .ref xa), (1, .ref o)]) hx hb dL_rounds_11 rfl hl0 (by decide) rfl (fun ls2 hl2 => ?_)
    refine lv_iconst (v := nI 1) hx hb dL_rounds_12 (by decide) ?_
    exact retx_i hTG (Nat.le_of_ble_eq_true rfl) (Nat.le_of_ble_eq_true rfl) hx hb hr hlocks (w2, g) hPx hDx hSx [0, 1] rfl (by decide) dL_rounds_13 (Or.inr ⟨rfl, e1, hI2⟩)
  · have hP1 : va_P D vwCl (fl [oW T o g, w2]) H1 := hP1
    have hD1 : va_D A (fl [oW T o g, w2]) := hD1
    refine lv_i2l hx hb dL_rounds_6 rfl ?_
    refine r_last hx hb hK2 hP1 hD1 hS1 0 (f := g) rfl 0 (by decide) dL_rounds_7 (by decide) (fun H2 locs2 (hP2 : va_P D vwCl (fl [oW T o (vp_updL g 0 r.toInt64), w2]) H2) (hD2 : va_D A (fl [oW T o (vp_updL g 0 r.toInt64), w2])) hS2 => ?_)
    refine lv_goto (tgt := 14) hx hb dL_rounds_8 (by decide) ?_
    refine lv_iconst (v := nI 0) hx hb dL_rounds_14 (by decide) ?_
    exact retx_i hTG (Nat.le_of_ble_eq_true rfl) (Nat.le_of_ble_eq_true rfl) hx hb hr hlocks (w2, vp_updL g 0 r.toInt64) hP2 hD2 hS2 [0, 1] rfl (by decide) dL_rounds_15 (Or.inl ⟨rfl, r, updL_0 g _, hq⟩)
theorem kcw_undo : Cond.codeWith yL_undo cL_undo 3 (some .int) [(0, 8, 11, 30)] ∈ W0 := W0_in (List.mem_of_getElem? (i := 647) (by decide +kernel)) (by decide +kernel)
set_option maxHeartbeats 4000000 in
set_option maxRecDepth 100000 in
theorem c_L_undo (l : Launch) (D : va_G) (T : TI) (hl : l.stackTraces = false) {xa : Nat} {wb : va_W} {mm past : Nat → Int32} {kp : Nat} {f : Nat → Int32} {n K : Nat} (hI : XINV T xa wb mm past kp f n K) (hK : K ≤ 490000) (o : Nat) (g : Nat → Int64)  : WI l yL_undo cL_undo 3 [(0, 8, 11, 30)] (rmD 8 2 12) D T [.ref xa, .ref o] [oW T o g, wb] 2 12 (β := va_W × (Nat → Int64)) (fun u => [oW T o u.2, u.1]) (WQ T xa K (undoP mm past kp) (f) (n)) := by
  intro sz
  refine met_w (Qc := fun A => va_Qi _ (PST D _ A) A) (XC := fun A => XPS D _ _ A) rfl (Nat.le_of_ble_eq_true rfl) ?_
  intro pX eX sX mX bX mtX cX A hAe hC htb hST hA hP0 hD0 hS0 ls0 hl0 TG hTG
  clear hAe
  obtain ⟨hx, hb, hr, hml, hown, hts, hlocks, hin, hK2⟩ := hC
  have hown : sX.vm.findClass RL = some mX.cls := hown
  have htb : cX.exceptionTable.toList = [⟨0, 8, 11, 30⟩] := htb
  have hl0 : lv_has ls0 3 [(0, .ref xa), (1, .ref o)] := hl0
  refine lv_aload_n hx hb dL_undo_0 rfl (lv_at hl0 1 rfl) ?_
  refine lv_iconst (v := nI 0) hx hb dL_undo_1 (by decide) ?_
  refine lv_aload_n hx hb dL_undo_2 rfl (lv_at hl0 0 rfl) ?_
  have hPc : va_P D vwCl (fl [wb]) _ := flP_sub hP0 [1] rfl
  have hDc : va_D A (fl [wb]) := flD_sub hD0 [1] (by decide) rfl
  obtain ⟨fs, hfs⟩ := hI.recv
  refine clx_i (br := [oW T o g]) (vx_runV (As := []) (rest := [.int (nI 0), .ref o]) ⟨hx, hb, hml, hown, hts⟩ (d_X5_undo l D T hl hI hK  _) (mkV hts okX5_undo kw_620 kw_621 kw_622 ⟨rfl, rfl, Nat.le_of_ble_eq_true rfl, Nat.le_of_ble_eq_true rfl⟩) (pv_x hK2 hST hS0 hPc hDc (vA_c (br := [oW T o g]) hP0 hD0 hS0 hA (isR := [0]) (isC := [1]) rfl (by decide)) hfs (q := (RX5, TX5, 5)) rfl rfl) rfl rfl hl0.1 rfl (lv_room (Nat.le_of_ble_eq_true rfl)) dL_undo_3 ⟨Nat.le_of_ble_eq_true rfl, Nat.le_of_ble_eq_true rfl⟩) hP0 hD0 hS0 hA [0] [1] rfl (by decide) (fun E ce q9 w2 Hx lx hqx hPx hDx hSx h1 h2 h3 => ?_) (fun r w2 H1 locs1 hq hP1 hD1 hS1 => ?_)
  · have hPx : va_P D vwCl (fl [oW T o g, w2]) Hx := hPx
    have hDx : va_D A (fl [oW T o g, w2]) := hDx
    obtain ⟨hE, hI2⟩ := hqx
    obtain ⟨rfl, e1⟩ := hE
    refine vx_catch (own := RL) (name := XIS) (E := XIS) hown [] ⟨0, 8, 11, 30⟩ [] htb (fun z hz => absurd hz List.not_mem_nil) (by decide) (by decide) (hts _ kw_530) (va_tabs rfl rfl hK2.2.2.2.2.1.2.2) h1 h2 h3 ?_
    refine lv_astore_n (pc := 11) (lv' := [(2, .ref q9), (0, .ref xa), (1, .ref o)]) hx hb dL_undo_11 rfl hl0 (by decide) rfl (fun ls2 hl2 => ?_)
    refine lv_iconst (v := nI 1) hx hb dL_undo_12 (by decide) ?_
    exact retx_i hTG (Nat.le_of_ble_eq_true rfl) (Nat.le_of_ble_eq_true rfl) hx hb hr hlocks (w2, g) hPx hDx hSx [0, 1] rfl (by decide) dL_undo_13 (⟨e1.symm, fun q => absurd q (by decide), hI2⟩)
  · have hP1 : va_P D vwCl (fl [oW T o g, w2]) H1 := hP1
    have hD1 : va_D A (fl [oW T o g, w2]) := hD1
    refine lv_i2l hx hb dL_undo_6 rfl ?_
    refine r_last hx hb hK2 hP1 hD1 hS1 0 (f := g) rfl 0 (by decide) dL_undo_7 (by decide) (fun H2 locs2 (hP2 : va_P D vwCl (fl [oW T o (vp_updL g 0 r.toInt64), w2]) H2) (hD2 : va_D A (fl [oW T o (vp_updL g 0 r.toInt64), w2])) hS2 => ?_)
    refine lv_goto (tgt := 14) hx hb dL_undo_8 (by decide) ?_
    refine lv_iconst (v := nI 0) hx hb dL_undo_14 (by decide) ?_
    exact retx_i hTG (Nat.le_of_ble_eq_true rfl) (Nat.le_of_ble_eq_true rfl) hx hb hr hlocks (w2, vp_updL g 0 r.toInt64) hP2 hD2 hS2 [0, 1] rfl (by decide) dL_undo_15 (⟨hq.2.1.symm, fun _ => (updL_0 g _).trans (congrArg Int32.toInt64 hq.1), hq.2.2⟩)
theorem kcw_street : Cond.codeWith yL_street cL_street 5 (some .int) [(0, 10, 13, 13), (0, 10, 17, 15)] ∈ W0 := W0_in (List.mem_of_getElem? (i := 659) (by decide +kernel)) (by decide +kernel)
set_option maxHeartbeats 4000000 in
set_option maxRecDepth 100000 in
theorem c_L_street (l : Launch) (D : va_G) (T : TI) (hl : l.stackTraces = false) {xa : Nat} {wb : va_W} {mm past : Nat → Int32} {kp : Nat} {f : Nat → Int32} {n K : Nat} (hI : XINV T xa wb mm past kp f n K) (hK : K ≤ 490000) (o : Nat) (g : Nat → Int64) (s0 : Int32) (w : Int32) : WI l yL_street cL_street 5 [(0, 10, 13, 13), (0, 10, 17, 15)] (rmD 8 2 12) D T [.ref xa, .int s0, .int w, .ref o] [oW T o g, wb] 2 12 (β := va_W × (Nat → Int64)) (fun u => [oW T o u.2, u.1]) (WQ T xa K (r2 (streetP s0 w mm) mm past kp) (f) (n)) := by
  intro sz
  refine met_w (Qc := fun A => va_Qi _ (PST D _ A) A) (XC := fun A => XPS D _ _ A) rfl (Nat.le_of_ble_eq_true rfl) ?_
  intro pX eX sX mX bX mtX cX A hAe hC htb hST hA hP0 hD0 hS0 ls0 hl0 TG hTG
  clear hAe
  obtain ⟨hx, hb, hr, hml, hown, hts, hlocks, hin, hK2⟩ := hC
  have hown : sX.vm.findClass RL = some mX.cls := hown
  have htb : cX.exceptionTable.toList = [⟨0, 10, 13, 13⟩, ⟨0, 10, 17, 15⟩] := htb
  have hl0 : lv_has ls0 5 [(0, .ref xa), (1, .int s0), (2, .int w), (3, .ref o)] := hl0
  refine lv_aload_n hx hb dL_street_0 rfl (lv_at hl0 3 rfl) ?_
  refine lv_iconst (v := nI 0) hx hb dL_street_1 (by decide) ?_
  refine lv_aload_n hx hb dL_street_2 rfl (lv_at hl0 0 rfl) ?_
  refine lv_iload_n hx hb dL_street_3 rfl (lv_at hl0 1 rfl) ?_
  refine lv_iload_n hx hb dL_street_4 rfl (lv_at hl0 2 rfl) ?_
  have hPc : va_P D vwCl (fl [wb]) _ := flP_sub hP0 [1] rfl
  have hDc : va_D A (fl [wb]) := flD_sub hD0 [1] (by decide) rfl
  obtain ⟨fs, hfs⟩ := hI.recv
  refine clx_i (br := [oW T o g]) (vx_runV (As := [.int s0, .int w]) (rest := [.int (nI 0), .ref o]) ⟨hx, hb, hml, hown, hts⟩ (d_X5_street l D T hl hI hK s0 w _) (mkV hts okX5_street kw_632 kw_432 kw_433 ⟨rfl, rfl, Nat.le_of_ble_eq_true rfl, Nat.le_of_ble_eq_true rfl⟩) (pv_x hK2 hST hS0 hPc hDc (vA_c (br := [oW T o g]) hP0 hD0 hS0 hA (isR := [0]) (isC := [1]) rfl (by decide)) hfs (q := (RX5, TX5, 5)) rfl rfl) rfl rfl hl0.1 rfl (lv_room (Nat.le_of_ble_eq_true rfl)) dL_street_5 ⟨Nat.le_of_ble_eq_true rfl, Nat.le_of_ble_eq_true rfl⟩) hP0 hD0 hS0 hA [0] [1] rfl (by decide) (fun E ce q9 w2 Hx lx hqx hPx hDx hSx h1 h2 h3 => ?_) (fun r w2 H1 locs1 hq hP1 hD1 hS1 => ?_)
  · have hPx : va_P D vwCl (fl [oW T o g, w2]) Hx := hPx
    have hDx : va_D A (fl [oW T o g, w2]) := hDx
    obtain ⟨hE, hI2⟩ := hqx
    rcases hE with ⟨rfl, e1⟩ | ⟨rfl, e2⟩
    · skip
      refine vx_catch (own := RL) (name := XIO) (E := XIO) hown [] ⟨0, 10, 13, 13⟩ [⟨0, 10, 17, 15⟩] htb (fun z hz => absurd hz List.not_mem_nil) (by decide) (by decide) (hts _ kw_491) (va_tabs rfl rfl hK2.2.2.2.2.1.1) h1 h2 h3 ?_
      refine lv_astore (pc := 13) (lv' := [(4, .ref q9), (0, .ref xa), (1, .int s0), (2, .int w), (3, .ref o)]) hx hb dL_street_13 hl0 (by decide) rfl (fun ls2 hl2 => ?_)
      refine lv_iconst (v := nI 1) hx hb dL_street_15 (by decide) ?_
      exact retx_i hTG (Nat.le_of_ble_eq_true rfl) (Nat.le_of_ble_eq_true rfl) hx hb hr hlocks (w2, g) hPx hDx hSx [0, 1] rfl (by decide) dL_street_16 (⟨e1.symm, fun q => absurd q (by decide), hI2⟩)
    · skip
      refine vx_catch (own := RL) (name := XIA) (E := XIA) hown [⟨0, 10, 13, 13⟩] ⟨0, 10, 17, 15⟩ [] htb (fun z hz => by rw [List.mem_singleton] at hz; subst hz; exact Or.inr ⟨by decide, XIO, hts _ kw_491, hK2.2.2.2.2.2.1.1⟩) (by decide) (by decide) (hts _ kw_492) (va_tabs rfl rfl hK2.2.2.2.2.1.2.1) h1 h2 h3 ?_
      refine lv_astore (pc := 17) (lv' := [(4, .ref q9), (0, .ref xa), (1, .int s0), (2, .int w), (3, .ref o)]) hx hb dL_street_17 hl0 (by decide) rfl (fun ls2 hl2 => ?_)
      refine lv_iconst (v := nI 2) hx hb dL_street_19 (by decide) ?_
      exact retx_i hTG (Nat.le_of_ble_eq_true rfl) (Nat.le_of_ble_eq_true rfl) hx hb hr hlocks (w2, g) hPx hDx hSx [0, 1] rfl (by decide) dL_street_20 (⟨e2.symm, fun q => absurd q (by decide), hI2⟩)
  · have hP1 : va_P D vwCl (fl [oW T o g, w2]) H1 := hP1
    have hD1 : va_D A (fl [oW T o g, w2]) := hD1
    refine lv_i2l hx hb dL_street_8 rfl ?_
    refine r_last hx hb hK2 hP1 hD1 hS1 0 (f := g) rfl 0 (by decide) dL_street_9 (by decide) (fun H2 locs2 (hP2 : va_P D vwCl (fl [oW T o (vp_updL g 0 r.toInt64), w2]) H2) (hD2 : va_D A (fl [oW T o (vp_updL g 0 r.toInt64), w2])) hS2 => ?_)
    refine lv_goto (tgt := 21) hx hb dL_street_10 (by decide) ?_
    refine lv_iconst (v := nI 0) hx hb dL_street_21 (by decide) ?_
    exact retx_i hTG (Nat.le_of_ble_eq_true rfl) (Nat.le_of_ble_eq_true rfl) hx hb hr hlocks (w2, vp_updL g 0 r.toInt64) hP2 hD2 hS2 [0, 1] rfl (by decide) dL_street_22 (⟨hq.2.1.symm, fun _ => (updL_0 g _).trans (congrArg Int32.toInt64 hq.1), hq.2.2⟩)
theorem kcw_round : Cond.codeWith yL_round cL_round 5 (some .int) [(0, 10, 13, 13), (0, 10, 17, 15)] ∈ W0 := W0_in (List.mem_of_getElem? (i := 663) (by decide +kernel)) (by decide +kernel)
set_option maxHeartbeats 4000000 in
set_option maxRecDepth 100000 in
theorem c_L_round (l : Launch) (D : va_G) (T : TI) (hl : l.stackTraces = false) {xa : Nat} {wb : va_W} {mm past : Nat → Int32} {kp : Nat} {f : Nat → Int32} {n K : Nat} (hI : XINV T xa wb mm past kp f n K) (hK : K ≤ 490000) (o : Nat) (g : Nat → Int64) (cr : Int32) (pl0 : Int32) : WI l yL_round cL_round 5 [(0, 10, 13, 13), (0, 10, 17, 15)] (rmD 8 2 12) D T [.ref xa, .int cr, .int pl0, .ref o] [oW T o g, wb] 2 12 (β := va_W × (Nat → Int64)) (fun u => [oW T o u.2, u.1]) (WQ T xa K (r2 (roundP cr pl0 mm) mm past kp) (f) (n)) := by
  intro sz
  refine met_w (Qc := fun A => va_Qi _ (PST D _ A) A) (XC := fun A => XPS D _ _ A) rfl (Nat.le_of_ble_eq_true rfl) ?_
  intro pX eX sX mX bX mtX cX A hAe hC htb hST hA hP0 hD0 hS0 ls0 hl0 TG hTG
  clear hAe
  obtain ⟨hx, hb, hr, hml, hown, hts, hlocks, hin, hK2⟩ := hC
  have hown : sX.vm.findClass RL = some mX.cls := hown
  have htb : cX.exceptionTable.toList = [⟨0, 10, 13, 13⟩, ⟨0, 10, 17, 15⟩] := htb
  have hl0 : lv_has ls0 5 [(0, .ref xa), (1, .int cr), (2, .int pl0), (3, .ref o)] := hl0
  refine lv_aload_n hx hb dL_round_0 rfl (lv_at hl0 3 rfl) ?_
  refine lv_iconst (v := nI 0) hx hb dL_round_1 (by decide) ?_
  refine lv_aload_n hx hb dL_round_2 rfl (lv_at hl0 0 rfl) ?_
  refine lv_iload_n hx hb dL_round_3 rfl (lv_at hl0 1 rfl) ?_
  refine lv_iload_n hx hb dL_round_4 rfl (lv_at hl0 2 rfl) ?_
  have hPc : va_P D vwCl (fl [wb]) _ := flP_sub hP0 [1] rfl
  have hDc : va_D A (fl [wb]) := flD_sub hD0 [1] (by decide) rfl
  obtain ⟨fs, hfs⟩ := hI.recv
  refine clx_i (br := [oW T o g]) (vx_runV (As := [.int cr, .int pl0]) (rest := [.int (nI 0), .ref o]) ⟨hx, hb, hml, hown, hts⟩ (d_X5_round l D T hl hI hK cr pl0 _) (mkV hts okX5_round kw_636 kw_637 kw_638 ⟨rfl, rfl, Nat.le_of_ble_eq_true rfl, Nat.le_of_ble_eq_true rfl⟩) (pv_x hK2 hST hS0 hPc hDc (vA_c (br := [oW T o g]) hP0 hD0 hS0 hA (isR := [0]) (isC := [1]) rfl (by decide)) hfs (q := (RX5, TX5, 5)) rfl rfl) rfl rfl hl0.1 rfl (lv_room (Nat.le_of_ble_eq_true rfl)) dL_round_5 ⟨Nat.le_of_ble_eq_true rfl, Nat.le_of_ble_eq_true rfl⟩) hP0 hD0 hS0 hA [0] [1] rfl (by decide) (fun E ce q9 w2 Hx lx hqx hPx hDx hSx h1 h2 h3 => ?_) (fun r w2 H1 locs1 hq hP1 hD1 hS1 => ?_)
  · have hPx : va_P D vwCl (fl [oW T o g, w2]) Hx := hPx
    have hDx : va_D A (fl [oW T o g, w2]) := hDx
    obtain ⟨hE, hI2⟩ := hqx
    rcases hE with ⟨rfl, e1⟩ | ⟨rfl, e2⟩
    · skip
      refine vx_catch (own := RL) (name := XIO) (E := XIO) hown [] ⟨0, 10, 13, 13⟩ [⟨0, 10, 17, 15⟩] htb (fun z hz => absurd hz List.not_mem_nil) (by decide) (by decide) (hts _ kw_491) (va_tabs rfl rfl hK2.2.2.2.2.1.1) h1 h2 h3 ?_
      refine lv_astore (pc := 13) (lv' := [(4, .ref q9), (0, .ref xa), (1, .int cr), (2, .int pl0), (3, .ref o)]) hx hb dL_round_13 hl0 (by decide) rfl (fun ls2 hl2 => ?_)
      refine lv_iconst (v := nI 1) hx hb dL_round_15 (by decide) ?_
      exact retx_i hTG (Nat.le_of_ble_eq_true rfl) (Nat.le_of_ble_eq_true rfl) hx hb hr hlocks (w2, g) hPx hDx hSx [0, 1] rfl (by decide) dL_round_16 (⟨e1.symm, fun q => absurd q (by decide), hI2⟩)
    · skip
      refine vx_catch (own := RL) (name := XIA) (E := XIA) hown [⟨0, 10, 13, 13⟩] ⟨0, 10, 17, 15⟩ [] htb (fun z hz => by rw [List.mem_singleton] at hz; subst hz; exact Or.inr ⟨by decide, XIO, hts _ kw_491, hK2.2.2.2.2.2.1.1⟩) (by decide) (by decide) (hts _ kw_492) (va_tabs rfl rfl hK2.2.2.2.2.1.2.1) h1 h2 h3 ?_
      refine lv_astore (pc := 17) (lv' := [(4, .ref q9), (0, .ref xa), (1, .int cr), (2, .int pl0), (3, .ref o)]) hx hb dL_round_17 hl0 (by decide) rfl (fun ls2 hl2 => ?_)
      refine lv_iconst (v := nI 2) hx hb dL_round_19 (by decide) ?_
      exact retx_i hTG (Nat.le_of_ble_eq_true rfl) (Nat.le_of_ble_eq_true rfl) hx hb hr hlocks (w2, g) hPx hDx hSx [0, 1] rfl (by decide) dL_round_20 (⟨e2.symm, fun q => absurd q (by decide), hI2⟩)
  · have hP1 : va_P D vwCl (fl [oW T o g, w2]) H1 := hP1
    have hD1 : va_D A (fl [oW T o g, w2]) := hD1
    refine lv_i2l hx hb dL_round_8 rfl ?_
    refine r_last hx hb hK2 hP1 hD1 hS1 0 (f := g) rfl 0 (by decide) dL_round_9 (by decide) (fun H2 locs2 (hP2 : va_P D vwCl (fl [oW T o (vp_updL g 0 r.toInt64), w2]) H2) (hD2 : va_D A (fl [oW T o (vp_updL g 0 r.toInt64), w2])) hS2 => ?_)
    refine lv_goto (tgt := 21) hx hb dL_round_10 (by decide) ?_
    refine lv_iconst (v := nI 0) hx hb dL_round_21 (by decide) ?_
    exact retx_i hTG (Nat.le_of_ble_eq_true rfl) (Nat.le_of_ble_eq_true rfl) hx hb hr hlocks (w2, vp_updL g 0 r.toInt64) hP2 hD2 hS2 [0, 1] rfl (by decide) dL_round_22 (⟨hq.2.1.symm, fun _ => (updL_0 g _).trans (congrArg Int32.toInt64 hq.1), hq.2.2⟩)
theorem kcw_count : Cond.codeWith yL_count cL_count 4 (some .int) [(0, 9, 12, 15)] ∈ W0 := W0_in (List.mem_of_getElem? (i := 671) (by decide +kernel)) (by decide +kernel)
set_option maxHeartbeats 4000000 in
set_option maxRecDepth 100000 in
theorem c_L_count (l : Launch) (D : va_G) (T : TI) (hl : l.stackTraces = false) {xa : Nat} {wb : va_W} {mm past : Nat → Int32} {kp : Nat} {f : Nat → Int32} {n K : Nat} (hI : XINV T xa wb mm past kp f n K) (hK : K ≤ 490000) (o : Nat) (g : Nat → Int64) (w : Int32) : WI l yL_count cL_count 4 [(0, 9, 12, 15)] (rmD 8 1 6) D T [.ref xa, .int w, .ref o] [oW T o g, wb] 1 6 (β := va_W × (Nat → Int64)) (fun u => [oW T o u.2, u.1]) (WQ T xa K (r2 (countP w mm kp) mm past kp) (f) (n)) := by
  intro sz
  refine met_w (Qc := fun A => va_Qi _ (PST D _ A) A) (XC := fun A => XPS D _ _ A) rfl (Nat.le_of_ble_eq_true rfl) ?_
  intro pX eX sX mX bX mtX cX A hAe hC htb hST hA hP0 hD0 hS0 ls0 hl0 TG hTG
  clear hAe
  obtain ⟨hx, hb, hr, hml, hown, hts, hlocks, hin, hK2⟩ := hC
  have hown : sX.vm.findClass RL = some mX.cls := hown
  have htb : cX.exceptionTable.toList = [⟨0, 9, 12, 15⟩] := htb
  have hl0 : lv_has ls0 4 [(0, .ref xa), (1, .int w), (2, .ref o)] := hl0
  refine lv_aload_n hx hb dL_count_0 rfl (lv_at hl0 2 rfl) ?_
  refine lv_iconst (v := nI 0) hx hb dL_count_1 (by decide) ?_
  refine lv_aload_n hx hb dL_count_2 rfl (lv_at hl0 0 rfl) ?_
  refine lv_iload_n hx hb dL_count_3 rfl (lv_at hl0 1 rfl) ?_
  have hPc : va_P D vwCl (fl [wb]) _ := flP_sub hP0 [1] rfl
  have hDc : va_D A (fl [wb]) := flD_sub hD0 [1] (by decide) rfl
  obtain ⟨fs, hfs⟩ := hI.recv
  refine clx_i (br := [oW T o g]) (vx_runV (As := [.int w]) (rest := [.int (nI 0), .ref o]) ⟨hx, hb, hml, hown, hts⟩ (d_X5_count l D T hl hI hK w _) (mkV hts okX5_count kw_644 kw_340 kw_341 ⟨rfl, rfl, Nat.le_of_ble_eq_true rfl, Nat.le_of_ble_eq_true rfl⟩) (pv_x hK2 hST hS0 hPc hDc (vA_c (br := [oW T o g]) hP0 hD0 hS0 hA (isR := [0]) (isC := [1]) rfl (by decide)) hfs (q := (RX5, TX5, 5)) rfl rfl) rfl rfl hl0.1 rfl (lv_room (Nat.le_of_ble_eq_true rfl)) dL_count_4 ⟨Nat.le_of_ble_eq_true rfl, Nat.le_of_ble_eq_true rfl⟩) hP0 hD0 hS0 hA [0] [1] rfl (by decide) (fun E ce q9 w2 Hx lx hqx hPx hDx hSx h1 h2 h3 => ?_) (fun r w2 H1 locs1 hq hP1 hD1 hS1 => ?_)
  · have hPx : va_P D vwCl (fl [oW T o g, w2]) Hx := hPx
    have hDx : va_D A (fl [oW T o g, w2]) := hDx
    obtain ⟨hE, hI2⟩ := hqx
    obtain ⟨rfl, e1⟩ := hE
    refine vx_catch (own := RL) (name := XIA) (E := XIA) hown [] ⟨0, 9, 12, 15⟩ [] htb (fun z hz => absurd hz List.not_mem_nil) (by decide) (by decide) (hts _ kw_492) (va_tabs rfl rfl hK2.2.2.2.2.1.2.1) h1 h2 h3 ?_
    refine lv_astore_n (pc := 12) (lv' := [(3, .ref q9), (0, .ref xa), (1, .int w), (2, .ref o)]) hx hb dL_count_12 rfl hl0 (by decide) rfl (fun ls2 hl2 => ?_)
    refine lv_iconst (v := nI 1) hx hb dL_count_13 (by decide) ?_
    exact retx_i hTG (Nat.le_of_ble_eq_true rfl) (Nat.le_of_ble_eq_true rfl) hx hb hr hlocks (w2, g) hPx hDx hSx [0, 1] rfl (by decide) dL_count_14 (⟨e1.symm, fun q => absurd q (by decide), hI2⟩)
  · have hP1 : va_P D vwCl (fl [oW T o g, w2]) H1 := hP1
    have hD1 : va_D A (fl [oW T o g, w2]) := hD1
    refine lv_i2l hx hb dL_count_7 rfl ?_
    refine r_last hx hb hK2 hP1 hD1 hS1 0 (f := g) rfl 0 (by decide) dL_count_8 (by decide) (fun H2 locs2 (hP2 : va_P D vwCl (fl [oW T o (vp_updL g 0 r.toInt64), w2]) H2) (hD2 : va_D A (fl [oW T o (vp_updL g 0 r.toInt64), w2])) hS2 => ?_)
    refine lv_goto (tgt := 15) hx hb dL_count_9 (by decide) ?_
    refine lv_iconst (v := nI 0) hx hb dL_count_15 (by decide) ?_
    exact retx_i hTG (Nat.le_of_ble_eq_true rfl) (Nat.le_of_ble_eq_true rfl) hx hb hr hlocks (w2, vp_updL g 0 r.toInt64) hP2 hD2 hS2 [0, 1] rfl (by decide) dL_count_16 (⟨hq.2.1.symm, fun _ => (updL_0 g _).trans (congrArg Int32.toInt64 hq.1), hq.2.2⟩)
theorem kcw_setting : Cond.codeWith yL_setting cL_setting 4 (some .int) [(0, 9, 12, 13)] ∈ W0 := W0_in (List.mem_of_getElem? (i := 675) (by decide +kernel)) (by decide +kernel)
set_option maxHeartbeats 4000000 in
set_option maxRecDepth 100000 in
theorem c_L_setting (l : Launch) (D : va_G) (T : TI) (hl : l.stackTraces = false) {xa : Nat} {wb : va_W} {mm past : Nat → Int32} {kp : Nat} {f : Nat → Int32} {n K : Nat} (hI : XINV T xa wb mm past kp f n K) (hK : K ≤ 490000) (o : Nat) (g : Nat → Int64) (w : Int32) : WI l yL_setting cL_setting 4 [(0, 9, 12, 13)] (rmD 8 1 6) D T [.ref xa, .int w, .ref o] [oW T o g, wb] 1 6 (β := va_W × (Nat → Int64)) (fun u => [oW T o u.2, u.1]) (WQ T xa K (r2 (settingP w mm) mm past kp) (f) (n)) := by
  intro sz
  refine met_w (Qc := fun A => va_Qi _ (PST D _ A) A) (XC := fun A => XPS D _ _ A) rfl (Nat.le_of_ble_eq_true rfl) ?_
  intro pX eX sX mX bX mtX cX A hAe hC htb hST hA hP0 hD0 hS0 ls0 hl0 TG hTG
  clear hAe
  obtain ⟨hx, hb, hr, hml, hown, hts, hlocks, hin, hK2⟩ := hC
  have hown : sX.vm.findClass RL = some mX.cls := hown
  have htb : cX.exceptionTable.toList = [⟨0, 9, 12, 13⟩] := htb
  have hl0 : lv_has ls0 4 [(0, .ref xa), (1, .int w), (2, .ref o)] := hl0
  refine lv_aload_n hx hb dL_setting_0 rfl (lv_at hl0 2 rfl) ?_
  refine lv_iconst (v := nI 0) hx hb dL_setting_1 (by decide) ?_
  refine lv_aload_n hx hb dL_setting_2 rfl (lv_at hl0 0 rfl) ?_
  refine lv_iload_n hx hb dL_setting_3 rfl (lv_at hl0 1 rfl) ?_
  have hPc : va_P D vwCl (fl [wb]) _ := flP_sub hP0 [1] rfl
  have hDc : va_D A (fl [wb]) := flD_sub hD0 [1] (by decide) rfl
  obtain ⟨fs, hfs⟩ := hI.recv
  refine clx_i (br := [oW T o g]) (vx_runV (As := [.int w]) (rest := [.int (nI 0), .ref o]) ⟨hx, hb, hml, hown, hts⟩ (d_X5_setting l D T hl hI hK w _) (mkV hts okX5_setting kw_648 kw_649 kw_650 ⟨rfl, rfl, Nat.le_of_ble_eq_true rfl, Nat.le_of_ble_eq_true rfl⟩) (pv_x hK2 hST hS0 hPc hDc (vA_c (br := [oW T o g]) hP0 hD0 hS0 hA (isR := [0]) (isC := [1]) rfl (by decide)) hfs (q := (RX5, TX5, 5)) rfl rfl) rfl rfl hl0.1 rfl (lv_room (Nat.le_of_ble_eq_true rfl)) dL_setting_4 ⟨Nat.le_of_ble_eq_true rfl, Nat.le_of_ble_eq_true rfl⟩) hP0 hD0 hS0 hA [0] [1] rfl (by decide) (fun E ce q9 w2 Hx lx hqx hPx hDx hSx h1 h2 h3 => ?_) (fun r w2 H1 locs1 hq hP1 hD1 hS1 => ?_)
  · have hPx : va_P D vwCl (fl [oW T o g, w2]) Hx := hPx
    have hDx : va_D A (fl [oW T o g, w2]) := hDx
    obtain ⟨hE, hI2⟩ := hqx
    obtain ⟨rfl, e1⟩ := hE
    refine vx_catch (own := RL) (name := XIO) (E := XIO) hown [] ⟨0, 9, 12, 13⟩ [] htb (fun z hz => absurd hz List.not_mem_nil) (by decide) (by decide) (hts _ kw_491) (va_tabs rfl rfl hK2.2.2.2.2.1.1) h1 h2 h3 ?_
    refine lv_astore_n (pc := 12) (lv' := [(3, .ref q9), (0, .ref xa), (1, .int w), (2, .ref o)]) hx hb dL_setting_12 rfl hl0 (by decide) rfl (fun ls2 hl2 => ?_)
    refine lv_iconst (v := nI 1) hx hb dL_setting_13 (by decide) ?_
    exact retx_i hTG (Nat.le_of_ble_eq_true rfl) (Nat.le_of_ble_eq_true rfl) hx hb hr hlocks (w2, g) hPx hDx hSx [0, 1] rfl (by decide) dL_setting_14 (⟨e1.symm, fun q => absurd q (by decide), hI2⟩)
  · have hP1 : va_P D vwCl (fl [oW T o g, w2]) H1 := hP1
    have hD1 : va_D A (fl [oW T o g, w2]) := hD1
    refine lv_i2l hx hb dL_setting_7 rfl ?_
    refine r_last hx hb hK2 hP1 hD1 hS1 0 (f := g) rfl 0 (by decide) dL_setting_8 (by decide) (fun H2 locs2 (hP2 : va_P D vwCl (fl [oW T o (vp_updL g 0 r.toInt64), w2]) H2) (hD2 : va_D A (fl [oW T o (vp_updL g 0 r.toInt64), w2])) hS2 => ?_)
    refine lv_goto (tgt := 15) hx hb dL_setting_9 (by decide) ?_
    refine lv_iconst (v := nI 0) hx hb dL_setting_15 (by decide) ?_
    exact retx_i hTG (Nat.le_of_ble_eq_true rfl) (Nat.le_of_ble_eq_true rfl) hx hb hr hlocks (w2, vp_updL g 0 r.toInt64) hP2 hD2 hS2 [0, 1] rfl (by decide) dL_setting_16 (⟨hq.2.1.symm, fun _ => (updL_0 g _).trans (congrArg Int32.toInt64 hq.1), hq.2.2⟩)
theorem kcw_waits : Cond.codeWith yL_waits cL_waits 4 (some .int) [(0, 9, 12, 13)] ∈ W0 := W0_in (List.mem_of_getElem? (i := 682) (by decide +kernel)) (by decide +kernel)
set_option maxHeartbeats 4000000 in
set_option maxRecDepth 100000 in
theorem c_L_waits (l : Launch) (D : va_G) (T : TI) (hl : l.stackTraces = false) {xa : Nat} {wb : va_W} {mm past : Nat → Int32} {kp : Nat} {f : Nat → Int32} {n K : Nat} (hI : XINV T xa wb mm past kp f n K) (hK : K ≤ 490000) (o : Nat) (g : Nat → Int64) (cr : Int32) : WI l yL_waits cL_waits 4 [(0, 9, 12, 13)] (rmD 8 1 6) D T [.ref xa, .int cr, .ref o] [oW T o g, wb] 1 6 (β := va_W × (Nat → Int64)) (fun u => [oW T o u.2, u.1]) (WQ T xa K (r2 (waitsP cr mm (fun _ => 0)) mm past kp) (f) (n)) := by
  intro sz
  refine met_w (Qc := fun A => va_Qi _ (PST D _ A) A) (XC := fun A => XPS D _ _ A) rfl (Nat.le_of_ble_eq_true rfl) ?_
  intro pX eX sX mX bX mtX cX A hAe hC htb hST hA hP0 hD0 hS0 ls0 hl0 TG hTG
  clear hAe
  obtain ⟨hx, hb, hr, hml, hown, hts, hlocks, hin, hK2⟩ := hC
  have hown : sX.vm.findClass RL = some mX.cls := hown
  have htb : cX.exceptionTable.toList = [⟨0, 9, 12, 13⟩] := htb
  have hl0 : lv_has ls0 4 [(0, .ref xa), (1, .int cr), (2, .ref o)] := hl0
  refine lv_aload_n hx hb dL_waits_0 rfl (lv_at hl0 2 rfl) ?_
  refine lv_iconst (v := nI 0) hx hb dL_waits_1 (by decide) ?_
  refine lv_aload_n hx hb dL_waits_2 rfl (lv_at hl0 0 rfl) ?_
  refine lv_iload_n hx hb dL_waits_3 rfl (lv_at hl0 1 rfl) ?_
  have hPc : va_P D vwCl (fl [wb]) _ := flP_sub hP0 [1] rfl
  have hDc : va_D A (fl [wb]) := flD_sub hD0 [1] (by decide) rfl
  obtain ⟨fs, hfs⟩ := hI.recv
  refine clx_i (br := [oW T o g]) (vx_runV (As := [.int cr]) (rest := [.int (nI 0), .ref o]) ⟨hx, hb, hml, hown, hts⟩ (d_X5_waits l D T hl hI hK cr _) (mkV hts okX5_waits kw_655 kw_467 kw_468 ⟨rfl, rfl, Nat.le_of_ble_eq_true rfl, Nat.le_of_ble_eq_true rfl⟩) (pv_x hK2 hST hS0 hPc hDc (vA_c (br := [oW T o g]) hP0 hD0 hS0 hA (isR := [0]) (isC := [1]) rfl (by decide)) hfs (q := (RX5, TX5, 5)) rfl rfl) rfl rfl hl0.1 rfl (lv_room (Nat.le_of_ble_eq_true rfl)) dL_waits_4 ⟨Nat.le_of_ble_eq_true rfl, Nat.le_of_ble_eq_true rfl⟩) hP0 hD0 hS0 hA [0] [1] rfl (by decide) (fun E ce q9 w2 Hx lx hqx hPx hDx hSx h1 h2 h3 => ?_) (fun r w2 H1 locs1 hq hP1 hD1 hS1 => ?_)
  · have hPx : va_P D vwCl (fl [oW T o g, w2]) Hx := hPx
    have hDx : va_D A (fl [oW T o g, w2]) := hDx
    obtain ⟨hE, hI2⟩ := hqx
    obtain ⟨rfl, e1⟩ := hE
    refine vx_catch (own := RL) (name := XIO) (E := XIO) hown [] ⟨0, 9, 12, 13⟩ [] htb (fun z hz => absurd hz List.not_mem_nil) (by decide) (by decide) (hts _ kw_491) (va_tabs rfl rfl hK2.2.2.2.2.1.1) h1 h2 h3 ?_
    refine lv_astore_n (pc := 12) (lv' := [(3, .ref q9), (0, .ref xa), (1, .int cr), (2, .ref o)]) hx hb dL_waits_12 rfl hl0 (by decide) rfl (fun ls2 hl2 => ?_)
    refine lv_iconst (v := nI 1) hx hb dL_waits_13 (by decide) ?_
    exact retx_i hTG (Nat.le_of_ble_eq_true rfl) (Nat.le_of_ble_eq_true rfl) hx hb hr hlocks (w2, g) hPx hDx hSx [0, 1] rfl (by decide) dL_waits_14 (⟨e1.symm, fun q => absurd q (by decide), hI2⟩)
  · have hP1 : va_P D vwCl (fl [oW T o g, w2]) H1 := hP1
    have hD1 : va_D A (fl [oW T o g, w2]) := hD1
    refine lv_i2l hx hb dL_waits_7 rfl ?_
    refine r_last hx hb hK2 hP1 hD1 hS1 0 (f := g) rfl 0 (by decide) dL_waits_8 (by decide) (fun H2 locs2 (hP2 : va_P D vwCl (fl [oW T o (vp_updL g 0 r.toInt64), w2]) H2) (hD2 : va_D A (fl [oW T o (vp_updL g 0 r.toInt64), w2])) hS2 => ?_)
    refine lv_goto (tgt := 15) hx hb dL_waits_9 (by decide) ?_
    refine lv_iconst (v := nI 0) hx hb dL_waits_15 (by decide) ?_
    exact retx_i hTG (Nat.le_of_ble_eq_true rfl) (Nat.le_of_ble_eq_true rfl) hx hb hr hlocks (w2, vp_updL g 0 r.toInt64) hP2 hD2 hS2 [0, 1] rfl (by decide) dL_waits_16 (⟨hq.2.1.symm, fun _ => (updL_0 g _).trans (congrArg Int32.toInt64 hq.1), hq.2.2⟩)
theorem kcw_ifPassed : Cond.codeWith yL_ifPassed cL_ifPassed 5 (some .int) [(0, 10, 13, 15)] ∈ W0 := W0_in (List.mem_of_getElem? (i := 686) (by decide +kernel)) (by decide +kernel)
set_option maxHeartbeats 4000000 in
set_option maxRecDepth 100000 in
theorem c_L_ifPassed (l : Launch) (D : va_G) (T : TI) (hl : l.stackTraces = false) {xa : Nat} {wb : va_W} {mm past : Nat → Int32} {kp : Nat} {f : Nat → Int32} {n K : Nat} (hI : XINV T xa wb mm past kp f n K) (hK : K ≤ 490000) (o : Nat) (g : Nat → Int64) (h : Int32) (w : Int32) : WI l yL_ifPassed cL_ifPassed 5 [(0, 10, 13, 15)] (rmD 9 2 12) D T [.ref xa, .int h, .int w, .ref o] [oW T o g, wb] 2 12 (β := va_W × (Nat → Int64)) (fun u => [oW T o u.2, u.1]) (WQ T xa K (r2 (ifPassedP h w mm mm) mm past kp) (f) (n)) := by
  intro sz
  refine met_w (Qc := fun A => va_Qi _ (PST D _ A) A) (XC := fun A => XPS D _ _ A) rfl (Nat.le_of_ble_eq_true rfl) ?_
  intro pX eX sX mX bX mtX cX A hAe hC htb hST hA hP0 hD0 hS0 ls0 hl0 TG hTG
  clear hAe
  obtain ⟨hx, hb, hr, hml, hown, hts, hlocks, hin, hK2⟩ := hC
  have hown : sX.vm.findClass RL = some mX.cls := hown
  have htb : cX.exceptionTable.toList = [⟨0, 10, 13, 15⟩] := htb
  have hl0 : lv_has ls0 5 [(0, .ref xa), (1, .int h), (2, .int w), (3, .ref o)] := hl0
  refine lv_aload_n hx hb dL_ifPassed_0 rfl (lv_at hl0 3 rfl) ?_
  refine lv_iconst (v := nI 0) hx hb dL_ifPassed_1 (by decide) ?_
  refine lv_aload_n hx hb dL_ifPassed_2 rfl (lv_at hl0 0 rfl) ?_
  refine lv_iload_n hx hb dL_ifPassed_3 rfl (lv_at hl0 1 rfl) ?_
  refine lv_iload_n hx hb dL_ifPassed_4 rfl (lv_at hl0 2 rfl) ?_
  have hPc : va_P D vwCl (fl [wb]) _ := flP_sub hP0 [1] rfl
  have hDc : va_D A (fl [wb]) := flD_sub hD0 [1] (by decide) rfl
  obtain ⟨fs, hfs⟩ := hI.recv
  refine clx_i (br := [oW T o g]) (vx_runV (As := [.int h, .int w]) (rest := [.int (nI 0), .ref o]) ⟨hx, hb, hml, hown, hts⟩ (d_X5_ifPassed l D T hl hI hK h w _) (mkV hts okX5_ifPassed kw_659 kw_473 kw_474 ⟨rfl, rfl, Nat.le_of_ble_eq_true rfl, Nat.le_of_ble_eq_true rfl⟩) (pv_x hK2 hST hS0 hPc hDc (vA_c (br := [oW T o g]) hP0 hD0 hS0 hA (isR := [0]) (isC := [1]) rfl (by decide)) hfs (q := (RX5, TX5, 5)) rfl rfl) rfl rfl hl0.1 rfl (lv_room (Nat.le_of_ble_eq_true rfl)) dL_ifPassed_5 ⟨Nat.le_of_ble_eq_true rfl, Nat.le_of_ble_eq_true rfl⟩) hP0 hD0 hS0 hA [0] [1] rfl (by decide) (fun E ce q9 w2 Hx lx hqx hPx hDx hSx h1 h2 h3 => ?_) (fun r w2 H1 locs1 hq hP1 hD1 hS1 => ?_)
  · have hPx : va_P D vwCl (fl [oW T o g, w2]) Hx := hPx
    have hDx : va_D A (fl [oW T o g, w2]) := hDx
    obtain ⟨hE, hI2⟩ := hqx
    obtain ⟨rfl, e1⟩ := hE
    refine vx_catch (own := RL) (name := XIA) (E := XIA) hown [] ⟨0, 10, 13, 15⟩ [] htb (fun z hz => absurd hz List.not_mem_nil) (by decide) (by decide) (hts _ kw_492) (va_tabs rfl rfl hK2.2.2.2.2.1.2.1) h1 h2 h3 ?_
    refine lv_astore (pc := 13) (lv' := [(4, .ref q9), (0, .ref xa), (1, .int h), (2, .int w), (3, .ref o)]) hx hb dL_ifPassed_13 hl0 (by decide) rfl (fun ls2 hl2 => ?_)
    refine lv_iconst (v := nI 1) hx hb dL_ifPassed_15 (by decide) ?_
    exact retx_i hTG (Nat.le_of_ble_eq_true rfl) (Nat.le_of_ble_eq_true rfl) hx hb hr hlocks (w2, g) hPx hDx hSx [0, 1] rfl (by decide) dL_ifPassed_16 (⟨e1.symm, fun q => absurd q (by decide), hI2⟩)
  · have hP1 : va_P D vwCl (fl [oW T o g, w2]) H1 := hP1
    have hD1 : va_D A (fl [oW T o g, w2]) := hD1
    refine lv_i2l hx hb dL_ifPassed_8 rfl ?_
    refine r_last hx hb hK2 hP1 hD1 hS1 0 (f := g) rfl 0 (by decide) dL_ifPassed_9 (by decide) (fun H2 locs2 (hP2 : va_P D vwCl (fl [oW T o (vp_updL g 0 r.toInt64), w2]) H2) (hD2 : va_D A (fl [oW T o (vp_updL g 0 r.toInt64), w2])) hS2 => ?_)
    refine lv_goto (tgt := 17) hx hb dL_ifPassed_10 (by decide) ?_
    refine lv_iconst (v := nI 0) hx hb dL_ifPassed_17 (by decide) ?_
    exact retx_i hTG (Nat.le_of_ble_eq_true rfl) (Nat.le_of_ble_eq_true rfl) hx hb hr hlocks (w2, vp_updL g 0 r.toInt64) hP2 hD2 hS2 [0, 1] rfl (by decide) dL_ifPassed_18 (⟨hq.2.1.symm, fun _ => (updL_0 g _).trans (congrArg Int32.toInt64 hq.1), hq.2.2⟩)
theorem kcw_leastPressure : Cond.codeWith yL_leastPressure cL_leastPressure 4 (some .int) [(0, 9, 12, 13)] ∈ W0 := W0_in (List.mem_of_getElem? (i := 690) (by decide +kernel)) (by decide +kernel)
set_option maxHeartbeats 4000000 in
set_option maxRecDepth 100000 in
theorem c_L_leastPressure (l : Launch) (D : va_G) (T : TI) (hl : l.stackTraces = false) {xa : Nat} {wb : va_W} {mm past : Nat → Int32} {kp : Nat} {f : Nat → Int32} {n K : Nat} (hI : XINV T xa wb mm past kp f n K) (hK : K ≤ 490000) (o : Nat) (g : Nat → Int64) (s0 : Int32) : WI l yL_leastPressure cL_leastPressure 4 [(0, 9, 12, 13)] (rmD 8 1 6) D T [.ref xa, .int s0, .ref o] [oW T o g, wb] 1 6 (β := va_W × (Nat → Int64)) (fun u => [oW T o u.2, u.1]) (WQ T xa K (r2 (leastP s0 mm) mm past kp) (f) (n)) := by
  intro sz
  refine met_w (Qc := fun A => va_Qi _ (PST D _ A) A) (XC := fun A => XPS D _ _ A) rfl (Nat.le_of_ble_eq_true rfl) ?_
  intro pX eX sX mX bX mtX cX A hAe hC htb hST hA hP0 hD0 hS0 ls0 hl0 TG hTG
  clear hAe
  obtain ⟨hx, hb, hr, hml, hown, hts, hlocks, hin, hK2⟩ := hC
  have hown : sX.vm.findClass RL = some mX.cls := hown
  have htb : cX.exceptionTable.toList = [⟨0, 9, 12, 13⟩] := htb
  have hl0 : lv_has ls0 4 [(0, .ref xa), (1, .int s0), (2, .ref o)] := hl0
  refine lv_aload_n hx hb dL_leastPressure_0 rfl (lv_at hl0 2 rfl) ?_
  refine lv_iconst (v := nI 0) hx hb dL_leastPressure_1 (by decide) ?_
  refine lv_aload_n hx hb dL_leastPressure_2 rfl (lv_at hl0 0 rfl) ?_
  refine lv_iload_n hx hb dL_leastPressure_3 rfl (lv_at hl0 1 rfl) ?_
  have hPc : va_P D vwCl (fl [wb]) _ := flP_sub hP0 [1] rfl
  have hDc : va_D A (fl [wb]) := flD_sub hD0 [1] (by decide) rfl
  obtain ⟨fs, hfs⟩ := hI.recv
  refine clx_i (br := [oW T o g]) (vx_runV (As := [.int s0]) (rest := [.int (nI 0), .ref o]) ⟨hx, hb, hml, hown, hts⟩ (d_X5_leastPressure l D T hl hI hK s0 _) (mkV hts okX5_leastPressure kw_663 kw_459 kw_460 ⟨rfl, rfl, Nat.le_of_ble_eq_true rfl, Nat.le_of_ble_eq_true rfl⟩) (pv_x hK2 hST hS0 hPc hDc (vA_c (br := [oW T o g]) hP0 hD0 hS0 hA (isR := [0]) (isC := [1]) rfl (by decide)) hfs (q := (RX5, TX5, 5)) rfl rfl) rfl rfl hl0.1 rfl (lv_room (Nat.le_of_ble_eq_true rfl)) dL_leastPressure_4 ⟨Nat.le_of_ble_eq_true rfl, Nat.le_of_ble_eq_true rfl⟩) hP0 hD0 hS0 hA [0] [1] rfl (by decide) (fun E ce q9 w2 Hx lx hqx hPx hDx hSx h1 h2 h3 => ?_) (fun r w2 H1 locs1 hq hP1 hD1 hS1 => ?_)
  · have hPx : va_P D vwCl (fl [oW T o g, w2]) Hx := hPx
    have hDx : va_D A (fl [oW T o g, w2]) := hDx
    obtain ⟨hE, hI2⟩ := hqx
    obtain ⟨rfl, e1⟩ := hE
    refine vx_catch (own := RL) (name := XIO) (E := XIO) hown [] ⟨0, 9, 12, 13⟩ [] htb (fun z hz => absurd hz List.not_mem_nil) (by decide) (by decide) (hts _ kw_491) (va_tabs rfl rfl hK2.2.2.2.2.1.1) h1 h2 h3 ?_
    refine lv_astore_n (pc := 12) (lv' := [(3, .ref q9), (0, .ref xa), (1, .int s0), (2, .ref o)]) hx hb dL_leastPressure_12 rfl hl0 (by decide) rfl (fun ls2 hl2 => ?_)
    refine lv_iconst (v := nI 1) hx hb dL_leastPressure_13 (by decide) ?_
    exact retx_i hTG (Nat.le_of_ble_eq_true rfl) (Nat.le_of_ble_eq_true rfl) hx hb hr hlocks (w2, g) hPx hDx hSx [0, 1] rfl (by decide) dL_leastPressure_14 (⟨e1.symm, fun q => absurd q (by decide), hI2⟩)
  · have hP1 : va_P D vwCl (fl [oW T o g, w2]) H1 := hP1
    have hD1 : va_D A (fl [oW T o g, w2]) := hD1
    refine lv_i2l hx hb dL_leastPressure_7 rfl ?_
    refine r_last hx hb hK2 hP1 hD1 hS1 0 (f := g) rfl 0 (by decide) dL_leastPressure_8 (by decide) (fun H2 locs2 (hP2 : va_P D vwCl (fl [oW T o (vp_updL g 0 r.toInt64), w2]) H2) (hD2 : va_D A (fl [oW T o (vp_updL g 0 r.toInt64), w2])) hS2 => ?_)
    refine lv_goto (tgt := 15) hx hb dL_leastPressure_9 (by decide) ?_
    refine lv_iconst (v := nI 0) hx hb dL_leastPressure_15 (by decide) ?_
    exact retx_i hTG (Nat.le_of_ble_eq_true rfl) (Nat.le_of_ble_eq_true rfl) hx hb hr hlocks (w2, vp_updL g 0 r.toInt64) hP2 hD2 hS2 [0, 1] rfl (by decide) dL_leastPressure_16 (⟨hq.2.1.symm, fun _ => (updL_0 g _).trans (congrArg Int32.toInt64 hq.1), hq.2.2⟩)
