/-! the script: an old array that nobody writes; methods of the law that read it -/
theorem kcst_7 : Cond.constant "HydrantRoundsLaw" 7 2147483647 ∈ W0 := W0_in (List.mem_of_getElem? (i := 405) (by decide +kernel)) (by decide +kernel)
theorem kcst_8 : Cond.constant "HydrantRoundsLaw" 8 40503 ∈ W0 := W0_in (List.mem_of_getElem? (i := 409) (by decide +kernel)) (by decide +kernel)
theorem kcw_send : Cond.codeWith yL_send cL_send 4 (some .int) [(0, 6, 7, 15)] ∈ W0 := W0_in (List.mem_of_getElem? (i := 463) (by decide +kernel)) (by decide +kernel)
theorem kcw_undo : Cond.codeWith yL_undo cL_undo 2 (some .int) [(0, 4, 5, 15)] ∈ W0 := W0_in (List.mem_of_getElem? (i := 508) (by decide +kernel)) (by decide +kernel)
def SCR (b L : Nat) (xs : Nat → Int32) (A : Nat → Prop) (U : State) (H : Heap) : Prop := va_X b L xs U H ∧ b < H.size ∧ ¬ A b
theorem SCR.to {b L : Nat} {xs : Nat → Int32} {A A2 : Nat → Prop} {s U : State} {H : Heap} {locs : List Loc} (h : SCR b L xs A s s.heap) (hS : va_S A s.heap H locs) (hvm : s.vm.Alike U.vm) (hAA : ∀ q, A2 q → A q) : SCR b L xs A2 U H := by
  obtain ⟨b2, b3, b4⟩ := h
  have hk : ∀ a : Nat, a < s.heap.size → ¬ A a → H[a]? = s.heap[a]? := hS.2.1
  exact ⟨(b2.moved hvm).kept (hk b b3 b4), Nat.lt_of_lt_of_le b3 hS.1, fun z => b4 (hAA b z)⟩
theorem SCR_call {b L : Nat} {xs : Nat → Int32} {A : Nat → Prop} {U : State} {g : JFrame} {mk : MethodId} {a : Array Value} (h : SCR b L xs A U U.heap) : SCR b L xs A (U.calling g mk a) (U.calling g mk a).heap :=
  SCR.to (U := U.calling g mk a) (H := U.heap) (locs := []) h va_S.rf (Vm.Alike.refl U.vm) (fun _ h => h)
def PREZ (D : va_G) (T : TI) (b L : Nat) (xs : Nat → Int32) (bs : List va_W) (sz : Nat) (U : State) : Prop := PREX D T bs sz U ∧ SCR b L xs (va_A (fl bs) sz) U U.heap
def ZI (l : Launch) (y : MethodName) (cc : ByteArray) (nL : Nat) (rm : Room) (D : va_G) (T : TI) (b L : Nat) (xs : Nat → Int32) (As : List Value) (bs : List va_W) (mc ms : Nat) {β : Type} (WS : β → List va_W) (Q : Int32 → β → Prop) : Prop := ∀ sz, vx_Met l y (.code y cc nL (some .int) :: W0) rm (va_Pc As (PREZ D T b L xs bs sz)) (va_Qi Q (PST D WS (va_A (fl bs) sz)) (va_A (fl bs) sz)) (XPS D (fun _ : Unit => []) (fun _ _ => False) (va_A (fl bs) sz)) mc ms (va_A (fl bs) sz)
def PROZ (D : va_G) (T : TI) (b L : Nat) (xs : Nat → Int32) (U : State) : Prop := KN D T U ∧ SCR b L xs NO U U.heap
def OZ (l : Launch) (y : MethodName) (cc : ByteArray) (nL : Nat) (rm : Room) (D : va_G) (T : TI) (b L : Nat) (xs : Nat → Int32) (As : List Value) (Q : Int32 → Prop) : Prop := Met l y (.code y cc nL (some .int) :: W0) rm (va_Pc As (PROZ D T b L xs)) (va_Qi (fun r (_ : Unit) => Q r) (fun _ _ => True) NO) 0 0 NO
section ZCONTR
variable {l : Launch} {y : MethodName} {cc : ByteArray} {nL : Nat} {rm : Room} {D : va_G} {T : TI} {As : List Value} {bs : List va_W} {mc ms : Nat} {b L : Nat} {xs : Nat → Int32}
theorem met_z {ret : Option FieldType} {Qc : (Nat → Prop) → Array Value → State → Outcome → State → Prop} {XC : (Nat → Prop) → String → State → State → Prop} {sz : Nat} (hy : plainName y.cls = true) (hn : (lg_sl As).length ≤ nL)
    (body : ∀ {p : Program} {e : Env} {s : State} {m : MethodId} {below : List Frame} {meth : Method} {c : Code} (A : Nat → Prop), A = va_A (fl bs) s.heap.size → CX D T p s m As.toArray meth c cc nL y ret → (∀ x ∈ c.exceptionTable.toList, False) → STA A s s.heap → SCR b L xs A s s.heap → (∀ q, s.heap.size ≤ q → A q) → va_P D vwCl (fl bs) s.heap → va_D A (fl bs) → va_S A s.heap s.heap [] → ∀ ls, lv_has ls nL (lv_args 0 As) → ∀ TG : State → Prop, TG = vx_MQ below (Qc A) (XC A) As.toArray s mc ms A →
      W p l e rm s m As.toArray below meth c s.heap [] 0 0 TG (F0 m 0 ls [])) :
    vx_Met l y (.code y cc nL ret :: W0) rm (va_Pc As (PREZ D T b L xs bs sz)) (Qc (va_A (fl bs) sz)) (XC (va_A (fl bs) sz)) mc ms (va_A (fl bs) sz) := by
  refine vx_ofW (cc := cc) (maxL := nL) (ret := ret) hy rfl ?_
  intro p e s m args below meth c s₁ B hml hout hv
  obtain ⟨rfl, ⟨⟨hsz, hP, hK, hD0⟩, hST⟩, hSC⟩ := hv
  subst hsz
  rw [lg_entry_eq]
  exact body (va_A (fl bs) s.heap.size) rfl (CX_of B hml hK) hout hST hSC (fun q h => Or.inr h) hP hD0.self va_S.rf _ (lv_entry As hn) _ rfl
theorem met_oz {ret : Option FieldType} {Qc : Array Value → State → Outcome → State → Prop} (hy : plainName y.cls = true) (hn : (lg_sl As).length ≤ nL)
    (body : ∀ {p : Program} {e : Env} {s : State} {m : MethodId} {below : List Frame} {meth : Method} {c : Code}, CX D T p s m As.toArray meth c cc nL y ret → SCR b L xs NO s s.heap → va_S NO s.heap s.heap [] → ∀ ls, lv_has ls nL (lv_args 0 As) → ∀ TG : State → Prop, TG = MQ below Qc As.toArray s 0 0 NO →
      W p l e rm s m As.toArray below meth c s.heap [] 0 0 TG (F0 m 0 ls [])) :
    Met l y (.code y cc nL ret :: W0) rm (va_Pc As (PROZ D T b L xs)) Qc 0 0 NO := by
  refine Met.ofW (cc := cc) (maxL := nL) (ret := ret) hy rfl ?_
  intro p e s m args below meth c s₁ B hml hv
  obtain ⟨rfl, hK, hSC⟩ := hv
  rw [lg_entry_eq]
  exact body (CX_of B hml hK) hSC va_S.rf _ (lv_entry As hn) _ rfl
end ZCONTR
section ZCALLS
variable {s : State} {H : Heap} {locs : List Loc} {D : va_G} {T : TI} {A : Nat → Prop} {bc : List va_W} {As : List Value} {b L : Nat} {xs : Nat → Int32}
theorem blind_z {sz : Nat} : FrameBlind (va_Pc As (PREZ D T b L xs bc sz)) := fun _ U _ _ q => ⟨q.1, ⟨⟨q.2.1.1.1, q.2.1.1.2.1, q.2.1.1.2.2.1.call, q.2.1.1.2.2.2⟩, STA_call q.2.1.2⟩, SCR_call q.2.2⟩
theorem ps_z (hK : KN D T s) (hST : STA A s s.heap) (hSC : SCR b L xs A s s.heap) (hS : va_S A s.heap H locs) (hP : va_P D vwCl (fl bc) H) (hD : va_D A (fl bc)) (hAc : ∀ q, va_A (fl bc) H.size q → A q) : PreS s H (va_Pc As (PREZ D T b L xs bc H.size)) As :=
  ⟨blind_z, fun U hU hW => ⟨rfl, ⟨⟨by rw [hU], by rw [hU]; exact hP, hK.warm hW, hD.weaken (fun _ _ _ _ => trivial)⟩, by rw [hU]; exact hST.to hS hW.alike hAc⟩, by rw [hU]; exact hSC.to hS hW.alike hAc⟩⟩
theorem blind_oz : FrameBlind (va_Pc As (PROZ D T b L xs)) := fun _ U _ _ q => ⟨q.1, q.2.1.call, SCR_call q.2.2⟩
theorem ps_oz (hK : KN D T s) (hSC : SCR b L xs A s s.heap) (hS : va_S A s.heap H locs) : PreS s H (va_Pc As (PROZ D T b L xs)) As :=
  ⟨blind_oz, fun U hU hW => ⟨rfl, hK.warm hW, by rw [hU]; exact hSC.to hS hW.alike (fun _ z => z.elim)⟩⟩
end ZCALLS
/-! the class's world in this law: its buffer stays empty -/
abbrev XN (T : TI) (xa : Nat) (w : va_W) (mm past : Nat → Int32) (kp : Nat) : Prop := XINV T xa w mm past kp (fun _ => nI 0) 0 0
theorem XN.of {T : TI} {xa : Nat} {w : va_W} {mm past : Nat → Int32} {kp K : Nat} (h : XINV T xa w mm past kp (fun _ => nI 0) 0 K) : XN T xa w mm past kp := h
theorem noX2 {T : TI} {xa K : Nat} {P : R5} {f : Nat → Int32} {n : Nat} {E1 E2 E : String} {w : va_W} (h0 : P.2.1 = nI 0) : ¬ QX2 T xa K P f n E1 E2 E w := by
  rintro ⟨⟨-, e⟩ | ⟨-, e⟩, -⟩
  · exact absurd (h0.symm.trans e) (by decide)
  · exact absurd (h0.symm.trans e) (by decide)
theorem noX1 {T : TI} {xa K : Nat} {P : R5} {f : Nat → Int32} {n : Nat} {E1 E : String} {w : va_W} (h0 : P.2.1 = nI 0) : ¬ QX1 T xa K P f n E1 E w := by
  rintro ⟨⟨-, e⟩, -⟩
  exact absurd (h0.symm.trans e) (by decide)
section NT
variable {mm past : Nat → Int32} {kp z p : Nat}
theorem nt_pressure (hz : z ≤ 2) (hp : p ≤ 99) : (pressureP (nI z) (nI p) mm past kp).2.1 = nI 0 := by
  unfold pressureP
  rw [if_pos (inB_n hz (by omega)), if_pos (inB_n hp (by omega))]
  rfl
theorem nt_valve {b : Bool} (hz : z ≤ 1) : (valveP (nI z) b mm past kp).2.1 = nI 0 := by
  unfold valveP
  rw [if_pos (inB_n hz (by omega))]
  rfl
theorem nt_dirt (hz : z ≤ 11) (hp : p ≤ 999) : (dirtP (nI z) (nI p) mm past kp).2.1 = nI 0 := by
  unfold dirtP
  rw [if_pos (inB_n hz (by omega)), if_pos (inB_n hp (by omega))]
  rfl
theorem nt_hydrant (hz : z ≤ 11) (h1 : 1 ≤ p) (hp : p ≤ 30) : (hydrantP (nI z) (nI p) mm past kp).2.1 = nI 0 := by
  unfold hydrantP
  rw [if_pos (inB_n hz (by omega)), if_pos (inB_1 h1 hp (by omega))]
  rfl
theorem nt_skip (hz : z ≤ 2) : (skipP (nI z) mm past kp).2.1 = nI 0 := by
  unfold skipP
  rw [if_pos (inB_n hz (by omega))]
theorem nt_set (hz : z ≤ 3) (hf : forB z (nI p) = true) : (setP (nI z) (nI p) mm past kp).2.1 = nI 0 := by
  unfold setP
  rw [if_pos (inB_n hz (by omega)), nIcl (by omega), if_pos hf]
  rfl
theorem nt_pass (h1 : 1 ≤ z) (hz : z ≤ 48) : (passP (nI z) mm past kp).2.1 = nI 0 := by
  unfold passP
  rw [if_pos (inB_1 h1 hz (by omega))]
theorem nt_send (hz : z ≤ 2) (hp : p ≤ 11) : ¬ (sendP (nI z) (nI p) mm past kp).2.1 = nI 1 := by
  unfold sendP
  rw [if_pos (inB_n hz (by omega)), if_pos (inB_n hp (by omega))]
  split
  · exact (by decide : ¬ nI 2 = nI 1)
  · exact (by decide : ¬ nI 0 = nI 1)
theorem for_0 (h : p ≤ 99) : forB 0 (nI p) = true := inB_n h (by omega)
theorem for_1 (h : p ≤ 60) : forB 1 (nI p) = true := inB_n h (by omega)
theorem for_2 (h1 : 1 ≤ p) (h : p ≤ 9) : forB 2 (nI p) = true := inB_1 h1 h (by omega)
theorem for_3 (h : p ≤ 20) : forB 3 (nI p) = true := inB_n h (by omega)
end NT
/-! cell, send, undo -/
def cellF (xs : Nat → Int32) (L k : Nat) : Int32 := if k < L then xs k else 40503 * nI k + nI 977
theorem c_L_cell (l : Launch) (D : va_G) (T : TI) {b L : Nat} {xs : Nat → Int32} (hL : L < 1000000) (k : Nat) (hk : k < 1000000) : OZ l yL_cell cL_cell 2 (rmD 0 0 0) D T b L xs [.ref b, .int (nI k)] (fun r => r = cellF xs L k) := by
  refine met_oz rfl (Nat.le_of_ble_eq_true rfl) ?_
  intro pX eX sX mX bX mtX cX hC hSC hS0 ls0 hl0 TG hTG
  obtain ⟨hx, hb, hr, hml, hown, hts, hlocks, hin, hK⟩ := hC
  have hown : sX.vm.findClass RL = some mX.cls := hown
  obtain ⟨hXs, hls, hns⟩ := hSC
  have hl0 : lv_has ls0 2 [(0, .ref b), (1, .int (nI k))] := hl0
  refine lv_iload_n hx hb dL_cell_0 rfl (lv_at hl0 1 rfl) ?_
  refine lv_aload_n hx hb dL_cell_1 rfl (lv_at hl0 0 rfl) ?_
  refine va_slen hx hb hXs hls hns hS0 dL_cell_2 ?_
  refine tp_i (y := nI L) rfl ?_
  refine n_icmp_ge (tgt := 12) hx hb (by omega) (by omega) dL_cell_3 (by decide) (fun c_3 => ?_) (fun c_3 => ?_)
  · refine lv_ldc (v := 40503) hx hb hown (hts _ kcst_8) dL_cell_12 ?_
    refine lv_iload_n hx hb dL_cell_14 rfl (lv_at hl0 1 rfl) ?_
    refine lv_imul hx hb dL_cell_15 ?_
    refine lv_sipush (v := nI 977) hx hb dL_cell_16 (by decide) ?_
    refine lv_iadd hx hb dL_cell_19 ?_
    exact ro_i hTG (Nat.le_refl _) (Nat.le_refl _) hx hb hr hlocks hS0 dL_cell_20 (if_neg (by omega)).symm
  · refine lv_aload_n hx hb dL_cell_6 rfl (lv_at hl0 0 rfl) ?_
    refine lv_iload_n hx hb dL_cell_7 rfl (lv_at hl0 1 rfl) ?_
    refine va_sld hx hb hXs hls hns hS0 (nIin (n := L) (by omega) (by omega)) dL_cell_8 ?_
    rw [nIcl (show k < 2147483648 by omega)]
    refine lv_goto (tgt := 20) hx hb dL_cell_9 (by decide) ?_
    exact ro_i hTG (Nat.le_refl _) (Nat.le_refl _) hx hb hr hlocks hS0 dL_cell_20 (if_pos (by omega)).symm
set_option maxHeartbeats 4000000 in
set_option maxRecDepth 100000 in
theorem c_L_send (l : Launch) (D : va_G) (T : TI) (hl : l.stackTraces = false) {xa : Nat} {wb : va_W} {mm past : Nat → Int32} {kp : Nat} (hI : XN T xa wb mm past kp) (z p : Nat) (hz : z ≤ 2) (hp : p ≤ 11) : WI l yL_send cL_send 4 [(0, 6, 7, 15)] (rmD 8 3 18) D T [.ref xa, .int (nI z), .int (nI p)] [wb] 3 18 (β := va_W) (fun u => [u]) (fun r u => r = (if (sendP (nI z) (nI p) mm past kp).2.1 = nI 0 then (sendP (nI z) (nI p) mm past kp).1 else -3) ∧ XN T xa u (sendP (nI z) (nI p) mm past kp).2.2.1 (sendP (nI z) (nI p) mm past kp).2.2.2.1 (sendP (nI z) (nI p) mm past kp).2.2.2.2) := by
  intro sz
  refine met_w (Qc := fun A => va_Qi _ (PST D _ A) A) (XC := fun A => XPS D _ _ A) rfl (Nat.le_of_ble_eq_true rfl) ?_
  intro pX eX sX mX bX mtX cX A hAe hC htb hST hA hP0 hD0 hS0 ls0 hl0 TG hTG
  clear hAe
  obtain ⟨hx, hb, hr, hml, hown, hts, hlocks, hin, hK2⟩ := hC
  have hown : sX.vm.findClass RL = some mX.cls := hown
  have htb : cX.exceptionTable.toList = [⟨0, 6, 7, 15⟩] := htb
  have hl0 : lv_has ls0 4 [(0, .ref xa), (1, .int (nI z)), (2, .int (nI p))] := hl0
  refine lv_aload_n hx hb dL_send_0 rfl (lv_at hl0 0 rfl) ?_
  refine lv_iload_n hx hb dL_send_1 rfl (lv_at hl0 1 rfl) ?_
  refine lv_iload_n hx hb dL_send_2 rfl (lv_at hl0 2 rfl) ?_
  obtain ⟨fs, hfs⟩ := hI.recv
  refine clx_i (br := []) (vx_runV (As := [.int (nI z), .int (nI p)]) (rest := []) ⟨hx, hb, hml, hown, hts⟩ (d_X5_send l D T hl hI (by omega) (nI z) (nI p) _) (mkV hts okX5_send kw_459 kw_460 kw_461 ⟨rfl, rfl, Nat.le_of_ble_eq_true rfl, Nat.le_of_ble_eq_true rfl⟩) (pv_x hK2 hST hS0 hP0 hD0 (vA_c (br := []) hP0 hD0 hS0 hA (isR := []) (isC := [0]) rfl (by decide)) hfs (q := (RX5, TX5, 5)) rfl rfl) rfl rfl hl0.1 rfl (lv_room (Nat.le_of_ble_eq_true rfl)) dL_send_3 ⟨Nat.le_of_ble_eq_true rfl, Nat.le_of_ble_eq_true rfl⟩) hP0 hD0 hS0 hA [] [0] rfl (by decide) (fun E ce q9 w2 Hx lx hqx hPx hDx hSx h1 h2 h3 => ?_) (fun r w2 H1 locs1 hq hP1 hD1 hS1 => ?_)
  · have hPx : va_P D vwCl (fl [w2]) Hx := hPx
    have hDx : va_D A (fl [w2]) := hDx
    obtain ⟨hE, hI2⟩ := hqx
    rcases hE with ⟨rfl, e1⟩ | ⟨rfl, e2⟩
    · exact absurd e1 (nt_send hz hp)
    · refine vx_catch (own := RL) (name := XIS) (E := XIS) hown [] ⟨0, 6, 7, 15⟩ [] htb (fun z hz => absurd hz List.not_mem_nil) (by decide) (by decide) (hts _ kw_458) (va_tabs rfl rfl hK2.2.2.2.2.1.2.2) h1 h2 h3 ?_
      refine lv_astore_n (pc := 7) (lv' := [(3, .ref q9), (0, .ref xa), (1, .int (nI z)), (2, .int (nI p))]) hx hb dL_send_7 rfl hl0 (by decide) rfl (fun ls2 hl2 => ?_)
      refine lv_bipush (v := (-3)) hx hb dL_send_8 (by decide) ?_
      exact retx_i hTG (Nat.le_of_ble_eq_true rfl) (Nat.le_of_ble_eq_true rfl) hx hb hr hlocks w2 hPx hDx hSx [0] rfl (by decide) dL_send_10 ⟨(if_neg (by rw [e2]; decide)).symm, XN.of hI2⟩
  · have hP1 : va_P D vwCl (fl [w2]) H1 := hP1
    have hD1 : va_D A (fl [w2]) := hD1
    exact retx_i hTG (Nat.le_of_ble_eq_true rfl) (Nat.le_of_ble_eq_true rfl) hx hb hr hlocks w2 hP1 hD1 hS1 [0] rfl (by decide) dL_send_6 ⟨by rw [if_pos hq.2.1]; exact hq.1, XN.of hq.2.2⟩
set_option maxHeartbeats 4000000 in
set_option maxRecDepth 100000 in
theorem c_L_undo (l : Launch) (D : va_G) (T : TI) (hl : l.stackTraces = false) {xa : Nat} {wb : va_W} {mm past : Nat → Int32} {kp : Nat} (hI : XN T xa wb mm past kp) : WI l yL_undo cL_undo 2 [(0, 4, 5, 15)] (rmD 8 2 12) D T [.ref xa] [wb] 2 12 (β := va_W) (fun u => [u]) (fun r u => r = (if (undoP mm past kp).2.1 = nI 0 then (undoP mm past kp).1 else -30) ∧ XN T xa u (undoP mm past kp).2.2.1 (undoP mm past kp).2.2.2.1 (undoP mm past kp).2.2.2.2) := by
  intro sz
  refine met_w (Qc := fun A => va_Qi _ (PST D _ A) A) (XC := fun A => XPS D _ _ A) rfl (Nat.le_of_ble_eq_true rfl) ?_
  intro pX eX sX mX bX mtX cX A hAe hC htb hST hA hP0 hD0 hS0 ls0 hl0 TG hTG
  clear hAe
  obtain ⟨hx, hb, hr, hml, hown, hts, hlocks, hin, hK2⟩ := hC
  have hown : sX.vm.findClass RL = some mX.cls := hown
  have htb : cX.exceptionTable.toList = [⟨0, 4, 5, 15⟩] := htb
  have hl0 : lv_has ls0 2 [(0, .ref xa)] := hl0
  refine lv_aload_n hx hb dL_undo_0 rfl (lv_at hl0 0 rfl) ?_
  obtain ⟨fs, hfs⟩ := hI.recv
  refine clx_i (br := []) (vx_runV (As := []) (rest := []) ⟨hx, hb, hml, hown, hts⟩ (d_X5_undo l D T hl hI (by omega) _) (mkV hts okX5_undo kw_503 kw_504 kw_505 ⟨rfl, rfl, Nat.le_of_ble_eq_true rfl, Nat.le_of_ble_eq_true rfl⟩) (pv_x hK2 hST hS0 hP0 hD0 (vA_c (br := []) hP0 hD0 hS0 hA (isR := []) (isC := [0]) rfl (by decide)) hfs (q := (RX5, TX5, 5)) rfl rfl) rfl rfl hl0.1 rfl (lv_room (Nat.le_of_ble_eq_true rfl)) dL_undo_1 ⟨Nat.le_of_ble_eq_true rfl, Nat.le_of_ble_eq_true rfl⟩) hP0 hD0 hS0 hA [] [0] rfl (by decide) (fun E ce q9 w2 Hx lx hqx hPx hDx hSx h1 h2 h3 => ?_) (fun r w2 H1 locs1 hq hP1 hD1 hS1 => ?_)
  · have hPx : va_P D vwCl (fl [w2]) Hx := hPx
    have hDx : va_D A (fl [w2]) := hDx
    obtain ⟨⟨rfl, e2⟩, hI2⟩ := hqx
    refine vx_catch (own := RL) (name := XIS) (E := XIS) hown [] ⟨0, 4, 5, 15⟩ [] htb (fun z hz => absurd hz List.not_mem_nil) (by decide) (by decide) (hts _ kw_458) (va_tabs rfl rfl hK2.2.2.2.2.1.2.2) h1 h2 h3 ?_
    refine lv_astore_n (pc := 5) (lv' := [(1, .ref q9), (0, .ref xa)]) hx hb dL_undo_5 rfl hl0 (by decide) rfl (fun ls2 hl2 => ?_)
    refine lv_bipush (v := (-30)) hx hb dL_undo_6 (by decide) ?_
    exact retx_i hTG (Nat.le_of_ble_eq_true rfl) (Nat.le_of_ble_eq_true rfl) hx hb hr hlocks w2 hPx hDx hSx [0] rfl (by decide) dL_undo_8 ⟨(if_neg (by rw [e2]; decide)).symm, XN.of hI2⟩
  · have hP1 : va_P D vwCl (fl [w2]) H1 := hP1
    have hD1 : va_D A (fl [w2]) := hD1
    exact retx_i hTG (Nat.le_of_ble_eq_true rfl) (Nat.le_of_ble_eq_true rfl) hx hb hr hlocks w2 hP1 hD1 hS1 [0] rfl (by decide) dL_undo_4 ⟨by rw [if_pos hq.2.1]; exact hq.1, XN.of hq.2.2⟩
