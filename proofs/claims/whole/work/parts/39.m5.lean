/-! a method that writes and gives a double; the bits of a double -/
def CD (l : Launch) (y : MethodName) (cc : ByteArray) (nL : Nat) (rm : Room) (D : va_G) (T : TI) (As : List Value) (bs : List va_W) (mc ms : Nat) {β : Type} (WS : β → List va_W) (Q : UInt64 → β → Prop) : Prop := ∀ sz, Met l y (.code y cc nL (some .double) :: W0) rm (va_Pc As (PRE D T bs sz)) (va_Qd Q (PST D WS (va_A (fl bs) sz)) (va_A (fl bs) sz)) mc ms (va_A (fl bs) sz)
section CDE
variable {p : Program} {l : Launch} {e : Env} {R : Room} {s : State} {m : MethodId} {args : Array Value} {below : List Frame} {meth : Method} {c : Code} {H : Heap} {locs : List Loc} {cells slots : Nat} {cc : ByteArray} {pc : Nat} {ls : Array Slot}
variable {D : va_G} {A : Nat → Prop} {β : Type} {WS : β → List va_W} {bs : List va_W}
theorem ret_d {Q : UInt64 → β → Prop} {v : UInt64} {TG : State → Prop} {mc ms : Nat} (hT : TG = MQ below (va_Qd Q (PST D WS A) A) args s mc ms A) (hcl : cells ≤ mc) (hsl : slots ≤ ms) (hx : p.tables.exec = Jvm.exec) (hb : c.code = cc) (hr : meth.sig.returnType = some .double) (hlocks : meth.locks = false) (u : β) (hP : va_P D vwCl (fl bs) H) (hD : va_D A (fl bs)) (hS : va_S A s.heap H locs) (is : List Nat) (hs : is.map (fun i => bs[i]?) = (WS u).map some) (hn : va_nd is = true) (hdg : decode cc pc = .ok (.dreturn, 1)) (hu : Q v u) : W p l e R s m args below meth c H locs cells slots TG (F0 m pc ls [.double v]) := by
  subst hT
  exact W.widen hcl hsl (W.dret hx hb hr (fun t ht _ => ⟨⟨v, u, rfl, hu, by rw [ht]; exact flP_sub hP is hs, flD_sub hD is hn hs⟩, hS.F ht⟩) hS.2.2 hdg hlocks)
end CDE
section CDC
variable {p : Program} {l : Launch} {e : Env} {R : Room} {s : State} {m : MethodId} {args : Array Value} {below : List Frame} {meth : Method} {c : Code} {H H0 : Heap} {locs : List Loc} {cells slots : Nat} {Q : State → Prop} {cc : ByteArray} {pc : Nat} {ls : Array Slot} {rest st0 : List Value}
variable {D : va_G} {T : TI} {A : Nat → Prop} {β : Type} {WS : β → List va_W} {bs bc br : List va_W} {a : Array Value} {mc ms n index maxL : Nat} {own : String} {y : MethodName} {bytes : ByteArray} {ret : Option FieldType} {rm : Room} {As : List Value} {b : Nat}
theorem cl_d {Qf : UInt64 → β → Prop} (hr : va_Run p l e R s m args below meth c H locs cells slots mc ms (F0 m pc ls st0) rest (va_Qd Qf (PST D WS (va_A (fl bc) H.size)) (va_A (fl bc) H.size) a) (va_A (fl bc) H.size)) (hP : va_P D vwCl (fl bs) H) (hD : va_D A (fl bs)) (hS : va_S A H0 H locs) (hA : ∀ q, H0.size ≤ q → A q) (isR isC : List Nat) (hs : (isR ++ isC).map (fun i => bs[i]?) = (br ++ bc).map some) (hn : va_nd (isR ++ isC) = true)
    (kk : ∀ (r : UInt64) (u : β) (H1 : Heap) (locs1 : List Loc), Qf r u → va_P D vwCl (fl (br ++ WS u)) H1 → va_D A (fl (br ++ WS u)) → va_S A H0 H1 locs1 → W p l e R s m args below meth c H1 locs1 (cells + mc) (slots + ms) Q (F0 m (pc + 3) ls (.double r :: rest))) : W p l e R s m args below meth c H locs cells slots Q (F0 m pc ls st0) := by
  obtain ⟨hP2, hD2⟩ := behind hP hD hs hn
  have hz : ∀ q, H.size ≤ q → A q := fun q h => hA q (Nat.le_trans hS.1 h)
  have hF : ∀ q, va_A (fl bc) H.size q → A q := vA_sub ((vD_iff.mpr ⟨(List.nodup_append.mp (by rw [← List.map_append]; exact (vD_iff.mp hD2).1)).2.1, fun q hq => (vD_iff.mp hD2).2 q (List.mem_append_right _ hq)⟩)) hz
  refine va_calld hr hS (fun q _ h => hF q h) hF (fun r u t H1 locs1 ht _ hw hB _ hk hS1 => ?_)
  obtain ⟨a1, a2⟩ := join2 hP2 hD2 hk hz (by rw [← ht]; exact hB.1) hB.2
  rw [← fl_app] at a1 a2
  exact kk r u H1 locs1 hw a1 a2 hS1
end CDC
set_option maxHeartbeats 4000000 in
set_option maxRecDepth 100000 in
theorem c_isNaN (l : Launch) (D : va_G) (T : TI) (x : UInt64) (hn : Op.cmpValue (FP.dcmp x x) .l = nI 0) : OI l yJxe99ae_isNaN_b9ae7 cJxe99ae_isNaN_b9ae7 2 .boolean (rmD 0 0 0) D T [.double x] [] (fun r => r = bI false) := by
  refine met_ro rfl (Nat.le_of_ble_eq_true rfl) ?_
  intro pX eX sX mX bX mtX cX hC hP0 hS0 ls0 hl0 TG hTG
  obtain ⟨hx, hb, hr, hml, hown, hts, hlocks, hin, hK⟩ := hC
  have hl0 : lv_has ls0 2 [(0, .double x)] := hl0
  refine lv_dload_n hx hb dJxe99ae_isNaN_b9ae7_0 rfl (lv_at hl0 0 rfl) ?_
  refine lv_dload_n hx hb dJxe99ae_isNaN_b9ae7_1 rfl (lv_at hl0 0 rfl) ?_
  refine lv_dcmp hx hb dJxe99ae_isNaN_b9ae7_2 ?_
  refine tp_i (y := nI 0) hn ?_
  refine lv_if_eq (tgt := 10) hx hb dJxe99ae_isNaN_b9ae7_3 (by decide) (fun c_3 => ?_) (fun c_3 => absurd (by decide) c_3)
  refine lv_iconst (v := nI 0) hx hb dJxe99ae_isNaN_b9ae7_10 (by decide) ?_
  exact ro_z (b := false) rfl hTG (Nat.le_refl _) (Nat.le_refl _) hx hb hr hlocks hS0 dJxe99ae_isNaN_b9ae7_11 rfl
set_option maxHeartbeats 4000000 in
set_option maxRecDepth 100000 in
theorem c_d2lb (l : Launch) (D : va_G) (T : TI) (x : UInt64) (hn : Op.cmpValue (FP.dcmp x x) .l = nI 0) : OL l yJxe99ae_doubleToLongBits_ccdee cJxe99ae_doubleToLongBits_ccdee 2 (rmD 1 0 0) D T [.double x] [] (fun r => r = x.toInt64) := by
  refine met_ro rfl (Nat.le_of_ble_eq_true rfl) ?_
  intro pX eX sX mX bX mtX cX hC hP0 hS0 ls0 hl0 TG hTG
  obtain ⟨hx, hb, hr, hml, hown, hts, hlocks, hin, hK⟩ := hC
  have hown : sX.vm.findClass RJxe99ae = some mX.cls := hown
  have hl0 : lv_has ls0 2 [(0, .double x)] := hl0
  refine lv_dload_n hx hb dJxe99ae_doubleToLongBits_ccdee_0 rfl (lv_at hl0 0 rfl) ?_
  have hPc1 : va_P D vwCl (fl []) _ := hP0.sub [] rfl
  refine cr_i (va_runS (As := [.double x]) (rest := []) ⟨hx, hb, hml, hown, hts⟩ (c_isNaN l D T x hn) (mkS hts okJxe99ae_isNaN_b9ae7 kw_925 kw_926 ⟨rfl, rfl, Nat.le_of_ble_eq_true rfl, Nat.le_of_ble_eq_true rfl⟩) (ps_ro hK hPc1) rfl rfl hl0.1 rfl (lv_room (Nat.le_of_ble_eq_true rfl)) dJxe99ae_doubleToLongBits_ccdee_1 ⟨Nat.le_of_ble_eq_true rfl, Nat.le_of_ble_eq_true rfl⟩) hP0 hS0 (fun r_1 H2 locs2 hq_1 hP2 hS2 => ?_)
  subst hq_1
  refine z_if_ne (tgt := 12) hx hb dJxe99ae_doubleToLongBits_ccdee_4 (by decide) (fun c_4 => absurd c_4 (by decide)) (fun c_4 => ?_)
  refine lv_dload_n hx hb dJxe99ae_doubleToLongBits_ccdee_7 rfl (lv_at hl0 0 rfl) ?_
  refine vn_d2l hx hb (by rw [hml]; exact hl0.1.symm) hown (hts _ kw_928) (hts _ kw_930) (hts _ kw_929) (hts _ kw_18) (Nat.le_of_ble_eq_true rfl) (Nat.le_of_ble_eq_true rfl) dJxe99ae_doubleToLongBits_ccdee_8 ?_
  exact ro_l hTG (Nat.le_refl _) (Nat.le_refl _) hx hb hr hlocks hS2 dJxe99ae_doubleToLongBits_ccdee_11 rfl
theorem shareD_nn : ∀ n, n < 13 → Op.cmpValue (FP.dcmp (shareD n) (shareD n)) .l = nI 0 := by decide +kernel
set_option maxHeartbeats 4000000 in
set_option maxRecDepth 100000 in
theorem c_X6_thrown (l : Launch) (D : va_G) (T : TI) (q : Nat → Nat) (kp : Nat) (ty : Nat) (th : Int32) (at_ : Nat) (isF : Bool) (op : Int32)  : OI l yX6_thrown cX6_thrown 1 .int (rmD 0 0 0) D T [.ref (q 0)] [mO q (nI kp) (nI ty) th (nI at_) isF op] (fun r => r = th) := by
  refine met_ro rfl (Nat.le_of_ble_eq_true rfl) ?_
  intro pX eX sX mX bX mtX cX hC hP0 hS0 ls0 hl0 TG hTG
  obtain ⟨hx, hb, hr, hml, hown, hts, hlocks, hin, hK⟩ := hC
  have hown : sX.vm.findClass RX6 = some mX.cls := hown
  have hl0 : lv_has ls0 1 [(0, .ref (q 0))] := hl0
  refine lv_aload_n hx hb dX6_thrown_0 rfl (lv_at hl0 0 rfl) ?_
  refine r_get (own := RX6) (C := RX6) (F := TX6) (N := 12) (ci := 6) (v := .int th) hx hb hK hts in_X6 hown hP0 0 rfl rfl 6 (by decide) kw_676 rfl dX6_thrown_1 ?_
  refine ro_i hTG (Nat.le_refl _) (Nat.le_refl _) hx hb hr hlocks hS0 dX6_thrown_4 ?_
  first | rfl | trivial
set_option maxHeartbeats 4000000 in
set_option maxRecDepth 100000 in
theorem c_X6_cleanShare (l : Launch) (D : va_G) (T : TI) (q : Nat → Nat) (kp : Nat) (ty : Nat) (th : Int32) (at_ : Nat) (isF : Bool) (op : Int32) (now : Nat → Int32)  : CD l yX6_cleanShare cX6_cleanShare 1 (rmD 4 0 0) D T [.ref (q 0)] [mO q (nI kp) (nI ty) th (nI at_) isF op, aW T 0 (q 1) 111 now] 0 0 (β := Int32) (fun (th2 : Int32) => [mO q (nI kp) (nI ty) th2 (nI at_) isF op, aW T 0 (q 1) 111 now]) (fun (r : UInt64) (th2 : Int32) => r = shareD (12 - brNM now 12) ∧ (th2 = nI 0)) := by
  intro sz
  refine met_rw (Qc := fun A => va_Qd _ (PST D _ A) A) rfl (Nat.le_of_ble_eq_true rfl) ?_
  intro pX eX sX mX bX mtX cX A hAe hC hA hP0 hD0 hS0 ls0 hl0 TG hTG
  clear hAe
  obtain ⟨hx, hb, hr, hml, hown, hts, hlocks, hin, hK⟩ := hC
  have hown : sX.vm.findClass RX6 = some mX.cls := hown
  have hl0 : lv_has ls0 1 [(0, .ref (q 0))] := hl0
  refine lv_aload_n hx hb dX6_cleanShare_0 rfl (lv_at hl0 0 rfl) ?_
  refine lv_iconst (v := nI 0) hx hb dX6_cleanShare_1 (by decide) ?_
  refine r_put (own := RX6) (C := RX6) (F := TX6) (N := 12) (ci := 6) (v := nI 0) hx hb hK hts in_X6 tyX6 tyX6_ok nmX6 hown hP0 hD0 hS0 0 rfl rfl 6 (by decide) kw_676 rfl rfl (Nat.le_of_ble_eq_true rfl) dX6_cleanShare_2 (fun (H1 : Heap) (locs1 : List Loc) (hP1 : va_P D vwCl (fl [mO q (nI kp) (nI ty) (nI 0) (nI at_) isF op, aW T 0 (q 1) 111 now]) H1) (hD1 : va_D A (fl [mO q (nI kp) (nI ty) (nI 0) (nI at_) isF op, aW T 0 (q 1) 111 now])) hS1 => ?_)
  clear hP0 hD0 hS0
  refine lv_aload_n hx hb dX6_cleanShare_5 rfl (lv_at hl0 0 rfl) ?_
  have hPc2 : va_P D vwCl (fl [mO q (nI kp) (nI ty) (nI 0) (nI at_) isF op, aW T 0 (q 1) 111 now]) _ := hP1.sub [0, 1] rfl
  refine cr_d (va_runV (As := []) (rest := []) ⟨hx, hb, hml, hown, hts⟩ (c_X6_share l D T q kp ty (nI 0) at_ isF op now ) (mkV hts okX6_share kw_911 kw_913 ks_27 ⟨rfl, rfl, Nat.le_of_ble_eq_true rfl, Nat.le_of_ble_eq_true rfl⟩) (pv_ro hK hPc2 (q0 := 0) rfl rfl rfl) rfl rfl hl0.1 rfl (lv_room (Nat.le_of_ble_eq_true rfl)) dX6_cleanShare_6 ⟨Nat.le_of_ble_eq_true rfl, Nat.le_of_ble_eq_true rfl⟩) hP1 hS1 (fun r_6 H3 locs3 hq_6 hP3 hS3 => ?_)
  clear hP1 hS1 hPc2
  have hD3 := hD1
  clear hD1
  have hq_6 : r_6 = shareD (12 - brNM now 12) := hq_6
  subst hq_6
  refine ret_d hTG (Nat.le_refl _) (Nat.le_refl _) hx hb hr hlocks (((nI 0))) hP3 hD3 hS3 [0, 1] rfl (by decide) dX6_cleanShare_9 ?_
  first | rfl | trivial
