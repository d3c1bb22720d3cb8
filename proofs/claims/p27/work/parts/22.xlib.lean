/-! methods that return or throw -/
def PREX (D : va_G) (T : TI) (bs : List va_W) (sz : Nat) (U : State) : Prop := PRE D T bs sz U ∧ STA (va_A (fl bs) sz) U U.heap
abbrev XPS (D : va_G) {β : Type} (WX : β → List va_W) (QX : String → β → Prop) (A : Nat → Prop) : String → State → State → Prop := vx_X (fun _ : β => True) (fun E u t => QX E u ∧ va_P D vwCl (fl (WX u)) t.heap ∧ va_D A (fl (WX u))) A
def XV (l : Launch) (y : MethodName) (cc : ByteArray) (nL : Nat) (rm : Room) (D : va_G) (T : TI) (As : List Value) (bs : List va_W) (mc ms : Nat) {β βX : Type} (WS : β → List va_W) (Q : β → Prop) (WX : βX → List va_W) (QX : String → βX → Prop) : Prop := ∀ sz, vx_Met l y (.code y cc nL none :: W0) rm (va_Pc As (PREX D T bs sz)) (va_Qv Q (PST D WS (va_A (fl bs) sz)) (va_A (fl bs) sz)) (XPS D WX QX (va_A (fl bs) sz)) mc ms (va_A (fl bs) sz)
def XI (l : Launch) (y : MethodName) (cc : ByteArray) (nL : Nat) (rt : FieldType) (rm : Room) (D : va_G) (T : TI) (As : List Value) (bs : List va_W) (mc ms : Nat) {β βX : Type} (WS : β → List va_W) (Q : Int32 → β → Prop) (WX : βX → List va_W) (QX : String → βX → Prop) : Prop := ∀ sz, vx_Met l y (.code y cc nL (some rt) :: W0) rm (va_Pc As (PREX D T bs sz)) (va_Qi Q (PST D WS (va_A (fl bs) sz)) (va_A (fl bs) sz)) (XPS D WX QX (va_A (fl bs) sz)) mc ms (va_A (fl bs) sz)
def XL (l : Launch) (y : MethodName) (cc : ByteArray) (nL : Nat) (rm : Room) (D : va_G) (T : TI) (As : List Value) (bs : List va_W) (mc ms : Nat) {β βX : Type} (WS : β → List va_W) (Q : Int64 → β → Prop) (WX : βX → List va_W) (QX : String → βX → Prop) : Prop := ∀ sz, vx_Met l y (.code y cc nL (some .long) :: W0) rm (va_Pc As (PREX D T bs sz)) (va_Ql Q (PST D WS (va_A (fl bs) sz)) (va_A (fl bs) sz)) (XPS D WX QX (va_A (fl bs) sz)) mc ms (va_A (fl bs) sz)
section XCONTR
variable {l : Launch} {y : MethodName} {cc : ByteArray} {nL : Nat} {rm : Room} {D : va_G} {T : TI} {As : List Value} {bs : List va_W} {mc ms : Nat}
theorem met_x {ret : Option FieldType} {Qc : (Nat → Prop) → Array Value → State → Outcome → State → Prop} {XC : (Nat → Prop) → String → State → State → Prop} {sz : Nat} (hy : plainName y.cls = true) (hn : (lg_sl As).length ≤ nL)
    (body : ∀ {p : Program} {e : Env} {s : State} {m : MethodId} {below : List Frame} {meth : Method} {c : Code} (A : Nat → Prop), A = va_A (fl bs) s.heap.size → CX D T p s m As.toArray meth c cc nL y ret → (∀ x ∈ c.exceptionTable.toList, False) → STA A s s.heap → (∀ q, s.heap.size ≤ q → A q) → va_P D vwCl (fl bs) s.heap → va_D A (fl bs) → va_S A s.heap s.heap [] → ∀ ls, lv_has ls nL (lv_args 0 As) → ∀ TG : State → Prop, TG = vx_MQ below (Qc A) (XC A) As.toArray s mc ms A →
      W p l e rm s m As.toArray below meth c s.heap [] 0 0 TG (F0 m 0 ls [])) :
    vx_Met l y (.code y cc nL ret :: W0) rm (va_Pc As (PREX D T bs sz)) (Qc (va_A (fl bs) sz)) (XC (va_A (fl bs) sz)) mc ms (va_A (fl bs) sz) := by
  refine vx_ofW (cc := cc) (maxL := nL) (ret := ret) hy rfl ?_
  intro p e s m args below meth c s₁ B hml hout hv
  obtain ⟨rfl, ⟨hsz, hP, hK, hD0⟩, hST⟩ := hv
  subst hsz
  rw [lg_entry_eq]
  exact body (va_A (fl bs) s.heap.size) rfl (CX_of B hml hK) hout hST (fun q h => Or.inr h) hP hD0.self va_S.rf _ (lv_entry As hn) _ rfl
end XCONTR
section XENDS
variable {p : Program} {l : Launch} {e : Env} {R : Room} {s : State} {m : MethodId} {args : Array Value} {below : List Frame} {meth : Method} {c : Code} {H : Heap} {locs : List Loc} {cells slots : Nat} {cc : ByteArray} {pc : Nat} {ls : Array Slot} {rest : List Value}
variable {D : va_G} {T : TI} {A : Nat → Prop} {β βX : Type} {WS : β → List va_W} {WX : βX → List va_W} {QX : String → βX → Prop} {bs : List va_W} {TG : State → Prop} {mc ms : Nat}
theorem retx_v {Q : β → Prop} {XC : String → State → State → Prop} (hT : TG = vx_MQ below (va_Qv Q (PST D WS A) A) XC args s mc ms A) (hcl : cells ≤ mc) (hsl : slots ≤ ms) (hx : p.tables.exec = Jvm.exec) (hb : c.code = cc) (hr : meth.sig.returnType = none) (hlocks : meth.locks = false) (u : β) (hP : va_P D vwCl (fl bs) H) (hD : va_D A (fl bs)) (hS : va_S A s.heap H locs) (is : List Nat) (hs : is.map (fun i => bs[i]?) = (WS u).map some) (hn : va_nd is = true) (hdg : decode cc pc = .ok (.return_, 1)) (hu : Q u) : W p l e R s m args below meth c H locs cells slots TG (F0 m pc ls []) := by
  subst hT
  refine W.widen hcl hsl (vx_ret ?_)
  exact ret_v rfl (Nat.le_refl _) (Nat.le_refl _) hx hb hr hlocks u hP hD hS is hs hn hdg hu
theorem retx_i {Q : Int32 → β → Prop} {XC : String → State → State → Prop} {v : Int32} (hT : TG = vx_MQ below (va_Qi Q (PST D WS A) A) XC args s mc ms A) (hcl : cells ≤ mc) (hsl : slots ≤ ms) (hx : p.tables.exec = Jvm.exec) (hb : c.code = cc) (hr : meth.sig.returnType = (some .int)) (hlocks : meth.locks = false) (u : β) (hP : va_P D vwCl (fl bs) H) (hD : va_D A (fl bs)) (hS : va_S A s.heap H locs) (is : List Nat) (hs : is.map (fun i => bs[i]?) = (WS u).map some) (hn : va_nd is = true) (hdg : decode cc pc = .ok (.ireturn, 1)) (hu : Q v u) : W p l e R s m args below meth c H locs cells slots TG (F0 m pc ls [.int v]) := by
  subst hT
  refine W.widen hcl hsl (vx_ret ?_)
  exact ret_i rfl (Nat.le_refl _) (Nat.le_refl _) hx hb hr hlocks u hP hD hS is hs hn hdg hu
theorem retx_l {Q : Int64 → β → Prop} {XC : String → State → State → Prop} {v : Int64} (hT : TG = vx_MQ below (va_Ql Q (PST D WS A) A) XC args s mc ms A) (hcl : cells ≤ mc) (hsl : slots ≤ ms) (hx : p.tables.exec = Jvm.exec) (hb : c.code = cc) (hr : meth.sig.returnType = (some .long)) (hlocks : meth.locks = false) (u : β) (hP : va_P D vwCl (fl bs) H) (hD : va_D A (fl bs)) (hS : va_S A s.heap H locs) (is : List Nat) (hs : is.map (fun i => bs[i]?) = (WS u).map some) (hn : va_nd is = true) (hdg : decode cc pc = .ok (.lreturn, 1)) (hu : Q v u) : W p l e R s m args below meth c H locs cells slots TG (F0 m pc ls [.long v]) := by
  subst hT
  refine W.widen hcl hsl (vx_ret ?_)
  exact ret_l rfl (Nat.le_refl _) (Nat.le_refl _) hx hb hr hlocks u hP hD hS is hs hn hdg hu
/-- a throw that came out of a call goes on to the caller -/
theorem xout {Qc : Array Value → State → Outcome → State → Prop} {E : String} {ce : Cell} {q9 : Addr} (hT : TG = vx_MQ below Qc (XPS D WX QX A) args s mc ms A) (hout : ∀ x ∈ c.exceptionTable.toList, False) (hlocks : meth.locks = false) (hP : va_P D vwCl (fl bs) H) (hD : va_D A (fl bs)) (hS : va_S A s.heap H locs) (h1 : H[q9]? = some ce) (h2 : ce.vm = .none) (h3 : s.vm.findClass E = some ce.cls) (ux : βX) (is : List Nat) (hs : is.map (fun i => bs[i]?) = (WX ux).map some) (hn : va_nd is = true) (hcl : cells ≤ mc) (hsl : slots ≤ ms) (hq : QX E ux) : vx_W p l e R s m args below meth c H locs cells slots TG (F0 m pc ls rest) q9 := by
  subst hT
  exact vx_out (fun x hx => (hout x hx).elim) hlocks h1 h2 h3 (fun t ht _ => ⟨ux, trivial, ⟨hq, by rw [ht]; exact flP_sub hP is hs, flD_sub hD is hn hs⟩, hS.F ht⟩) hS.2.2 hcl hsl
def XNM : List String := ["java/lang/RuntimeException", "java/lang/Exception"]
theorem xhx {cls : String} (hP : va_P D vwCl (fl bs) H) (hD : va_D A (fl bs)) (hS : va_S A s.heap H locs) (ux : βX) (is : List Nat) (hs : is.map (fun i => bs[i]?) = (WX ux).map some) (hn : va_nd is = true) (hq : QX cls ux) : ∀ t : State, s.vm.Alike t.vm → H.size ≤ t.heap.size → (∀ q : Nat, q < H.size → t.heap[q]? = H[q]?) → XPS D WX QX A cls s t := by
  intro t _ hz hk
  refine ⟨ux, trivial, ⟨hq, ?_, flD_sub hD is hn hs⟩, Nat.le_trans hS.1 hz, fun q h1 h2 => ?_⟩
  · have h := flP_sub hP is hs
    exact h.kept (fun k q hq => hk q.1 ((h k q hq).lt))
  · rw [hk q (Nat.lt_of_lt_of_le h1 hS.1)]
    exact hS.2.1 q h1 h2
def xBW (cls : String) : List Cond := [Cond.castable cls cls, Cond.declares ⟨"java/lang/RuntimeException", "<init>", "(Ljava/lang/String;)V"⟩, Cond.declares ⟨"java/lang/Exception", "<init>", "(Ljava/lang/String;)V"⟩, Cond.declares ⟨"java/lang/Throwable", "<init>", "(Ljava/lang/String;)V"⟩]
theorem xhat {ic : Nat} {cls : String} (hts : ∀ w ∈ W0, w.before args s = true) (hc : (Cond.castable cls cls).before #[] s = true) (hd : ∀ n ∈ XCH, (Cond.declares ⟨n, "<init>", "(Ljava/lang/String;)V"⟩).before #[] s = true) (h1 : ∀ w ∈ (vx_atS RX5 ic cls XNM).filter goodWord, w ∈ W0) (h2 : ∀ w ∈ (vx_atS RX5 ic cls XNM).filter (fun w => !goodWord w), w ∈ xBW cls) : ∀ w ∈ vx_atS RX5 ic cls XNM, w.before args s = true :=
  vx_hat (fun w hw => hts w (h1 w hw)) h2 (fun w hw => by
    simp only [xBW, List.mem_cons, List.not_mem_nil, or_false] at hw
    rcases hw with rfl | rfl | rfl | rfl
    · exact va_tabs rfl rfl hc
    · exact va_tabs rfl rfl (hd "java/lang/RuntimeException" (by decide))
    · exact va_tabs rfl rfl (hd "java/lang/Exception" (by decide))
    · exact va_tabs rfl rfl (hd "java/lang/Throwable" (by decide)))
theorem thrS {Qc : Array Value → State → Outcome → State → Prop} {cls text : String} {ik is ic : Nat} (hl : l.stackTraces = false) (hT : TG = vx_MQ below Qc (XPS D WX QX A) args s mc ms A) (hexec : p.tables.exec = Jvm.exec) (hb : c.code = cc) (hown : s.vm.findClass RX5 = some m.cls) (hts : ∀ w ∈ W0, w.before args s = true) (hK : KN D T s) (hST : STA A s s.heap) (hout : ∀ x ∈ c.exceptionTable.toList, False) (hlocks : meth.locks = false) (hsize : ls.size = c.maxLocals)
    (hcls : Bundle.fit cls = true) (hk : Cond.classLink RX5 ik cls ∈ W0) (hini : Cond.initialized cls ∈ W0) (hc : (Cond.castable cls cls).before #[] s = true) (hst : (is, text) ∈ XST) (h1 : ∀ w ∈ (vx_atS RX5 ic cls XNM).filter goodWord, w ∈ W0) (h2 : ∀ w ∈ (vx_atS RX5 ic cls XNM).filter (fun w => !goodWord w), w ∈ xBW cls) (hg : ∀ w ∈ Cond.classLink RX5 ik cls :: Cond.initialized cls :: vx_atS RX5 ic cls XNM, vx_ot w = true)
    (d0 : decode cc pc = .ok (.new ik, 3)) (d3 : decode cc (pc + 3) = .ok (.dup, 1)) (d4 : decode cc (pc + 4) = .ok (.ldc is, 2)) (d6 : decode cc (pc + 6) = .ok (.invokespecial ic, 3)) (d9 : decode cc (pc + 9) = .ok (.athrow, 1))
    (hR : 5 < R.frames ∧ (rest.map fun v => v.category).sum + 82 ≤ R.locals ∧ cells + 1 ≤ R.cells ∧ slots + 6 ≤ R.slots) (hcm : cells + 1 ≤ mc) (hsm : slots + 6 ≤ ms) (hP : va_P D vwCl (fl bs) H) (hD : va_D A (fl bs)) (hS : va_S A s.heap H locs) (ux : βX) (js : List Nat) (hs : js.map (fun i => bs[i]?) = (WX ux).map some) (hn : va_nd js = true) (hq : QX cls ux) :
    W p l e R s m args below meth c H locs cells slots TG (F0 m pc ls rest) := by
  subst hT
  obtain ⟨sa, hsa⟩ := hK.2.2.2.2.2.2.1 _ hst
  exact vx_throwS (names := XNM) hexec hb hl hown hcls (by decide +kernel) (hts _ hk) (hts _ hini) hsa (xhat hts hc hK.2.2.2.2.2.2.2 h1 h2) hg hST.1 hST.2.1 hS hsize d0 d3 d4 d6 d9 (fun x hx => (hout x hx).elim) hR.1 hR.2.1 hR.2.2.1 hR.2.2.2 hlocks (xhx hP hD hS ux js hs hn hq) hS.2.2 hcm hsm
theorem thrW {Qc : Array Value → State → Outcome → State → Prop} {cls text : String} {ik is ic : Nat} (hl : l.stackTraces = false) (hT : TG = vx_MQ below Qc (XPS D WX QX A) args s mc ms A) (hexec : p.tables.exec = Jvm.exec) (hb : c.code = cc) (hown : s.vm.findClass RX5 = some m.cls) (hts : ∀ w ∈ W0, w.before args s = true) (hK : KN D T s) (hST : STA A s s.heap) (hout : ∀ x ∈ c.exceptionTable.toList, False) (hlocks : meth.locks = false) (hsize : ls.size = c.maxLocals)
    (hcls : Bundle.fit cls = true) (hk : Cond.classLink RX5 ik cls ∈ W0) (hini : Cond.initialized cls ∈ W0) (hc : (Cond.castable cls cls).before #[] s = true) (hst : (is, text) ∈ XST) (h1 : ∀ w ∈ (vx_atS RX5 ic cls XNM).filter goodWord, w ∈ W0) (h2 : ∀ w ∈ (vx_atS RX5 ic cls XNM).filter (fun w => !goodWord w), w ∈ xBW cls) (hg : ∀ w ∈ Cond.classLink RX5 ik cls :: Cond.initialized cls :: vx_atS RX5 ic cls XNM, vx_ot w = true)
    (d0 : decode cc pc = .ok (.new ik, 3)) (d3 : decode cc (pc + 3) = .ok (.dup, 1)) (d4 : decode cc (pc + 4) = .ok (.ldc_w is, 3)) (d7 : decode cc (pc + 7) = .ok (.invokespecial ic, 3)) (d10 : decode cc (pc + 10) = .ok (.athrow, 1))
    (hR : 5 < R.frames ∧ (rest.map fun v => v.category).sum + 82 ≤ R.locals ∧ cells + 1 ≤ R.cells ∧ slots + 6 ≤ R.slots) (hcm : cells + 1 ≤ mc) (hsm : slots + 6 ≤ ms) (hP : va_P D vwCl (fl bs) H) (hD : va_D A (fl bs)) (hS : va_S A s.heap H locs) (ux : βX) (js : List Nat) (hs : js.map (fun i => bs[i]?) = (WX ux).map some) (hn : va_nd js = true) (hq : QX cls ux) :
    W p l e R s m args below meth c H locs cells slots TG (F0 m pc ls rest) := by
  subst hT
  obtain ⟨sa, hsa⟩ := hK.2.2.2.2.2.2.1 _ hst
  exact vx_throwSW (names := XNM) hexec hb hl hown hcls (by decide +kernel) (hts _ hk) (hts _ hini) hsa (xhat hts hc hK.2.2.2.2.2.2.2 h1 h2) hg hST.1 hST.2.1 hS hsize d0 d3 d4 d7 d10 (fun x hx => (hout x hx).elim) hR.1 hR.2.1 hR.2.2.1 hR.2.2.2 hlocks (xhx hP hD hS ux js hs hn hq) hS.2.2 hcm hsm
end XENDS
theorem STA_call {A : Nat → Prop} {U : State} {g : JFrame} {mk : MethodId} {a : Array Value} (h : STA A U U.heap) : STA A (U.calling g mk a) (U.calling g mk a).heap :=
  STA.to (U := U.calling g mk a) (H := U.heap) (locs := []) h va_S.rf (Vm.Alike.refl U.vm) (fun _ h => h)
section XCALLS
variable {p : Program} {l : Launch} {e : Env} {R : Room} {s : State} {m : MethodId} {args : Array Value} {below : List Frame} {meth : Method} {c : Code} {H : Heap} {locs : List Loc} {cells slots : Nat} {Q : State → Prop} {cc : ByteArray} {pc : Nat} {ls : Array Slot} {rest st0 : List Value}
variable {D : va_G} {T : TI} {A : Nat → Prop} {β βX : Type} {WS : β → List va_W} {WX : βX → List va_W} {QX : String → βX → Prop} {bs bc br : List va_W} {a : Array Value} {mc ms : Nat} {As : List Value} {b : Nat}
theorem vA_part (hD2 : va_D A (fl br ++ fl bc)) (hz : ∀ q, H.size ≤ q → A q) : ∀ q, va_A (fl bc) H.size q → A q :=
  vA_sub ((vD_iff.mpr ⟨(List.nodup_append.mp (by rw [← List.map_append]; exact (vD_iff.mp hD2).1)).2.1, fun q hq => (vD_iff.mp hD2).2 q (List.mem_append_right _ hq)⟩)) hz
theorem vA_c (hP : va_P D vwCl (fl bs) H) (hD : va_D A (fl bs)) (hS : va_S A s.heap H locs) (hA : ∀ q, s.heap.size ≤ q → A q) {isR isC : List Nat} (hs : (isR ++ isC).map (fun i => bs[i]?) = (br ++ bc).map some) (hn : va_nd (isR ++ isC) = true) : ∀ q, va_A (fl bc) H.size q → A q :=
  vA_part (br := br) (behind hP hD hs hn).2 (fun q h => hA q (Nat.le_trans hS.1 h))
theorem blind_x {sz : Nat} : FrameBlind (va_Pc As (PREX D T bc sz)) := fun _ U _ _ q => ⟨q.1, ⟨q.2.1.1, q.2.1.2.1, q.2.1.2.2.1.call, q.2.1.2.2.2⟩, STA_call q.2.2⟩
theorem ps_x (hK : KN D T s) (hST : STA A s s.heap) (hS : va_S A s.heap H locs) (hP : va_P D vwCl (fl bc) H) (hD : va_D A (fl bc)) (hAc : ∀ q, va_A (fl bc) H.size q → A q) : PreS s H (va_Pc As (PREX D T bc H.size)) As :=
  ⟨blind_x, fun U hU hW => ⟨rfl, ⟨by rw [hU], by rw [hU]; exact hP, hK.warm hW, hD.weaken (fun _ _ _ _ => trivial)⟩, by rw [hU]; exact hST.to hS hW.alike hAc⟩⟩
theorem pv_x {C : String} {q0 ci : Nat} {q : vw_C} {fs : List Value} (hK : KN D T s) (hST : STA A s s.heap) (hS : va_S A s.heap H locs) (hP : va_P D vwCl (fl bc) H) (hD : va_D A (fl bc)) (hAc : ∀ q, va_A (fl bc) H.size q → A q) (he : (fl bc)[q0]? = some (b, .inr (ci, fs))) (hc : vwCl[ci]? = some q) (hC : q.1 = C) : PreV s H C b (va_Pc (.ref b :: As) (PREX D T bc H.size)) As :=
  ⟨blind_x, hC ▸ va_recv hK.1 hP hc he, fun U hU hW => ⟨rfl, ⟨by rw [hU], by rw [hU]; exact hP, hK.warm hW, hD.weaken (fun _ _ _ _ => trivial)⟩, by rw [hU]; exact hST.to hS hW.alike hAc⟩⟩
theorem clx_v {Qf : β → Prop} (hr : vx_Run p l e R s m args below meth c H locs cells slots mc ms (F0 m pc ls st0) rest (va_Qv Qf (PST D WS (va_A (fl bc) H.size)) (va_A (fl bc) H.size) a) (XPS D WX QX (va_A (fl bc) H.size)) (va_A (fl bc) H.size)) (hP : va_P D vwCl (fl bs) H) (hD : va_D A (fl bs)) (hS : va_S A s.heap H locs) (hA : ∀ q, s.heap.size ≤ q → A q) (isR isC : List Nat) (hs : (isR ++ isC).map (fun i => bs[i]?) = (br ++ bc).map some) (hn : va_nd (isR ++ isC) = true)
    (kx : ∀ (E : String) (ce : Cell) (q9 : Addr) (u : βX) (H1 : Heap) (locs1 : List Loc), QX E u → va_P D vwCl (fl (br ++ WX u)) H1 → va_D A (fl (br ++ WX u)) → va_S A s.heap H1 locs1 → H1[q9]? = some ce → ce.vm = .none → s.vm.findClass E = some ce.cls → vx_W p l e R s m args below meth c H1 locs1 (cells + mc) (slots + ms) Q (F0 m pc ls rest) q9)
    (kk : ∀ (u : β) (H1 : Heap) (locs1 : List Loc), Qf u → va_P D vwCl (fl (br ++ WS u)) H1 → va_D A (fl (br ++ WS u)) → va_S A s.heap H1 locs1 → W p l e R s m args below meth c H1 locs1 (cells + mc) (slots + ms) Q (F0 m (pc + 3) ls (rest))) : W p l e R s m args below meth c H locs cells slots Q (F0 m pc ls st0) := by
  obtain ⟨hP2, hD2⟩ := behind hP hD hs hn
  have hz : ∀ q, H.size ≤ q → A q := fun q h => hA q (Nat.le_trans hS.1 h)
  have hF := vA_part hD2 hz
  refine vx_callv hr hS (fun q _ h => hF q h) hF (fun q _ h => hF q h) (fun E ce q9 u t H1 locs1 ht _ _ hB _ hk hS1 h1 h2 h3 => ?_) (fun u t H1 locs1 ht _ hw hB _ hk hS1 => ?_)
  · obtain ⟨a1, a2⟩ := join2 hP2 hD2 hk hz (by rw [← ht]; exact hB.2.1) hB.2.2
    rw [← fl_app] at a1 a2
    exact kx E ce q9 u H1 locs1 hB.1 a1 a2 hS1 h1 h2 h3
  · obtain ⟨a1, a2⟩ := join2 hP2 hD2 hk hz (by rw [← ht]; exact hB.1) hB.2
    rw [← fl_app] at a1 a2
    exact kk u H1 locs1 hw a1 a2 hS1
theorem clx_i {Qf : Int32 → β → Prop} (hr : vx_Run p l e R s m args below meth c H locs cells slots mc ms (F0 m pc ls st0) rest (va_Qi Qf (PST D WS (va_A (fl bc) H.size)) (va_A (fl bc) H.size) a) (XPS D WX QX (va_A (fl bc) H.size)) (va_A (fl bc) H.size)) (hP : va_P D vwCl (fl bs) H) (hD : va_D A (fl bs)) (hS : va_S A s.heap H locs) (hA : ∀ q, s.heap.size ≤ q → A q) (isR isC : List Nat) (hs : (isR ++ isC).map (fun i => bs[i]?) = (br ++ bc).map some) (hn : va_nd (isR ++ isC) = true)
    (kx : ∀ (E : String) (ce : Cell) (q9 : Addr) (u : βX) (H1 : Heap) (locs1 : List Loc), QX E u → va_P D vwCl (fl (br ++ WX u)) H1 → va_D A (fl (br ++ WX u)) → va_S A s.heap H1 locs1 → H1[q9]? = some ce → ce.vm = .none → s.vm.findClass E = some ce.cls → vx_W p l e R s m args below meth c H1 locs1 (cells + mc) (slots + ms) Q (F0 m pc ls rest) q9)
    (kk : ∀ (r : Int32) (u : β) (H1 : Heap) (locs1 : List Loc), Qf r u → va_P D vwCl (fl (br ++ WS u)) H1 → va_D A (fl (br ++ WS u)) → va_S A s.heap H1 locs1 → W p l e R s m args below meth c H1 locs1 (cells + mc) (slots + ms) Q (F0 m (pc + 3) ls (.int r :: rest))) : W p l e R s m args below meth c H locs cells slots Q (F0 m pc ls st0) := by
  obtain ⟨hP2, hD2⟩ := behind hP hD hs hn
  have hz : ∀ q, H.size ≤ q → A q := fun q h => hA q (Nat.le_trans hS.1 h)
  have hF := vA_part hD2 hz
  refine vx_calli hr hS (fun q _ h => hF q h) hF (fun q _ h => hF q h) (fun E ce q9 u t H1 locs1 ht _ _ hB _ hk hS1 h1 h2 h3 => ?_) (fun r u t H1 locs1 ht _ hw hB _ hk hS1 => ?_)
  · obtain ⟨a1, a2⟩ := join2 hP2 hD2 hk hz (by rw [← ht]; exact hB.2.1) hB.2.2
    rw [← fl_app] at a1 a2
    exact kx E ce q9 u H1 locs1 hB.1 a1 a2 hS1 h1 h2 h3
  · obtain ⟨a1, a2⟩ := join2 hP2 hD2 hk hz (by rw [← ht]; exact hB.1) hB.2
    rw [← fl_app] at a1 a2
    exact kk r u H1 locs1 hw a1 a2 hS1
theorem clx_l {Qf : Int64 → β → Prop} (hr : vx_Run p l e R s m args below meth c H locs cells slots mc ms (F0 m pc ls st0) rest (va_Ql Qf (PST D WS (va_A (fl bc) H.size)) (va_A (fl bc) H.size) a) (XPS D WX QX (va_A (fl bc) H.size)) (va_A (fl bc) H.size)) (hP : va_P D vwCl (fl bs) H) (hD : va_D A (fl bs)) (hS : va_S A s.heap H locs) (hA : ∀ q, s.heap.size ≤ q → A q) (isR isC : List Nat) (hs : (isR ++ isC).map (fun i => bs[i]?) = (br ++ bc).map some) (hn : va_nd (isR ++ isC) = true)
    (kx : ∀ (E : String) (ce : Cell) (q9 : Addr) (u : βX) (H1 : Heap) (locs1 : List Loc), QX E u → va_P D vwCl (fl (br ++ WX u)) H1 → va_D A (fl (br ++ WX u)) → va_S A s.heap H1 locs1 → H1[q9]? = some ce → ce.vm = .none → s.vm.findClass E = some ce.cls → vx_W p l e R s m args below meth c H1 locs1 (cells + mc) (slots + ms) Q (F0 m pc ls rest) q9)
    (kk : ∀ (r : Int64) (u : β) (H1 : Heap) (locs1 : List Loc), Qf r u → va_P D vwCl (fl (br ++ WS u)) H1 → va_D A (fl (br ++ WS u)) → va_S A s.heap H1 locs1 → W p l e R s m args below meth c H1 locs1 (cells + mc) (slots + ms) Q (F0 m (pc + 3) ls (.long r :: rest))) : W p l e R s m args below meth c H locs cells slots Q (F0 m pc ls st0) := by
  obtain ⟨hP2, hD2⟩ := behind hP hD hs hn
  have hz : ∀ q, H.size ≤ q → A q := fun q h => hA q (Nat.le_trans hS.1 h)
  have hF := vA_part hD2 hz
  refine vx_calll hr hS (fun q _ h => hF q h) hF (fun q _ h => hF q h) (fun E ce q9 u t H1 locs1 ht _ _ hB _ hk hS1 h1 h2 h3 => ?_) (fun r u t H1 locs1 ht _ hw hB _ hk hS1 => ?_)
  · obtain ⟨a1, a2⟩ := join2 hP2 hD2 hk hz (by rw [← ht]; exact hB.2.1) hB.2.2
    rw [← fl_app] at a1 a2
    exact kx E ce q9 u H1 locs1 hB.1 a1 a2 hS1 h1 h2 h3
  · obtain ⟨a1, a2⟩ := join2 hP2 hD2 hk hz (by rw [← ht]; exact hB.1) hB.2
    rw [← fl_app] at a1 a2
    exact kk r u H1 locs1 hw a1 a2 hS1
end XCALLS
theorem xa_269 : ∀ w ∈ (vx_atS RX5 269 XIO XNM).filter goodWord, w ∈ W0 := by decide +kernel
theorem xb_269 : ∀ w ∈ (vx_atS RX5 269 XIO XNM).filter (fun w => !goodWord w), w ∈ xBW XIO := by decide +kernel
theorem xg_269 : ∀ w ∈ Cond.classLink RX5 265 XIO :: Cond.initialized XIO :: vx_atS RX5 269 XIO XNM, vx_ot w = true := by decide +kernel
theorem xa_130 : ∀ w ∈ (vx_atS RX5 130 XIA XNM).filter goodWord, w ∈ W0 := by decide +kernel
theorem xb_130 : ∀ w ∈ (vx_atS RX5 130 XIA XNM).filter (fun w => !goodWord w), w ∈ xBW XIA := by decide +kernel
theorem xg_130 : ∀ w ∈ Cond.classLink RX5 126 XIA :: Cond.initialized XIA :: vx_atS RX5 130 XIA XNM, vx_ot w = true := by decide +kernel
theorem xa_80 : ∀ w ∈ (vx_atS RX5 80 XIS XNM).filter goodWord, w ∈ W0 := by decide +kernel
theorem xb_80 : ∀ w ∈ (vx_atS RX5 80 XIS XNM).filter (fun w => !goodWord w), w ∈ xBW XIS := by decide +kernel
theorem xg_80 : ∀ w ∈ Cond.classLink RX5 76 XIS :: Cond.initialized XIS :: vx_atS RX5 80 XIS XNM, vx_ot w = true := by decide +kernel
def ixB (i : Int32) (n : Int32) : Bool := !decide (i < 0) && decide (i < n)
theorem ix_in {i : Int32} {n : Nat} (hn : n < 1000) : ixB i (nI (n + 1)) = inB i (nI 0) (nI n) := by
  unfold ixB inB
  congr 1
  have : (i < nI (n + 1)) ↔ ¬ nI n < i := by
    rw [Int32.lt_iff_toInt_lt, Int32.lt_iff_toInt_lt, nI_toInt (by omega), nI_toInt (by omega)]
    omega
  by_cases h : nI n < i
  · rw [decide_eq_true h, decide_eq_false (fun q => this.mp q h)]; rfl
  · rw [decide_eq_false h, decide_eq_true (this.mpr h)]; rfl
