def WI (l : Launch) (y : MethodName) (cc : ByteArray) (nL : Nat) (hh : List (Nat × Nat × Nat × Nat)) (rm : Room) (D : va_G) (T : TI) (As : List Value) (bs : List va_W) (mc ms : Nat) {β : Type} (WS : β → List va_W) (Q : Int32 → β → Prop) : Prop := ∀ sz, vx_Met l y (.codeWith y cc nL (some .int) hh :: W0) rm (va_Pc As (PREX D T bs sz)) (va_Qi Q (PST D WS (va_A (fl bs) sz)) (va_A (fl bs) sz)) (XPS D (fun _ : Unit => []) (fun _ _ => False) (va_A (fl bs) sz)) mc ms (va_A (fl bs) sz)
section WCONTR
variable {l : Launch} {y : MethodName} {cc : ByteArray} {nL : Nat} {rm : Room} {D : va_G} {T : TI} {As : List Value} {bs : List va_W} {mc ms : Nat}
theorem met_w {ret : Option FieldType} {hh : List (Nat × Nat × Nat × Nat)} {Qc : (Nat → Prop) → Array Value → State → Outcome → State → Prop} {XC : (Nat → Prop) → String → State → State → Prop} {sz : Nat} (hy : plainName y.cls = true) (hn : (lg_sl As).length ≤ nL)
    (body : ∀ {p : Program} {e : Env} {s : State} {m : MethodId} {below : List Frame} {meth : Method} {c : Code} (A : Nat → Prop), A = va_A (fl bs) s.heap.size → CX D T p s m As.toArray meth c cc nL y ret → c.exceptionTable.toList = tableOf hh → STA A s s.heap → (∀ q, s.heap.size ≤ q → A q) → va_P D vwCl (fl bs) s.heap → va_D A (fl bs) → va_S A s.heap s.heap [] → ∀ ls, lv_has ls nL (lv_args 0 As) → ∀ TG : State → Prop, TG = vx_MQ below (Qc A) (XC A) As.toArray s mc ms A →
      W p l e rm s m As.toArray below meth c s.heap [] 0 0 TG (F0 m 0 ls [])) :
    vx_Met l y (.codeWith y cc nL ret hh :: W0) rm (va_Pc As (PREX D T bs sz)) (Qc (va_A (fl bs) sz)) (XC (va_A (fl bs) sz)) mc ms (va_A (fl bs) sz) := by
  refine vx_ofWH (cc := cc) (maxL := nL) (ret := ret) (hh := hh) hy rfl ?_
  intro p e s m args below meth c s₁ B hml hv
  obtain ⟨rfl, ⟨hsz, hP, hK, hD0⟩, hST⟩ := hv
  subst hsz
  rw [lg_entry_eq]
  have h := atoms_spec (ws := .codeWith y cc nL ret hh :: W0) B.pre
  have htb := vx_table (x := y) B (h _ List.mem_cons_self)
  exact body (va_A (fl bs) s.heap.size) rfl ⟨B.exec, B.bytes, B.returns, hml, findClass_of_methodNamed B.named, fun w hw => h w (List.mem_cons_of_mem _ hw), B.notSynchronized, (name_of_methodNamed B.named B.method).1, hK⟩ htb hST (fun q h => Or.inr h) hP hD0.self va_S.rf _ (lv_entry As hn) _ rfl
end WCONTR
section RLONG
variable {p : Program} {l : Launch} {e : Env} {R : Room} {s : State} {m : MethodId} {args : Array Value} {below : List Frame} {meth : Method} {c : Code} {H H0 : Heap} {locs : List Loc} {cells slots : Nat} {Q : State → Prop} {cc : ByteArray} {pc : Nat} {ls : Array Slot} {rest : List Value} {D : va_G} {T : TI} {A : Nat → Prop} {ws : va_W} {a : Nat}
end RLONG