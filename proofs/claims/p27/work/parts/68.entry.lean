/-! the entry: what the tables and the start say -/
theorem arr_known {args : Array Value} {s : State} {ty : FieldType} (h : (Cond.arrayClass ty).before args s = true) : ∃ cA : ClassId, ArrOfT s cA ty ∧ s.vm.findClass ("[" ++ ty.toString) = some cA := by
  obtain ⟨c, k, comp, h1, h2, h3⟩ := Cond.arrayClass_spec h
  exact ⟨c, fun n z => ⟨fun k h => (by cases h), k, h2, comp, h3⟩, h1⟩
theorem arq_known {args : Array Value} {s : State} {C : String} (h : (Cond.arrayOver (.object C)).before args s = true) : ∃ cA : ClassId, ArrOfT s cA (.object C) ∧ va_RA s cA (.object C) := by
  obtain ⟨comp, c, k, h1, -, h2, h3, h4⟩ := Cond.arrayOver_spec h
  exact ⟨c, fun n z => ⟨fun k h => (by cases h), k, h2, comp, h3⟩, k, comp, h2, h3, h1, h4⟩
theorem eq_int {args : Array Value} {s : State} {t : Term} {z : Int32} (h : (Cond.eq t (.int z)).before args s = true) : t.eval args s none [] s = some (.int z) := by
  cases hv : t.eval args s none [] s with
  | none => simp [Cond.before, Cond.holds, Cond.value, hv] at h
  | some w =>
    have hz : (Term.int z).eval args s none [] s = some (.int z) := rfl
    simp only [Cond.before, Cond.holds, Cond.value, hv, hz] at h
    cases w <;> simp_all
theorem len_lt {args : Array Value} {s : State} {t : Term} {x : Value} (h : (Term.length t).eval args s none [] s = some x) : ∃ b cl, t.eval args s none [] s = some (.ref b) ∧ s.arrayAt? b = some cl ∧ x = .int cl.slots.size.toInt32 ∧ cl.slots.size < 2 ^ 31 := by
  obtain ⟨b, cl, h1, h2, h3⟩ := Term.length_spec h
  refine ⟨b, cl, h1, h2, h3, ?_⟩
  simp only [Term.eval, Option.bind_eq_bind, h1, h2, Option.bind_some] at h
  by_cases q : cl.slots.size < 2147483648
  · exact q
  · rw [if_neg q] at h; cases h
theorem st_int4 {n : Nat} (hn : n < 2 ^ 31) (h : (4 : Int32) = n.toInt32) : n = 4 := by
  have h1 := congrArg Int32.toInt h
  rw [show n.toInt32 = nI n from rfl, nI_toInt (by omega)] at h1
  have h2 : (4 : Int32).toInt = 4 := by decide
  omega
theorem sar_known {args : Array Value} {s : State} {A : Nat → Prop} {nm : String} {f : Nat → Int32} (hl : (Cond.laysStatic RX5 nm "[I").before args s = true) (hini : (Cond.initialized RX5).before args s = true) (ha : (Cond.arrayOf (.static RX5 nm "[I") .int).before args s = true) (h4 : (Cond.eq (.length (.static RX5 nm "[I")) (.int 4)).before args s = true) (he : ∀ j : Nat, j < 4 → (Cond.eq (.elem (.static RX5 nm "[I") (.int (Int32.ofNat j))) (.int (f j))).before args s = true) (hA : ∀ a : Nat, a < s.heap.size → ¬ A a) : ∃ b, va_Z RX5 nm "[I" (.ref b) A s s.heap ∧ va_X b 4 f s s.heap ∧ b < s.heap.size ∧ ¬ A b := by
  obtain ⟨a, cell, ht, hat, hv, hsm⟩ := len_lt (eq_int h4)
  obtain ⟨hcell, hkn, -, -⟩ := State.arrayAt?_spec hat
  obtain ⟨hof, -⟩ := Cond.arrayOf_spec ha ht hcell
  have hlt : a < s.heap.size := (Array.getElem?_eq_some_iff.mp hcell).1
  have hz : cell.slots.size = 4 := st_int4 hsm (Value.int.inj hv)
  refine ⟨a, va_Zof hl hini ht hA, ⟨cell, hcell, hof, hkn, hz, fun j hj => ?_⟩, hlt, hA a hlt⟩
  obtain ⟨a2, j2, cell2, ht2, hj2, hat2, -, hs⟩ := Term.elem_spec (eq_int (he j hj))
  cases ht.symm.trans ht2
  cases hat.symm.trans hat2
  have e : j2 = nI j := by
    have : (Term.int (Int32.ofNat j)).eval args s none [] s = some (.int (Int32.ofNat j)) := rfl
    cases this.symm.trans hj2
    rfl
  subst e
  rw [nIcl (by omega)] at hs
  exact hs
theorem str_known {args : Array Value} {s : State} {own tx : String} {k : Nat} (h1 : (Cond.stringRef own k tx).before args s = true) (h2 : (Cond.exactly (.string own k) "java/lang/String").before args s = true) : ∃ a, vk_R own k tx a s := by
  cases hv : (Term.string own k).eval args s none [] s with
  | none => simp [Cond.before, Cond.holds, Cond.value, hv] at h2
  | some w =>
    cases w with
    | ref a => exact ⟨a, vk_R.of h1 hv⟩
    | _ => cases hc : s.vm.findClass "java/lang/String" <;> simp [Cond.before, Cond.holds, Cond.value, hv, hc] at h2
theorem nws_0 : (Jvm.Cond.fieldLinkNest "HydrantRounds$State" (28 : Nat) "HydrantRounds" "FIRST_SETTINGS" "[I" "HydrantRounds") ∈ lw_tbl := List.mem_of_getElem? (i := 39) (by decide +kernel)
theorem nws_1 : (Jvm.Cond.fieldLinkNest "HydrantRounds$State" (80 : Nat) "HydrantRounds$Tour" "length" "I" "HydrantRounds") ∈ lw_tbl := List.mem_of_getElem? (i := 53) (by decide +kernel)
theorem nws_2 : (Jvm.Cond.fieldLinkNest "HydrantRounds" (87 : Nat) "HydrantRounds$Tour" "length" "I" "HydrantRounds") ∈ lw_tbl := List.mem_of_getElem? (i := 54) (by decide +kernel)
theorem nws_3 : (Jvm.Cond.fieldLinkNest "HydrantRounds" (52 : Nat) "HydrantRounds$State" "zonePressure" "[I" "HydrantRounds") ∈ lw_tbl := List.mem_of_getElem? (i := 63) (by decide +kernel)
theorem nws_4 : (Jvm.Cond.fieldLinkNest "HydrantRounds" (56 : Nat) "HydrantRounds$State" "valveOpen" "[Z" "HydrantRounds") ∈ lw_tbl := List.mem_of_getElem? (i := 65) (by decide +kernel)
theorem nws_5 : (Jvm.Cond.fieldLinkNest "HydrantRounds$Hour" (47 : Nat) "HydrantRounds$State" "settings" "[I" "HydrantRounds") ∈ lw_tbl := List.mem_of_getElem? (i := 67) (by decide +kernel)
theorem nws_6 : (Jvm.Cond.fieldLinkNest "HydrantRounds" (104 : Nat) "HydrantRounds$State" "settings" "[I" "HydrantRounds") ∈ lw_tbl := List.mem_of_getElem? (i := 68) (by decide +kernel)
theorem nws_7 : (Jvm.Cond.fieldLinkNest "HydrantRounds" (60 : Nat) "HydrantRounds$State" "dirtIn" "[I" "HydrantRounds") ∈ lw_tbl := List.mem_of_getElem? (i := 70) (by decide +kernel)
theorem nws_8 : (Jvm.Cond.fieldLinkNest "HydrantRounds$Hour" (97 : Nat) "HydrantRounds$State" "dirtIn" "[I" "HydrantRounds") ∈ lw_tbl := List.mem_of_getElem? (i := 71) (by decide +kernel)
theorem nws_9 : (Jvm.Cond.fieldLinkNest "HydrantRounds" (63 : Nat) "HydrantRounds$State" "takes" "[I" "HydrantRounds") ∈ lw_tbl := List.mem_of_getElem? (i := 73) (by decide +kernel)
theorem nws_10 : (Jvm.Cond.fieldLinkNest "HydrantRounds$Hour" (83 : Nat) "HydrantRounds$State" "takes" "[I" "HydrantRounds") ∈ lw_tbl := List.mem_of_getElem? (i := 74) (by decide +kernel)
theorem nws_11 : (Jvm.Cond.fieldLinkNest "HydrantRounds$Hour" (118 : Nat) "HydrantRounds$State" "wasBrown" "[Z" "HydrantRounds") ∈ lw_tbl := List.mem_of_getElem? (i := 76) (by decide +kernel)
theorem nws_12 : (Jvm.Cond.fieldLinkNest "HydrantRounds$Hour" (21 : Nat) "HydrantRounds$State" "complaints" "[I" "HydrantRounds") ∈ lw_tbl := List.mem_of_getElem? (i := 78) (by decide +kernel)
theorem nws_13 : (Jvm.Cond.fieldLinkNest "HydrantRounds" (162 : Nat) "HydrantRounds$State" "complaints" "[I" "HydrantRounds") ∈ lw_tbl := List.mem_of_getElem? (i := 79) (by decide +kernel)
theorem nws_14 : (Jvm.Cond.fieldLinkNest "HydrantRounds$Hour" (106 : Nat) "HydrantRounds$State" "flushed" "[I" "HydrantRounds") ∈ lw_tbl := List.mem_of_getElem? (i := 81) (by decide +kernel)
theorem nws_15 : (Jvm.Cond.fieldLinkNest "HydrantRounds" (165 : Nat) "HydrantRounds$State" "flushed" "[I" "HydrantRounds") ∈ lw_tbl := List.mem_of_getElem? (i := 82) (by decide +kernel)
theorem nws_16 : (Jvm.Cond.fieldLinkNest "HydrantRounds$Hour" (109 : Nat) "HydrantRounds$State" "openHours" "[I" "HydrantRounds") ∈ lw_tbl := List.mem_of_getElem? (i := 84) (by decide +kernel)
theorem nws_17 : (Jvm.Cond.fieldLinkNest "HydrantRounds" (168 : Nat) "HydrantRounds$State" "openHours" "[I" "HydrantRounds") ∈ lw_tbl := List.mem_of_getElem? (i := 85) (by decide +kernel)
theorem nws_18 : (Jvm.Cond.fieldLinkNest "HydrantRounds$Hour" (69 : Nat) "HydrantRounds$State" "tours" "[LHydrantRounds$Tour;" "HydrantRounds") ∈ lw_tbl := List.mem_of_getElem? (i := 87) (by decide +kernel)
theorem nws_19 : (Jvm.Cond.fieldLinkNest "HydrantRounds" (66 : Nat) "HydrantRounds$State" "tours" "[LHydrantRounds$Tour;" "HydrantRounds") ∈ lw_tbl := List.mem_of_getElem? (i := 88) (by decide +kernel)
theorem nws_20 : (Jvm.Cond.fieldLinkNest "HydrantRounds$Hour" (57 : Nat) "HydrantRounds$State" "hours" "I" "HydrantRounds") ∈ lw_tbl := List.mem_of_getElem? (i := 90) (by decide +kernel)
theorem nws_21 : (Jvm.Cond.fieldLinkNest "HydrantRounds" (173 : Nat) "HydrantRounds$State" "hours" "I" "HydrantRounds") ∈ lw_tbl := List.mem_of_getElem? (i := 91) (by decide +kernel)
theorem nws_22 : (Jvm.Cond.fieldLinkNest "HydrantRounds$Hour" (37 : Nat) "HydrantRounds$State" "waitedHours" "I" "HydrantRounds") ∈ lw_tbl := List.mem_of_getElem? (i := 93) (by decide +kernel)
theorem nws_23 : (Jvm.Cond.fieldLinkNest "HydrantRounds" (183 : Nat) "HydrantRounds$State" "waitedHours" "I" "HydrantRounds") ∈ lw_tbl := List.mem_of_getElem? (i := 94) (by decide +kernel)
theorem nws_24 : (Jvm.Cond.fieldLinkNest "HydrantRounds" (186 : Nat) "HydrantRounds$State" "lostDirt" "I" "HydrantRounds") ∈ lw_tbl := List.mem_of_getElem? (i := 96) (by decide +kernel)
theorem nws_25 : (Jvm.Cond.fieldLinkNest "HydrantRounds" (152 : Nat) "HydrantRounds$Hour" "drawn" "[I" "HydrantRounds") ∈ lw_tbl := List.mem_of_getElem? (i := 132) (by decide +kernel)
theorem nws_26 : (Jvm.Cond.fieldLinkNest "HydrantRounds" (192 : Nat) "HydrantRounds$Hour" "reasons" "[I" "HydrantRounds") ∈ lw_tbl := List.mem_of_getElem? (i := 134) (by decide +kernel)
theorem nws_27 : (Jvm.Cond.fieldLinkNest "HydrantRounds" (137 : Nat) "HydrantRounds$History" "kept" "I" "HydrantRounds") ∈ lw_tbl := List.mem_of_getElem? (i := 153) (by decide +kernel)
theorem nws_28 : (Jvm.Cond.methodLinkNest "HydrantRounds$Hour" (26 : Nat) ({ cls := "HydrantRounds", name := "sum", desc := "([I)I" } : Jvm.MethodName) "HydrantRounds") ∈ lw_tbl := List.mem_of_getElem? (i := 290) (by decide +kernel)
theorem nws_in : ∀ w ∈ NWS, w ∈ lw_tbl := List.forall_mem_cons.mpr ⟨nws_0, List.forall_mem_cons.mpr ⟨nws_1, List.forall_mem_cons.mpr ⟨nws_2, List.forall_mem_cons.mpr ⟨nws_3, List.forall_mem_cons.mpr ⟨nws_4, List.forall_mem_cons.mpr ⟨nws_5, List.forall_mem_cons.mpr ⟨nws_6, List.forall_mem_cons.mpr ⟨nws_7, List.forall_mem_cons.mpr ⟨nws_8, List.forall_mem_cons.mpr ⟨nws_9, List.forall_mem_cons.mpr ⟨nws_10, List.forall_mem_cons.mpr ⟨nws_11, List.forall_mem_cons.mpr ⟨nws_12, List.forall_mem_cons.mpr ⟨nws_13, List.forall_mem_cons.mpr ⟨nws_14, List.forall_mem_cons.mpr ⟨nws_15, List.forall_mem_cons.mpr ⟨nws_16, List.forall_mem_cons.mpr ⟨nws_17, List.forall_mem_cons.mpr ⟨nws_18, List.forall_mem_cons.mpr ⟨nws_19, List.forall_mem_cons.mpr ⟨nws_20, List.forall_mem_cons.mpr ⟨nws_21, List.forall_mem_cons.mpr ⟨nws_22, List.forall_mem_cons.mpr ⟨nws_23, List.forall_mem_cons.mpr ⟨nws_24, List.forall_mem_cons.mpr ⟨nws_25, List.forall_mem_cons.mpr ⟨nws_26, List.forall_mem_cons.mpr ⟨nws_27, List.forall_mem_cons.mpr ⟨nws_28, fun _ h => absurd h List.not_mem_nil⟩⟩⟩⟩⟩⟩⟩⟩⟩⟩⟩⟩⟩⟩⟩⟩⟩⟩⟩⟩⟩⟩⟩⟩⟩⟩⟩⟩⟩
theorem kc_IO : Cond.castable "java/lang/IndexOutOfBoundsException" "java/lang/IndexOutOfBoundsException" ∈ lw_tbl := List.mem_of_getElem? (i := 378) (by decide +kernel)
theorem kc_IA : Cond.castable "java/lang/IllegalArgumentException" "java/lang/IllegalArgumentException" ∈ lw_tbl := List.mem_of_getElem? (i := 203) (by decide +kernel)
theorem kc_IS : Cond.castable "java/lang/IllegalStateException" "java/lang/IllegalStateException" ∈ lw_tbl := List.mem_of_getElem? (i := 475) (by decide +kernel)
theorem kd_R : Cond.declares ⟨"java/lang/RuntimeException", "<init>", "(Ljava/lang/String;)V"⟩ ∈ lw_tbl := List.mem_of_getElem? (i := 205) (by decide +kernel)
theorem kd_E : Cond.declares ⟨"java/lang/Exception", "<init>", "(Ljava/lang/String;)V"⟩ ∈ lw_tbl := List.mem_of_getElem? (i := 207) (by decide +kernel)
theorem kd_T : Cond.declares ⟨"java/lang/Throwable", "<init>", "(Ljava/lang/String;)V"⟩ ∈ lw_tbl := List.mem_of_getElem? (i := 209) (by decide +kernel)
theorem kl_FIRST_SETTINGS : Cond.laysStatic "HydrantRounds" "FIRST_SETTINGS" "[I" ∈ lw_tbl := List.mem_of_getElem? (i := 40) (by decide +kernel)
theorem kl_LEAST_SETTINGS : Cond.laysStatic "HydrantRounds" "LEAST_SETTINGS" "[I" ∈ lw_tbl := List.mem_of_getElem? (i := 503) (by decide +kernel)
theorem kl_MOST_SETTINGS : Cond.laysStatic "HydrantRounds" "MOST_SETTINGS" "[I" ∈ lw_tbl := List.mem_of_getElem? (i := 505) (by decide +kernel)
theorem kl_U : Cond.laysStatic "java/lang/Throwable" "UNASSIGNED_STACK" "[Ljava/lang/StackTraceElement;" ∈ lw_tbl := List.mem_of_getElem? (i := 228) (by decide +kernel)
theorem kl_S : Cond.laysStatic "java/lang/Throwable" "SUPPRESSED_SENTINEL" "Ljava/util/List;" ∈ lw_tbl := List.mem_of_getElem? (i := 230) (by decide +kernel)
theorem ko_4 : Cond.arrayOver (.object "HydrantRounds$Tour") ∈ lw_tbl := List.mem_of_getElem? (i := 45) (by decide +kernel)
theorem ko_3 : Cond.arrayOver (.object "HydrantRounds$State") ∈ lw_tbl := List.mem_of_getElem? (i := 149) (by decide +kernel)
theorem ks_t270 : Cond.stringRef "HydrantRounds" 270 "out of range" ∈ lw_tbl := List.mem_of_getElem? (i := 242) (by decide +kernel)
theorem ks_t267 : Cond.stringRef "HydrantRounds" 267 "no such number" ∈ lw_tbl := List.mem_of_getElem? (i := 385) (by decide +kernel)
theorem ks_t78 : Cond.stringRef "HydrantRounds" 78 "the round is full" ∈ lw_tbl := List.mem_of_getElem? (i := 482) (by decide +kernel)
theorem ks_t140 : Cond.stringRef "HydrantRounds" 140 "no saved state" ∈ lw_tbl := List.mem_of_getElem? (i := 513) (by decide +kernel)
theorem ks_t171 : Cond.stringRef "HydrantRounds" 171 "no such place" ∈ lw_tbl := List.mem_of_getElem? (i := 429) (by decide +kernel)
set_option maxHeartbeats 4000000 in
set_option maxRecDepth 100000 in
theorem kn_start {s : State} {b : Nat} (hts0 : ∀ w ∈ lw_tbl, w.before #[Value.ref b] s = true) (hgv : (Jvm.Cond.and given_1 narrow_1).before #[Value.ref b] s = true) : ∃ (D : va_G) (T : TI), KN D T s ∧ STA (fun z => s.heap.size ≤ z) s s.heap := by
  have hts := W0_hts hts0
  have hn := flat_of_before _ hgv
  have hA : ∀ a : Nat, a < s.heap.size → ¬ (fun z => s.heap.size ≤ z) a := fun a h => Nat.not_le.mpr h
  obtain ⟨c0, iS0, hKn0⟩ := u_known (C := RX0) (T := TX0) (N := 2) (n := 2) hts in_X0 (hts _ kw_137)
  obtain ⟨c1, iS1, hKn1⟩ := u_known (C := RX1) (T := TX1) (N := 3) (n := 3) hts in_X1 (hts _ kw_119)
  obtain ⟨c2, iS2, hKn2⟩ := u_known (C := RX2) (T := TX2) (N := 4) (n := 4) hts in_X2 (hts _ kw_154)
  obtain ⟨c3, iS3, hKn3⟩ := u_known (C := RX3) (T := TX3) (N := 13) (n := 13) hts in_X3 (hts _ kw_25)
  obtain ⟨c4, iS4, hKn4⟩ := u_known (C := RX4) (T := TX4) (N := 2) (n := 2) hts in_X4 (hts _ kw_40)
  obtain ⟨c5, iS5, hKn5⟩ := u_known (C := RX5) (T := TX5) (N := 5) (n := 5) hts in_X5 (hts _ kw_17)
  obtain ⟨dC, dI, hKc⟩ : ∃ (dC : Nat → ClassId) (dI : Nat → Nat → Nat), ∀ (k : Nat) (q : vw_C), vwCl[k]? = some q → u_Kn s q.1 q.2.1 q.2.2 (dC k) (dI k) := by
    refine ⟨fun k => match k with | 0 => c0 | 1 => c1 | 2 => c2 | 3 => c3 | 4 => c4 | _ => c5, fun k => match k with | 0 => iS0 | 1 => iS1 | 2 => iS2 | 3 => iS3 | 4 => iS4 | _ => iS5, ?_⟩
    intro k q hq
    match k, hq with
    | 0, hq => cases hq; exact hKn0
    | 1, hq => cases hq; exact hKn1
    | 2, hq => cases hq; exact hKn2
    | 3, hq => cases hq; exact hKn3
    | 4, hq => cases hq; exact hKn4
    | 5, hq => cases hq; exact hKn5
    | k + 6, hq => simp [vwCl] at hq
  obtain ⟨t0, a0, b0⟩ := arr_known (hts _ kw_54)
  obtain ⟨t1, a1, b1⟩ := arr_known (hts _ kw_55)
  obtain ⟨t2, a2, b2⟩ := arq_known (hts0 _ ko_4)
  obtain ⟨t3, a3, b3⟩ := arq_known (hts0 _ ko_3)
  refine ⟨(dC, dI), fun k => match k with | 0 => t0 | 1 => t1 | 2 => t2 | _ => t3, ⟨⟨hKc, ?_⟩, fun w hw => va_Nw.of (by have := NWS_ok w hw; cases w <;> first | rfl | (simp [nestW] at this)) (hts0 w (nws_in w hw)), va_AO.of (hts0 _ ko_4), va_AO.of (hts0 _ ko_3), ?_⟩, ?_⟩
  · intro k q hq
    match k, hq with
    | 0, hq => cases hq; exact ⟨a0, b0⟩
    | 1, hq => cases hq; exact ⟨a1, b1⟩
    | 2, hq => cases hq; exact ⟨a2, b2⟩
    | 3, hq => cases hq; exact ⟨a3, b3⟩
    | k + 4, hq => simp [tysT] at hq
  · refine ⟨⟨va_tabs rfl rfl (hts0 _ kc_IO), va_tabs rfl rfl (hts0 _ kc_IA), va_tabs rfl rfl (hts0 _ kc_IS)⟩, ⟨trivial, trivial, trivial⟩, ?_, ?_⟩
    · exact List.forall_mem_cons.mpr ⟨str_known (hts0 _ ks_t270) (hn (Cond.exactly (.string "HydrantRounds" 270) "java/lang/String") (by decide +kernel)), List.forall_mem_cons.mpr ⟨str_known (hts0 _ ks_t267) (hn (Cond.exactly (.string "HydrantRounds" 267) "java/lang/String") (by decide +kernel)), List.forall_mem_cons.mpr ⟨str_known (hts0 _ ks_t78) (hn (Cond.exactly (.string "HydrantRounds" 78) "java/lang/String") (by decide +kernel)), List.forall_mem_cons.mpr ⟨str_known (hts0 _ ks_t78) (hn (Cond.exactly (.string "HydrantRounds" 78) "java/lang/String") (by decide +kernel)), List.forall_mem_cons.mpr ⟨str_known (hts0 _ ks_t78) (hn (Cond.exactly (.string "HydrantRounds" 78) "java/lang/String") (by decide +kernel)), List.forall_mem_cons.mpr ⟨str_known (hts0 _ ks_t140) (hn (Cond.exactly (.string "HydrantRounds" 140) "java/lang/String") (by decide +kernel)), List.forall_mem_cons.mpr ⟨str_known (hts0 _ ks_t171) (hn (Cond.exactly (.string "HydrantRounds" 171) "java/lang/String") (by decide +kernel)), fun _ h => absurd h List.not_mem_nil⟩⟩⟩⟩⟩⟩⟩
    · exact List.forall_mem_cons.mpr ⟨va_tabs rfl rfl (hts0 _ kd_R), List.forall_mem_cons.mpr ⟨va_tabs rfl rfl (hts0 _ kd_E), List.forall_mem_cons.mpr ⟨va_tabs rfl rfl (hts0 _ kd_T), fun _ h => absurd h List.not_mem_nil⟩⟩⟩
  · refine ⟨vx_Zqof (hts0 _ kl_U) (hts _ kw_9) (hn (Cond.isRef (.static "java/lang/Throwable" "UNASSIGNED_STACK" "[Ljava/lang/StackTraceElement;")) (by decide +kernel)) hA, vx_Zqof (hts0 _ kl_S) (hts _ kw_9) (hn (Cond.isRef (.static "java/lang/Throwable" "SUPPRESSED_SENTINEL" "Ljava/util/List;")) (by decide +kernel)) hA, ?_⟩
    exact List.forall_mem_cons.mpr ⟨sar_known (hts0 _ kl_FIRST_SETTINGS) (hts _ kw_1) (hn (Cond.arrayOf (.static "HydrantRounds" "FIRST_SETTINGS" "[I") .int) (by decide +kernel)) (hn (Cond.eq (.length (.static "HydrantRounds" "FIRST_SETTINGS" "[I")) (.int 4)) (by decide +kernel)) (fun j hj => by rcases (show j = 0 ∨ j = 1 ∨ j = 2 ∨ j = 3 by omega) with rfl | rfl | rfl | rfl <;> first | exact hn (Cond.eq (.elem (.static "HydrantRounds" "FIRST_SETTINGS" "[I") (.int 0)) (.int 20)) (by decide +kernel) | exact hn (Cond.eq (.elem (.static "HydrantRounds" "FIRST_SETTINGS" "[I") (.int 1)) (.int 15)) (by decide +kernel) | exact hn (Cond.eq (.elem (.static "HydrantRounds" "FIRST_SETTINGS" "[I") (.int 2)) (.int 2)) (by decide +kernel) | exact hn (Cond.eq (.elem (.static "HydrantRounds" "FIRST_SETTINGS" "[I") (.int 3)) (.int 1)) (by decide +kernel)) hA, List.forall_mem_cons.mpr ⟨sar_known (hts0 _ kl_LEAST_SETTINGS) (hts _ kw_1) (hn (Cond.arrayOf (.static "HydrantRounds" "LEAST_SETTINGS" "[I") .int) (by decide +kernel)) (hn (Cond.eq (.length (.static "HydrantRounds" "LEAST_SETTINGS" "[I")) (.int 4)) (by decide +kernel)) (fun j hj => by rcases (show j = 0 ∨ j = 1 ∨ j = 2 ∨ j = 3 by omega) with rfl | rfl | rfl | rfl <;> first | exact hn (Cond.eq (.elem (.static "HydrantRounds" "LEAST_SETTINGS" "[I") (.int 0)) (.int 0)) (by decide +kernel) | exact hn (Cond.eq (.elem (.static "HydrantRounds" "LEAST_SETTINGS" "[I") (.int 1)) (.int 0)) (by decide +kernel) | exact hn (Cond.eq (.elem (.static "HydrantRounds" "LEAST_SETTINGS" "[I") (.int 2)) (.int 1)) (by decide +kernel) | exact hn (Cond.eq (.elem (.static "HydrantRounds" "LEAST_SETTINGS" "[I") (.int 3)) (.int 0)) (by decide +kernel)) hA, List.forall_mem_cons.mpr ⟨sar_known (hts0 _ kl_MOST_SETTINGS) (hts _ kw_1) (hn (Cond.arrayOf (.static "HydrantRounds" "MOST_SETTINGS" "[I") .int) (by decide +kernel)) (hn (Cond.eq (.length (.static "HydrantRounds" "MOST_SETTINGS" "[I")) (.int 4)) (by decide +kernel)) (fun j hj => by rcases (show j = 0 ∨ j = 1 ∨ j = 2 ∨ j = 3 by omega) with rfl | rfl | rfl | rfl <;> first | exact hn (Cond.eq (.elem (.static "HydrantRounds" "MOST_SETTINGS" "[I") (.int 0)) (.int 99)) (by decide +kernel) | exact hn (Cond.eq (.elem (.static "HydrantRounds" "MOST_SETTINGS" "[I") (.int 1)) (.int 60)) (by decide +kernel) | exact hn (Cond.eq (.elem (.static "HydrantRounds" "MOST_SETTINGS" "[I") (.int 2)) (.int 9)) (by decide +kernel) | exact hn (Cond.eq (.elem (.static "HydrantRounds" "MOST_SETTINGS" "[I") (.int 3)) (.int 20)) (by decide +kernel)) hA, fun _ h => absurd h List.not_mem_nil⟩⟩⟩
