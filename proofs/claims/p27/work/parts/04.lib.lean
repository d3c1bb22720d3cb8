/-! words: all good words of the tables in one list, and every contract stands over it -/
def W0 : List Cond := lw_tbl.filter goodWord
theorem W0_in {w : Cond} (h : w ∈ lw_tbl) (g : goodWord w = true) : w ∈ W0 := List.mem_filter.mpr ⟨h, g⟩
theorem W0_hts {args : Array Value} {s : State} (h : ∀ w ∈ lw_tbl, w.before args s = true) : ∀ w ∈ W0, w.before args s = true := fun w hw => h w (List.mem_filter.mp hw).1
theorem W0_good {w : Cond} (h : w ∈ W0) : (w.onTables && w.keeps) = true ∨ ∃ ty, w = .arrayClass ty := good_of_word (List.mem_filter.mp h).2
theorem gW0 {c : Cond} (hc : c ∈ W0) : GoodIn W0 (c :: W0) := fun w hw => (List.mem_cons.mp hw).elim (fun e => e ▸ ⟨hc, W0_good hc⟩) (fun h => ⟨h, W0_good h⟩)
def nestW : Cond → Bool
  | .fieldLinkNest _ _ _ _ _ _ => true
  | .methodLinkNest _ _ _ _ => true
  | _ => false
def NWS : List Cond := [(Jvm.Cond.fieldLinkNest "HydrantRounds$State" (28 : Nat) "HydrantRounds" "FIRST_SETTINGS" "[I" "HydrantRounds"), (Jvm.Cond.fieldLinkNest "HydrantRounds$State" (80 : Nat) "HydrantRounds$Tour" "length" "I" "HydrantRounds"), (Jvm.Cond.fieldLinkNest "HydrantRounds" (87 : Nat) "HydrantRounds$Tour" "length" "I" "HydrantRounds"), (Jvm.Cond.fieldLinkNest "HydrantRounds" (52 : Nat) "HydrantRounds$State" "zonePressure" "[I" "HydrantRounds"), (Jvm.Cond.fieldLinkNest "HydrantRounds" (56 : Nat) "HydrantRounds$State" "valveOpen" "[Z" "HydrantRounds"), (Jvm.Cond.fieldLinkNest "HydrantRounds$Hour" (47 : Nat) "HydrantRounds$State" "settings" "[I" "HydrantRounds"), (Jvm.Cond.fieldLinkNest "HydrantRounds" (104 : Nat) "HydrantRounds$State" "settings" "[I" "HydrantRounds"), (Jvm.Cond.fieldLinkNest "HydrantRounds" (60 : Nat) "HydrantRounds$State" "dirtIn" "[I" "HydrantRounds"), (Jvm.Cond.fieldLinkNest "HydrantRounds$Hour" (97 : Nat) "HydrantRounds$State" "dirtIn" "[I" "HydrantRounds"), (Jvm.Cond.fieldLinkNest "HydrantRounds" (63 : Nat) "HydrantRounds$State" "takes" "[I" "HydrantRounds"), (Jvm.Cond.fieldLinkNest "HydrantRounds$Hour" (83 : Nat) "HydrantRounds$State" "takes" "[I" "HydrantRounds"), (Jvm.Cond.fieldLinkNest "HydrantRounds$Hour" (118 : Nat) "HydrantRounds$State" "wasBrown" "[Z" "HydrantRounds"), (Jvm.Cond.fieldLinkNest "HydrantRounds$Hour" (21 : Nat) "HydrantRounds$State" "complaints" "[I" "HydrantRounds"), (Jvm.Cond.fieldLinkNest "HydrantRounds" (162 : Nat) "HydrantRounds$State" "complaints" "[I" "HydrantRounds"), (Jvm.Cond.fieldLinkNest "HydrantRounds$Hour" (106 : Nat) "HydrantRounds$State" "flushed" "[I" "HydrantRounds"), (Jvm.Cond.fieldLinkNest "HydrantRounds" (165 : Nat) "HydrantRounds$State" "flushed" "[I" "HydrantRounds"), (Jvm.Cond.fieldLinkNest "HydrantRounds$Hour" (109 : Nat) "HydrantRounds$State" "openHours" "[I" "HydrantRounds"), (Jvm.Cond.fieldLinkNest "HydrantRounds" (168 : Nat) "HydrantRounds$State" "openHours" "[I" "HydrantRounds"), (Jvm.Cond.fieldLinkNest "HydrantRounds$Hour" (69 : Nat) "HydrantRounds$State" "tours" "[LHydrantRounds$Tour;" "HydrantRounds"), (Jvm.Cond.fieldLinkNest "HydrantRounds" (66 : Nat) "HydrantRounds$State" "tours" "[LHydrantRounds$Tour;" "HydrantRounds"), (Jvm.Cond.fieldLinkNest "HydrantRounds$Hour" (57 : Nat) "HydrantRounds$State" "hours" "I" "HydrantRounds"), (Jvm.Cond.fieldLinkNest "HydrantRounds" (173 : Nat) "HydrantRounds$State" "hours" "I" "HydrantRounds"), (Jvm.Cond.fieldLinkNest "HydrantRounds$Hour" (37 : Nat) "HydrantRounds$State" "waitedHours" "I" "HydrantRounds"), (Jvm.Cond.fieldLinkNest "HydrantRounds" (183 : Nat) "HydrantRounds$State" "waitedHours" "I" "HydrantRounds"), (Jvm.Cond.fieldLinkNest "HydrantRounds" (186 : Nat) "HydrantRounds$State" "lostDirt" "I" "HydrantRounds"), (Jvm.Cond.fieldLinkNest "HydrantRounds" (152 : Nat) "HydrantRounds$Hour" "drawn" "[I" "HydrantRounds"), (Jvm.Cond.fieldLinkNest "HydrantRounds" (192 : Nat) "HydrantRounds$Hour" "reasons" "[I" "HydrantRounds"), (Jvm.Cond.fieldLinkNest "HydrantRounds" (137 : Nat) "HydrantRounds$History" "kept" "I" "HydrantRounds"), (Jvm.Cond.methodLinkNest "HydrantRounds$Hour" (26 : Nat) ({ cls := "HydrantRounds", name := "sum", desc := "([I)I" } : Jvm.MethodName) "HydrantRounds")]
theorem NWS_ok : ∀ w ∈ NWS, nestW w = true := List.all_eq_true.mp (by decide +kernel)
theorem NW_warm {s U : State} (hW : s.WarmedH U.vm) (h : ∀ w ∈ NWS, va_Nw w s) : ∀ w ∈ NWS, va_Nw w U := by
  intro w hw
  have h1 := h w hw
  have h2 := NWS_ok w hw
  cases w <;> first | exact va_Nw.warmF hW h1 | exact va_Nw.warmM hW h1 | (simp [nestW] at h2)
theorem NW_same {u U : State} (e : u.vm = U.vm) (h : ∀ w ∈ NWS, va_Nw w u) : ∀ w ∈ NWS, va_Nw w U := by
  intro w hw
  have h1 := h w hw
  have h2 := NWS_ok w hw
  cases w <;> first | exact va_Nw.same rfl e h1 | (simp [nestW] at h2)
/-- the array classes -/
abbrev TI : Type := Nat → ClassId
def tysT (T : TI) : List (ClassId × FieldType) := [(T 0, .int), (T 1, .boolean), (T 2, .object RX4), (T 3, .object RX3)]
def XIO : String := "java/lang/IndexOutOfBoundsException"
def XIA : String := "java/lang/IllegalArgumentException"
def XIS : String := "java/lang/IllegalStateException"
def XCH : List String := ["java/lang/RuntimeException", "java/lang/Exception", "java/lang/Throwable"]
def XST : List (Nat × String) := [(270, "out of range"), (267, "no such number"), (78, "the round is full"), (78, "the round is full"), (78, "the round is full"), (140, "no saved state"), (171, "no such place")]
/-- what is known of the exceptions' classes and texts -/
def KX (U : State) : Prop := ((Cond.castable XIO XIO).before #[] U = true ∧ (Cond.castable XIA XIA).before #[] U = true ∧ (Cond.castable XIS XIS).before #[] U = true) ∧ (True ∧ True ∧ True) ∧ (∀ q ∈ XST, ∃ sa, vk_R RX5 q.1 q.2 sa U) ∧ ∀ n ∈ XCH, (Cond.declares ⟨n, "<init>", "(Ljava/lang/String;)V"⟩).before #[] U = true
theorem decl_moved {x : MethodName} {u U : State} (hvm : u.vm.Alike U.vm) (h : (Cond.declares x).before #[] u = true) : (Cond.declares x).before #[] U = true :=
  va_tabs rfl (rfl : (u.setVm U.vm).vm = U.vm) ((Cond.declares_setVm (args := #[]) (s := u) hvm x).trans h)
theorem cast_moved {X Y : String} {u U : State} (hvm : u.vm.Alike U.vm) (h : (Cond.castable X Y).before #[] u = true) : (Cond.castable X Y).before #[] U = true :=
  va_tabs rfl (rfl : (u.setVm U.vm).vm = U.vm) ((Cond.castable_setVm (args := #[]) (s := u) hvm X Y).trans h)
theorem KX.warm {s U : State} (hW : s.WarmedH U.vm) (h : KX s) : KX U := by
  obtain ⟨⟨a1, a2, a3⟩, ⟨b1, b2, b3⟩, d, e0⟩ := h
  refine ⟨⟨cast_moved hW.alike a1, cast_moved hW.alike a2, cast_moved hW.alike a3⟩, ⟨b1, b2, b3⟩, fun q hq => ?_, fun n hn => decl_moved hW.alike (e0 n hn)⟩
  obtain ⟨sa, hsa⟩ := d q hq
  exact ⟨sa, vk_R.warm hW hsa⟩
theorem KX.same {u U : State} (e : U.vm = u.vm) (h : KX u) : KX U := by
  have ha : u.vm.Alike U.vm := by rw [e]; exact Vm.Alike.refl u.vm
  obtain ⟨⟨a1, a2, a3⟩, ⟨b1, b2, b3⟩, d, e0⟩ := h
  refine ⟨⟨cast_moved ha a1, cast_moved ha a2, cast_moved ha a3⟩, ⟨b1, b2, b3⟩, fun q hq => ?_, fun n hn => decl_moved ha (e0 n hn)⟩
  obtain ⟨sa, hsa⟩ := d q hq
  exact ⟨sa, vk_R.same e hsa⟩
def KN (D : va_G) (T : TI) (U : State) : Prop := va_K D vwCl (tysT T) U ∧ (∀ w ∈ NWS, va_Nw w U) ∧ va_AO RX4 U ∧ va_AO RX3 U ∧ KX U
theorem KN.warm {D : va_G} {T : TI} {s U : State} (hW : s.WarmedH U.vm) (h : KN D T s) : KN D T U := ⟨va_K.moved hW.alike h.1, NW_warm hW h.2.1, va_AO.moved hW.alike h.2.2.1, va_AO.moved hW.alike h.2.2.2.1, h.2.2.2.2.warm hW⟩
theorem KN.call {D : va_G} {T : TI} {U : State} {g : JFrame} {mk : MethodId} {a : Array Value} (h : KN D T U) : KN D T (U.calling g mk a) := ⟨va_K.moved (u := U) (U := U.calling g mk a) (Vm.Alike.refl U.vm) h.1, NW_same (u := U) (U := U.calling g mk a) rfl h.2.1, va_AO.moved (u := U) (U := U.calling g mk a) (Vm.Alike.refl U.vm) h.2.2.1, va_AO.moved (u := U) (U := U.calling g mk a) (Vm.Alike.refl U.vm) h.2.2.2.1, KX.same (u := U) (U := U.calling g mk a) rfl h.2.2.2.2⟩
/-- the static arrays, the throwables' statics: old cells that nobody writes -/
def SAR : List (String × (Nat → Int32)) := [("FIRST_SETTINGS", fun k => [20, 15, 2, 1].getD k 0), ("LEAST_SETTINGS", fun k => [0, 0, 1, 0].getD k 0), ("MOST_SETTINGS", fun k => [99, 60, 9, 20].getD k 0)]
def STA (A : Nat → Prop) (U : State) (H : Heap) : Prop := vx_Zq Bundle.tN "UNASSIGNED_STACK" Bundle.steD A U H ∧ vx_Zq Bundle.tN "SUPPRESSED_SENTINEL" Bundle.listD A U H ∧ ∀ q ∈ SAR, ∃ b, va_Z RX5 q.1 "[I" (.ref b) A U H ∧ va_X b 4 q.2 U H ∧ b < H.size ∧ ¬ A b
theorem STA.to {A A2 : Nat → Prop} {s U : State} {H : Heap} {locs : List Loc} (h : STA A s s.heap) (hS : va_S A s.heap H locs) (hvm : s.vm.Alike U.vm) (hAA : ∀ q, A2 q → A q) : STA A2 U H := by
  obtain ⟨h1, h2, h3⟩ := h
  have hk : ∀ a : Nat, a < s.heap.size → ¬ A a → H[a]? = s.heap[a]? := hS.2.1
  refine ⟨((h1.moved hvm).kept hk).narrow hAA, ((h2.moved hvm).kept hk).narrow hAA, fun q hq => ?_⟩
  obtain ⟨b, b1, b2, b3, b4⟩ := h3 q hq
  exact ⟨b, ((b1.moved hvm).kept hk).narrow hAA, (b2.moved hvm).kept (hk b b3 b4), Nat.lt_of_lt_of_le b3 hS.1, fun z => b4 (hAA b z)⟩
/-! worlds as lists of blocks -/
def fl (bs : List va_W) : va_W := bs.flatten
theorem vP_iff {D : va_G} {cl : List vw_C} {ws : va_W} {H : Heap} : va_P D cl ws H ↔ ∀ q ∈ ws, va_at D cl q H := by
  constructor
  · intro h q hq
    obtain ⟨i, hi⟩ := List.getElem?_of_mem hq
    exact h i q hi
  · intro h k q hk
    exact h q (List.mem_of_getElem? hk)
theorem vA_iff {ws : va_W} {sz q : Nat} : va_A ws sz q ↔ q ∈ ws.map Prod.fst ∨ sz ≤ q := by
  constructor
  · rintro (⟨k, e, h⟩ | h)
    · exact Or.inl (List.mem_map.mpr ⟨(q, e), List.mem_of_getElem? h, rfl⟩)
    · exact Or.inr h
  · rintro (h | h)
    · obtain ⟨⟨a, e⟩, h1, rfl⟩ := List.mem_map.mp h
      obtain ⟨i, hi⟩ := List.getElem?_of_mem h1
      exact Or.inl ⟨i, e, hi⟩
    · exact Or.inr h
theorem vD_iff {A : Nat → Prop} {ws : va_W} : va_D A ws ↔ (ws.map Prod.fst).Nodup ∧ ∀ q ∈ ws, A q.1 := by
  have e1 : (ws.map Prod.fst).Nodup ↔ ∀ (i j : Nat) (p q : Nat × va_E), ws[i]? = some p → ws[j]? = some q → p.1 = q.1 → i = j := by
    constructor
    · intro h i j p q hi hj e
      have hi1 := (List.getElem?_eq_some_iff.mp hi).1
      have hj1 := (List.getElem?_eq_some_iff.mp hj).1
      refine (List.getElem?_inj (l := ws.map Prod.fst) (by simpa using hi1) h).mp ?_
      rw [List.getElem?_map, List.getElem?_map, hi, hj]
      exact congrArg some e
    · intro h
      refine List.pairwise_iff_getElem.mpr ?_
      intro i j hi hj hij e
      have hi1 : i < ws.length := by simpa using hi
      have hj1 : j < ws.length := by simpa using hj
      have := h i j ws[i] ws[j] (List.getElem?_eq_getElem hi1) (List.getElem?_eq_getElem hj1) (by simpa using e)
      omega
  constructor
  · intro h
    exact ⟨e1.mpr h.1, fun q hq => by obtain ⟨i, hi⟩ := List.getElem?_of_mem hq; exact h.2 i q hi⟩
  · intro h
    exact ⟨e1.mp h.1, fun k q hk => h.2 q (List.mem_of_getElem? hk)⟩
theorem at_of {α : Type} {bs bc : List α} {is : List Nat} (hs : is.map (fun i => bs[i]?) = bc.map some) {k : Nat} {b : α} (hk : bc[k]? = some b) : ∃ i, is[k]? = some i ∧ bs[i]? = some b := by
  have h1 : (is.map (fun i => bs[i]?))[k]? = some (some b) := by rw [hs, List.getElem?_map, hk]; rfl
  rw [List.getElem?_map] at h1
  cases hi : is[k]? with
  | none => rw [hi] at h1; cases h1
  | some i => rw [hi] at h1; exact ⟨i, rfl, Option.some.inj h1⟩
theorem flP_sub {D : va_G} {cl : List vw_C} {bs bc : List va_W} {H : Heap} (h : va_P D cl (fl bs) H) (is : List Nat) (hs : is.map (fun i => bs[i]?) = bc.map some) : va_P D cl (fl bc) H := by
  rw [vP_iff] at h ⊢
  intro q hq
  obtain ⟨b, hb, hq⟩ := List.mem_flatten.mp hq
  obtain ⟨k, hk⟩ := List.getElem?_of_mem hb
  obtain ⟨i, -, hi⟩ := at_of hs hk
  exact h q (List.mem_flatten.mpr ⟨b, List.mem_of_getElem? hi, hq⟩)
theorem fl_nodup {bs : List va_W} : ((fl bs).map Prod.fst).Nodup ↔ (∀ b ∈ bs, (b.map Prod.fst).Nodup) ∧ ∀ (i j : Nat) (b c : va_W), i ≠ j → bs[i]? = some b → bs[j]? = some c → ∀ x ∈ b, ∀ y ∈ c, x.1 ≠ y.1 := by
  unfold fl List.Nodup
  rw [List.pairwise_map, List.pairwise_flatten]
  have e : ∀ b : va_W, (b.map Prod.fst).Pairwise (· ≠ ·) ↔ b.Pairwise (fun x y => x.1 ≠ y.1) := fun b => List.pairwise_map
  constructor
  · rintro ⟨h1, h2⟩
    refine ⟨fun b hb => (e b).mpr (h1 b hb), ?_⟩
    have h3 := List.pairwise_iff_getElem.mp h2
    intro i j b c hij hi hj x hx y hy
    obtain ⟨hi1, rfl⟩ := List.getElem?_eq_some_iff.mp hi
    obtain ⟨hj1, rfl⟩ := List.getElem?_eq_some_iff.mp hj
    rcases Nat.lt_or_gt_of_ne hij with h | h
    · exact h3 i j hi1 hj1 h x hx y hy
    · exact fun q => h3 j i hj1 hi1 h y hy x hx q.symm
  · rintro ⟨h1, h2⟩
    refine ⟨fun b hb => (e b).mp (h1 b hb), List.pairwise_iff_getElem.mpr ?_⟩
    intro i j hi hj hij x hx y hy
    exact h2 i j bs[i] bs[j] (Nat.ne_of_lt hij) (List.getElem?_eq_getElem hi) (List.getElem?_eq_getElem hj) x hx y hy
theorem flD_sub {A : Nat → Prop} {bs bc : List va_W} (h : va_D A (fl bs)) (is : List Nat) (hn : va_nd is = true) (hs : is.map (fun i => bs[i]?) = bc.map some) : va_D A (fl bc) := by
  rw [vD_iff, fl_nodup] at h ⊢
  obtain ⟨⟨h1, h2⟩, h3⟩ := h
  refine ⟨⟨?_, ?_⟩, ?_⟩
  · intro b hb
    obtain ⟨k, hk⟩ := List.getElem?_of_mem hb
    obtain ⟨i, -, hi⟩ := at_of hs hk
    exact h1 b (List.mem_of_getElem? hi)
  · intro i j b c hij hi hj x hx y hy
    obtain ⟨i', a1, a2⟩ := at_of hs hi
    obtain ⟨j', b1, b2⟩ := at_of hs hj
    refine h2 i' j' b c (fun q => hij ?_) a2 b2 x hx y hy
    subst q
    exact va_nd_inj is hn i j i' a1 b1
  · intro q hq
    obtain ⟨b, hb, hq⟩ := List.mem_flatten.mp hq
    obtain ⟨k, hk⟩ := List.getElem?_of_mem hb
    obtain ⟨i, -, hi⟩ := at_of hs hk
    exact h3 q (List.mem_flatten.mpr ⟨b, List.mem_of_getElem? hi, hq⟩)
theorem fl_app (a b : List va_W) : fl (a ++ b) = fl a ++ fl b := by simp [fl]
theorem join2 {A0 : Nat → Prop} {D : va_G} {cl : List vw_C} {wr wc w1 : va_W} {H H1 : Heap} (hP : va_P D cl (wr ++ wc) H) (hD : va_D A0 (wr ++ wc)) (hk : ∀ q : Nat, q < H.size → ¬ va_A wc H.size q → H1[q]? = H[q]?) (hF : ∀ q, H.size ≤ q → A0 q) (hP1 : va_P D cl w1 H1) (hD1 : va_D (va_A wc H.size) w1) : va_P D cl (wr ++ w1) H1 ∧ va_D A0 (wr ++ w1) := by
  rw [vP_iff] at hP hP1
  rw [vD_iff] at hD hD1
  rw [vP_iff, vD_iff]
  obtain ⟨hn, hA⟩ := hD
  rw [List.map_append, List.nodup_append] at hn
  obtain ⟨n1, n2, n3⟩ := hn
  have out : ∀ q ∈ wr, q.1 < H.size ∧ ¬ va_A wc H.size q.1 := by
    intro q hq
    have hl := (hP q (List.mem_append_left _ hq)).lt
    refine ⟨hl, fun h => ?_⟩
    rcases vA_iff.mp h with h | h
    · exact n3 q.1 (List.mem_map.mpr ⟨q, hq, rfl⟩) q.1 h rfl
    · omega
  have hAc : ∀ q, va_A wc H.size q → A0 q := by
    intro q h
    rcases vA_iff.mp h with h | h
    · obtain ⟨x, h1, rfl⟩ := List.mem_map.mp h
      exact hA x (List.mem_append_right _ h1)
    · exact hF q h
  refine ⟨?_, ?_, ?_⟩
  · intro q hq
    rcases List.mem_append.mp hq with h | h
    · obtain ⟨a, b⟩ := out q h
      exact (hP q (List.mem_append_left _ h)).kept (hk q.1 a b)
    · exact hP1 q h
  · rw [List.map_append, List.nodup_append]
    refine ⟨n1, hD1.1, ?_⟩
    intro a ha b hb e
    obtain ⟨x, hx, rfl⟩ := List.mem_map.mp ha
    obtain ⟨y, hy, rfl⟩ := List.mem_map.mp hb
    exact (out x hx).2 (by rw [e]; exact hD1.2 y hy)
  · intro q hq
    rcases List.mem_append.mp hq with h | h
    · exact hA q (List.mem_append_left _ h)
    · exact hAc _ (hD1.2 q h)
theorem vA_sub {A0 : Nat → Prop} {wc : va_W} {sz : Nat} (hD : va_D A0 wc) (hF : ∀ q, sz ≤ q → A0 q) : ∀ q, va_A wc sz q → A0 q := by
  intro q h
  rcases vA_iff.mp h with h | h
  · obtain ⟨x, h1, rfl⟩ := List.mem_map.mp h
    exact (vD_iff.mp hD).2 x h1
  · exact hF q h
/-! contracts -/
def rmD (d mc ms : Nat) : Room := { frames := d, cells := mc, slots := ms, locals := 36 * d }
def PRE (D : va_G) (T : TI) (bs : List va_W) (sz : Nat) (U : State) : Prop := U.heap.size = sz ∧ va_P D vwCl (fl bs) U.heap ∧ KN D T U ∧ va_D (fun _ => True) (fl bs)
def PRO (D : va_G) (T : TI) (bs : List va_W) (U : State) : Prop := va_P D vwCl (fl bs) U.heap ∧ KN D T U
abbrev PST (D : va_G) {β : Type} (WS : β → List va_W) (A : Nat → Prop) : β → State → Prop := fun u t => va_P D vwCl (fl (WS u)) t.heap ∧ va_D A (fl (WS u))
abbrev NO : Nat → Prop := fun _ => False
def CV (l : Launch) (y : MethodName) (cc : ByteArray) (nL : Nat) (rm : Room) (D : va_G) (T : TI) (As : List Value) (bs : List va_W) (mc ms : Nat) {β : Type} (WS : β → List va_W) (Q : β → Prop) : Prop := ∀ sz, Met l y (.code y cc nL none :: W0) rm (va_Pc As (PRE D T bs sz)) (va_Qv Q (PST D WS (va_A (fl bs) sz)) (va_A (fl bs) sz)) mc ms (va_A (fl bs) sz)
def CI (l : Launch) (y : MethodName) (cc : ByteArray) (nL : Nat) (rt : FieldType) (rm : Room) (D : va_G) (T : TI) (As : List Value) (bs : List va_W) (mc ms : Nat) {β : Type} (WS : β → List va_W) (Q : Int32 → β → Prop) : Prop := ∀ sz, Met l y (.code y cc nL (some rt) :: W0) rm (va_Pc As (PRE D T bs sz)) (va_Qi Q (PST D WS (va_A (fl bs) sz)) (va_A (fl bs) sz)) mc ms (va_A (fl bs) sz)
def CL (l : Launch) (y : MethodName) (cc : ByteArray) (nL : Nat) (rm : Room) (D : va_G) (T : TI) (As : List Value) (bs : List va_W) (mc ms : Nat) {β : Type} (WS : β → List va_W) (Q : Int64 → β → Prop) : Prop := ∀ sz, Met l y (.code y cc nL (some .long) :: W0) rm (va_Pc As (PRE D T bs sz)) (va_Ql Q (PST D WS (va_A (fl bs) sz)) (va_A (fl bs) sz)) mc ms (va_A (fl bs) sz)
def OI (l : Launch) (y : MethodName) (cc : ByteArray) (nL : Nat) (rt : FieldType) (rm : Room) (D : va_G) (T : TI) (As : List Value) (bs : List va_W) (Q : Int32 → Prop) : Prop := Met l y (.code y cc nL (some rt) :: W0) rm (va_Pc As (PRO D T bs)) (va_Qi (fun r (_ : Unit) => Q r) (fun _ _ => True) NO) 0 0 NO
def OL (l : Launch) (y : MethodName) (cc : ByteArray) (nL : Nat) (rm : Room) (D : va_G) (T : TI) (As : List Value) (bs : List va_W) (Q : Int64 → Prop) : Prop := Met l y (.code y cc nL (some .long) :: W0) rm (va_Pc As (PRO D T bs)) (va_Ql (fun r (_ : Unit) => Q r) (fun _ _ => True) NO) 0 0 NO
def OD (l : Launch) (y : MethodName) (cc : ByteArray) (nL : Nat) (rm : Room) (D : va_G) (T : TI) (As : List Value) (bs : List va_W) (Q : UInt64 → Prop) : Prop := Met l y (.code y cc nL (some .double) :: W0) rm (va_Pc As (PRO D T bs)) (va_Qd (fun r (_ : Unit) => Q r) (fun _ _ => True) NO) 0 0 NO
/-- what is known all through a body -/
def CX (D : va_G) (T : TI) (p : Program) (s : State) (m : MethodId) (args : Array Value) (meth : Method) (c : Code) (cc : ByteArray) (nL : Nat) (y : MethodName) (ret : Option FieldType) : Prop :=
  p.tables.exec = Jvm.exec ∧ c.code = cc ∧ meth.sig.returnType = ret ∧ c.maxLocals = nL ∧ s.vm.findClass y.cls = some m.cls ∧ (∀ w ∈ W0, w.before args s = true) ∧ meth.locks = false ∧ meth.name = y.name ∧ KN D T s
theorem CX_of {D : va_G} {T : TI} {p : Program} {l : Launch} {e : Env} {s s₁ : State} {m : MethodId} {args : Array Value} {below : List Frame} {meth : Method} {c : Code} {cc : ByteArray} {nL : Nat} {y : MethodName} {ret : Option FieldType} {rm : Room}
    (B : BodyLoose p l y (headSpec (.code y cc nL ret :: W0) rm) cc nL ret e s m args below meth c s₁) (hml : c.maxLocals = nL) (hK : KN D T s) : CX D T p s m args meth c cc nL y ret := by
  have h := atoms_spec (ws := .code y cc nL ret :: W0) B.pre
  exact ⟨B.exec, B.bytes, B.returns, hml, findClass_of_methodNamed B.named, fun w hw => h w (List.mem_cons_of_mem _ hw), B.notSynchronized, (name_of_methodNamed B.named B.method).1, hK⟩
section CONTR
variable {l : Launch} {y : MethodName} {cc : ByteArray} {nL : Nat} {rt : FieldType} {rm : Room} {D : va_G} {T : TI} {As : List Value} {bs : List va_W} {mc ms : Nat} {β : Type} {WS : β → List va_W}
/-- a body that writes its world -/
theorem met_rw {ret : Option FieldType} {Qc : (Nat → Prop) → Array Value → State → Outcome → State → Prop} {sz : Nat} (hy : plainName y.cls = true) (hn : (lg_sl As).length ≤ nL)
    (body : ∀ {p : Program} {e : Env} {s : State} {m : MethodId} {below : List Frame} {meth : Method} {c : Code} (A : Nat → Prop), A = va_A (fl bs) s.heap.size → CX D T p s m As.toArray meth c cc nL y ret → (∀ q, s.heap.size ≤ q → A q) → va_P D vwCl (fl bs) s.heap → va_D A (fl bs) → va_S A s.heap s.heap [] → ∀ ls, lv_has ls nL (lv_args 0 As) → ∀ TG : State → Prop, TG = MQ below (Qc A) As.toArray s mc ms A →
      W p l e rm s m As.toArray below meth c s.heap [] 0 0 TG (F0 m 0 ls [])) :
    Met l y (.code y cc nL ret :: W0) rm (va_Pc As (PRE D T bs sz)) (Qc (va_A (fl bs) sz)) mc ms (va_A (fl bs) sz) := by
  refine Met.ofW (cc := cc) (maxL := nL) (ret := ret) hy rfl ?_
  intro p e s m args below meth c s₁ B hml hv
  obtain ⟨rfl, hsz, hP, hK, hD0⟩ := hv
  subst hsz
  rw [lg_entry_eq]
  exact body (va_A (fl bs) s.heap.size) rfl (CX_of B hml hK) (fun q h => Or.inr h) hP hD0.self va_S.rf _ (lv_entry As hn) _ rfl
/-- a body that only reads -/
theorem met_ro {ret : Option FieldType} {Qc : Array Value → State → Outcome → State → Prop} (hy : plainName y.cls = true) (hn : (lg_sl As).length ≤ nL)
    (body : ∀ {p : Program} {e : Env} {s : State} {m : MethodId} {below : List Frame} {meth : Method} {c : Code}, CX D T p s m As.toArray meth c cc nL y ret → va_P D vwCl (fl bs) s.heap → va_S NO s.heap s.heap [] → ∀ ls, lv_has ls nL (lv_args 0 As) → ∀ TG : State → Prop, TG = MQ below Qc As.toArray s 0 0 NO →
      W p l e rm s m As.toArray below meth c s.heap [] 0 0 TG (F0 m 0 ls [])) :
    Met l y (.code y cc nL ret :: W0) rm (va_Pc As (PRO D T bs)) Qc 0 0 NO := by
  refine Met.ofW (cc := cc) (maxL := nL) (ret := ret) hy rfl ?_
  intro p e s m args below meth c s₁ B hml hv
  obtain ⟨rfl, hP, hK⟩ := hv
  rw [lg_entry_eq]
  exact body (CX_of B hml hK) hP va_S.rf _ (lv_entry As hn) _ rfl
end CONTR
section ENDS
variable {p : Program} {l : Launch} {e : Env} {R : Room} {s : State} {m : MethodId} {args : Array Value} {below : List Frame} {meth : Method} {c : Code} {H : Heap} {locs : List Loc} {cells slots : Nat} {cc : ByteArray} {pc : Nat} {ls : Array Slot}
variable {D : va_G} {A : Nat → Prop} {β : Type} {WS : β → List va_W} {bs : List va_W}
theorem ret_v {Q : β → Prop} {TG : State → Prop} {mc ms : Nat} (hT : TG = MQ below (va_Qv Q (PST D WS A) A) args s mc ms A) (hcl : cells ≤ mc) (hsl : slots ≤ ms) (hx : p.tables.exec = Jvm.exec) (hb : c.code = cc) (hr : meth.sig.returnType = none) (hlocks : meth.locks = false) (u : β) (hP : va_P D vwCl (fl bs) H) (hD : va_D A (fl bs)) (hS : va_S A s.heap H locs) (is : List Nat) (hs : is.map (fun i => bs[i]?) = (WS u).map some) (hn : va_nd is = true) (hdg : decode cc pc = .ok (.return_, 1)) (hu : Q u) : W p l e R s m args below meth c H locs cells slots TG (F0 m pc ls []) := by
  subst hT
  exact W.widen hcl hsl (W.vret hx hb hr (fun t ht _ => ⟨⟨u, rfl, hu, by rw [ht]; exact flP_sub hP is hs, flD_sub hD is hn hs⟩, hS.F ht⟩) hS.2.2 hdg hlocks)
theorem ret_i {Q : Int32 → β → Prop} {v : Int32} {TG : State → Prop} {mc ms : Nat} (hT : TG = MQ below (va_Qi Q (PST D WS A) A) args s mc ms A) (hcl : cells ≤ mc) (hsl : slots ≤ ms) (hx : p.tables.exec = Jvm.exec) (hb : c.code = cc) (hr : meth.sig.returnType = some .int) (hlocks : meth.locks = false) (u : β) (hP : va_P D vwCl (fl bs) H) (hD : va_D A (fl bs)) (hS : va_S A s.heap H locs) (is : List Nat) (hs : is.map (fun i => bs[i]?) = (WS u).map some) (hn : va_nd is = true) (hdg : decode cc pc = .ok (.ireturn, 1)) (hu : Q v u) : W p l e R s m args below meth c H locs cells slots TG (F0 m pc ls [.int v]) := by
  subst hT
  exact W.widen hcl hsl (W.iret hx hb hr (fun t ht _ => ⟨⟨v, u, rfl, hu, by rw [ht]; exact flP_sub hP is hs, flD_sub hD is hn hs⟩, hS.F ht⟩) hS.2.2 hdg hlocks)
def bI (b : Bool) : Int32 := if b then 1 else 0
theorem bI_n (b : Bool) : narrow .boolean (.int (bI b)) = .int (bI b) := by cases b <;> rfl
theorem ret_z {Q : Int32 → β → Prop} {v : Int32} {b : Bool} (hv : v = bI b) {TG : State → Prop} {mc ms : Nat} (hT : TG = MQ below (va_Qi Q (PST D WS A) A) args s mc ms A) (hcl : cells ≤ mc) (hsl : slots ≤ ms) (hx : p.tables.exec = Jvm.exec) (hb : c.code = cc) (hr : meth.sig.returnType = some .boolean) (hlocks : meth.locks = false) (u : β) (hP : va_P D vwCl (fl bs) H) (hD : va_D A (fl bs)) (hS : va_S A s.heap H locs) (is : List Nat) (hs : is.map (fun i => bs[i]?) = (WS u).map some) (hn : va_nd is = true) (hdg : decode cc pc = .ok (.ireturn, 1)) (hu : Q (bI b) u) : W p l e R s m args below meth c H locs cells slots TG (F0 m pc ls [.int v]) := by
  subst hv
  subst hT
  exact W.widen hcl hsl (W.zret hx hb hr (bI_n b) (fun t ht _ => ⟨⟨bI b, u, rfl, hu, by rw [ht]; exact flP_sub hP is hs, flD_sub hD is hn hs⟩, hS.F ht⟩) hS.2.2 hdg hlocks)
theorem ret_l {Q : Int64 → β → Prop} {v : Int64} {TG : State → Prop} {mc ms : Nat} (hT : TG = MQ below (va_Ql Q (PST D WS A) A) args s mc ms A) (hcl : cells ≤ mc) (hsl : slots ≤ ms) (hx : p.tables.exec = Jvm.exec) (hb : c.code = cc) (hr : meth.sig.returnType = some .long) (hlocks : meth.locks = false) (u : β) (hP : va_P D vwCl (fl bs) H) (hD : va_D A (fl bs)) (hS : va_S A s.heap H locs) (is : List Nat) (hs : is.map (fun i => bs[i]?) = (WS u).map some) (hn : va_nd is = true) (hdg : decode cc pc = .ok (.lreturn, 1)) (hu : Q v u) : W p l e R s m args below meth c H locs cells slots TG (F0 m pc ls [.long v]) := by
  subst hT
  exact W.widen hcl hsl (W.lret hx hb hr (fun t ht _ => ⟨⟨v, u, rfl, hu, by rw [ht]; exact flP_sub hP is hs, flD_sub hD is hn hs⟩, hS.F ht⟩) hS.2.2 hdg hlocks)
theorem ro_i {Q : Int32 → Prop} {v : Int32} {TG : State → Prop} {mc ms : Nat} (hT : TG = MQ below (va_Qi (fun r (_ : Unit) => Q r) (fun _ _ => True) NO) args s mc ms NO) (hcl : cells ≤ mc) (hsl : slots ≤ ms) (hx : p.tables.exec = Jvm.exec) (hb : c.code = cc) (hr : meth.sig.returnType = some .int) (hlocks : meth.locks = false) (hS : va_S NO s.heap H locs) (hdg : decode cc pc = .ok (.ireturn, 1)) (hu : Q v) : W p l e R s m args below meth c H locs cells slots TG (F0 m pc ls [.int v]) := by
  subst hT
  exact W.widen hcl hsl (W.iret hx hb hr (fun t ht _ => ⟨⟨v, (), rfl, hu, trivial⟩, hS.F ht⟩) hS.2.2 hdg hlocks)
theorem ro_z {Q : Int32 → Prop} {v : Int32} {b : Bool} (hv : v = bI b) {TG : State → Prop} {mc ms : Nat} (hT : TG = MQ below (va_Qi (fun r (_ : Unit) => Q r) (fun _ _ => True) NO) args s mc ms NO) (hcl : cells ≤ mc) (hsl : slots ≤ ms) (hx : p.tables.exec = Jvm.exec) (hb : c.code = cc) (hr : meth.sig.returnType = some .boolean) (hlocks : meth.locks = false) (hS : va_S NO s.heap H locs) (hdg : decode cc pc = .ok (.ireturn, 1)) (hu : Q (bI b)) : W p l e R s m args below meth c H locs cells slots TG (F0 m pc ls [.int v]) := by
  subst hv
  subst hT
  exact W.widen hcl hsl (W.zret hx hb hr (bI_n b) (fun t ht _ => ⟨⟨bI b, (), rfl, hu, trivial⟩, hS.F ht⟩) hS.2.2 hdg hlocks)
theorem ro_l {Q : Int64 → Prop} {v : Int64} {TG : State → Prop} {mc ms : Nat} (hT : TG = MQ below (va_Ql (fun r (_ : Unit) => Q r) (fun _ _ => True) NO) args s mc ms NO) (hcl : cells ≤ mc) (hsl : slots ≤ ms) (hx : p.tables.exec = Jvm.exec) (hb : c.code = cc) (hr : meth.sig.returnType = some .long) (hlocks : meth.locks = false) (hS : va_S NO s.heap H locs) (hdg : decode cc pc = .ok (.lreturn, 1)) (hu : Q v) : W p l e R s m args below meth c H locs cells slots TG (F0 m pc ls [.long v]) := by
  subst hT
  exact W.widen hcl hsl (W.lret hx hb hr (fun t ht _ => ⟨⟨v, (), rfl, hu, trivial⟩, hS.F ht⟩) hS.2.2 hdg hlocks)
theorem ro_d {Q : UInt64 → Prop} {v : UInt64} {TG : State → Prop} {mc ms : Nat} (hT : TG = MQ below (va_Qd (fun r (_ : Unit) => Q r) (fun _ _ => True) NO) args s mc ms NO) (hcl : cells ≤ mc) (hsl : slots ≤ ms) (hx : p.tables.exec = Jvm.exec) (hb : c.code = cc) (hr : meth.sig.returnType = some .double) (hlocks : meth.locks = false) (hS : va_S NO s.heap H locs) (hdg : decode cc pc = .ok (.dreturn, 1)) (hu : Q v) : W p l e R s m args below meth c H locs cells slots TG (F0 m pc ls [.double v]) := by
  subst hT
  exact W.widen hcl hsl (W.dret hx hb hr (fun t ht _ => ⟨⟨v, (), rfl, hu, trivial⟩, hS.F ht⟩) hS.2.2 hdg hlocks)
end ENDS
/-! calls -/
/-- what a call needs of the tables -/
def yOk (y : MethodName) (cc : ByteArray) (nL : Nat) (ret : Option FieldType) (n : Nat) : Prop := Cond.code y cc nL ret ∈ W0 ∧ Cond.initialized y.cls ∈ W0 ∧ (y.cls ≠ "java/lang/invoke/MethodHandle" ∧ y.cls ≠ "java/lang/invoke/VarHandle") ∧ (parseMethodDescriptor y.desc).map (fun d => d.parameters.length) = some n
section CALLS
variable {p : Program} {l : Launch} {e : Env} {R : Room} {s : State} {m : MethodId} {args : Array Value} {below : List Frame} {meth : Method} {c : Code} {H H0 : Heap} {locs : List Loc} {cells slots : Nat} {Q : State → Prop} {cc : ByteArray} {pc : Nat} {ls : Array Slot} {rest st0 : List Value}
variable {D : va_G} {T : TI} {A : Nat → Prop} {β : Type} {WS : β → List va_W} {bs bc br : List va_W} {a : Array Value} {mc ms n index maxL : Nat} {own : String} {y : MethodName} {bytes : ByteArray} {ret : Option FieldType} {rm : Room} {As : List Value} {b : Nat}
theorem mkB (hts : ∀ w ∈ W0, w.before args s = true) (hy : yOk y bytes maxL ret n) (hl : Cond.methodLink own index y ∈ W0) (hm : rm.cells = mc ∧ rm.slots = ms ∧ rm.frames + 1 ≤ R.frames ∧ 8 + (maxL + 11) + rm.locals ≤ R.locals) : CallB R s args own index y bytes maxL ret (.code y bytes maxL ret :: W0) rm mc ms n := by
  obtain ⟨h1, h2, h3, h4⟩ := hy
  refine ⟨hm.1, hm.2.1, hm.2.2.1, hm.2.2.2, pay_in hts (gW0 h1), List.mem_cons_self, hts _ h1, hts _ h2, h3, fun sig h => ?_, hts _ hl⟩
  rw [h] at h4
  exact (Option.some.inj h4).symm
theorem mkV (hts : ∀ w ∈ W0, w.before args s = true) (hy : yOk y bytes maxL ret n) (hl : Cond.methodLink own index y ∈ W0) (hi : Cond.instanceMethod y ∈ W0) (hsel : Cond.selects y.cls y y ∈ W0) (hm : rm.cells = mc ∧ rm.slots = ms ∧ rm.frames + 1 ≤ R.frames ∧ 8 + (maxL + 11) + rm.locals ≤ R.locals) : CallW R s args own y.cls index y bytes maxL ret (.code y bytes maxL ret :: W0) rm mc ms n :=
  ⟨mkB hts hy hl hm, hts _ hi, hts _ hsel⟩
theorem mkS (hts : ∀ w ∈ W0, w.before args s = true) (hy : yOk y bytes maxL ret n) (hl : Cond.methodLink own index y ∈ W0) (hi : Cond.static y ∈ W0) (hm : rm.cells = mc ∧ rm.slots = ms ∧ rm.frames + 1 ≤ R.frames ∧ 8 + (maxL + 11) + rm.locals ≤ R.locals) : CallB R s args own index y bytes maxL ret (.code y bytes maxL ret :: W0) rm mc ms n ∧ (Cond.static y).before args s = true :=
  ⟨mkB hts hy hl hm, hts _ hi⟩
theorem mkI (hts : ∀ w ∈ W0, w.before args s = true) (hy : yOk y bytes maxL none n) (hl : Cond.methodLink own index y ∈ W0) (hi : Cond.instanceMethod y ∈ W0) (hn : y.name = "<init>") (hm : rm.cells = mc ∧ rm.slots = ms ∧ rm.frames + 1 ≤ R.frames ∧ 8 + (maxL + 11) + rm.locals ≤ R.locals) : CallB R s args own index y bytes maxL none (.code y bytes maxL none :: W0) rm mc ms n ∧ y.name = "<init>" ∧ (Cond.instanceMethod y).before args s = true :=
  ⟨mkB hts hy hl hm, hn, hts _ hi⟩
theorem blind_rw {sz : Nat} : FrameBlind (va_Pc As (PRE D T bc sz)) := fun _ _ _ _ q => ⟨q.1, q.2.1, q.2.2.1, q.2.2.2.1.call, q.2.2.2.2⟩
theorem blind_ro : FrameBlind (va_Pc As (PRO D T bc)) := fun _ _ _ _ q => ⟨q.1, q.2.1, q.2.2.call⟩
theorem ps_rw (hK : KN D T s) (hP : va_P D vwCl (fl bc) H) (hD : va_D A (fl bc)) : PreS s H (va_Pc As (PRE D T bc H.size)) As :=
  ⟨blind_rw, fun U hU hW => ⟨rfl, by rw [hU], by rw [hU]; exact hP, hK.warm hW, hD.weaken (fun _ _ _ _ => trivial)⟩⟩
theorem ps_ro (hK : KN D T s) (hP : va_P D vwCl (fl bc) H) : PreS s H (va_Pc As (PRO D T bc)) As :=
  ⟨blind_ro, fun U hU hW => ⟨rfl, by rw [hU]; exact hP, hK.warm hW⟩⟩
theorem pv_rw {C : String} {q0 ci : Nat} {q : vw_C} {fs : List Value} (hK : KN D T s) (hP : va_P D vwCl (fl bc) H) (hD : va_D A (fl bc)) (he : (fl bc)[q0]? = some (b, .inr (ci, fs))) (hc : vwCl[ci]? = some q) (hC : q.1 = C) : PreV s H C b (va_Pc (.ref b :: As) (PRE D T bc H.size)) As :=
  ⟨blind_rw, hC ▸ va_recv hK.1 hP hc he, fun U hU hW => ⟨rfl, by rw [hU], by rw [hU]; exact hP, hK.warm hW, hD.weaken (fun _ _ _ _ => trivial)⟩⟩
theorem pv_ro {C : String} {q0 ci : Nat} {q : vw_C} {fs : List Value} (hK : KN D T s) (hP : va_P D vwCl (fl bc) H) (he : (fl bc)[q0]? = some (b, .inr (ci, fs))) (hc : vwCl[ci]? = some q) (hC : q.1 = C) : PreV s H C b (va_Pc (.ref b :: As) (PRO D T bc)) As :=
  ⟨blind_ro, hC ▸ va_recv hK.1 hP hc he, fun U hU hW => ⟨rfl, by rw [hU]; exact hP, hK.warm hW⟩⟩
theorem behind {isR isC : List Nat} (hP : va_P D vwCl (fl bs) H) (hD : va_D A (fl bs)) (hs : (isR ++ isC).map (fun i => bs[i]?) = (br ++ bc).map some) (hn : va_nd (isR ++ isC) = true) : va_P D vwCl (fl br ++ fl bc) H ∧ va_D A (fl br ++ fl bc) := by
  rw [← fl_app]
  exact ⟨flP_sub hP _ hs, flD_sub hD _ hn hs⟩
theorem cl_i {Qf : Int32 → β → Prop} (hr : va_Run p l e R s m args below meth c H locs cells slots mc ms (F0 m pc ls st0) rest (va_Qi Qf (PST D WS (va_A (fl bc) H.size)) (va_A (fl bc) H.size) a) (va_A (fl bc) H.size)) (hP : va_P D vwCl (fl bs) H) (hD : va_D A (fl bs)) (hS : va_S A H0 H locs) (hA : ∀ q, H0.size ≤ q → A q) (isR isC : List Nat) (hs : (isR ++ isC).map (fun i => bs[i]?) = (br ++ bc).map some) (hn : va_nd (isR ++ isC) = true)
    (kk : ∀ (r : Int32) (u : β) (H1 : Heap) (locs1 : List Loc), Qf r u → va_P D vwCl (fl (br ++ WS u)) H1 → va_D A (fl (br ++ WS u)) → va_S A H0 H1 locs1 → W p l e R s m args below meth c H1 locs1 (cells + mc) (slots + ms) Q (F0 m (pc + 3) ls (.int r :: rest))) : W p l e R s m args below meth c H locs cells slots Q (F0 m pc ls st0) := by
  obtain ⟨hP2, hD2⟩ := behind hP hD hs hn
  have hz : ∀ q, H.size ≤ q → A q := fun q h => hA q (Nat.le_trans hS.1 h)
  have hF : ∀ q, va_A (fl bc) H.size q → A q := vA_sub ((vD_iff.mpr ⟨(List.nodup_append.mp (by rw [← List.map_append]; exact (vD_iff.mp hD2).1)).2.1, fun q hq => (vD_iff.mp hD2).2 q (List.mem_append_right _ hq)⟩)) hz
  refine va_calli hr hS (fun q _ h => hF q h) hF (fun r u t H1 locs1 ht _ hw hB _ hk hS1 => ?_)
  obtain ⟨a1, a2⟩ := join2 hP2 hD2 hk hz (by rw [← ht]; exact hB.1) hB.2
  rw [← fl_app] at a1 a2
  exact kk r u H1 locs1 hw a1 a2 hS1
theorem cl_l {Qf : Int64 → β → Prop} (hr : va_Run p l e R s m args below meth c H locs cells slots mc ms (F0 m pc ls st0) rest (va_Ql Qf (PST D WS (va_A (fl bc) H.size)) (va_A (fl bc) H.size) a) (va_A (fl bc) H.size)) (hP : va_P D vwCl (fl bs) H) (hD : va_D A (fl bs)) (hS : va_S A H0 H locs) (hA : ∀ q, H0.size ≤ q → A q) (isR isC : List Nat) (hs : (isR ++ isC).map (fun i => bs[i]?) = (br ++ bc).map some) (hn : va_nd (isR ++ isC) = true)
    (kk : ∀ (r : Int64) (u : β) (H1 : Heap) (locs1 : List Loc), Qf r u → va_P D vwCl (fl (br ++ WS u)) H1 → va_D A (fl (br ++ WS u)) → va_S A H0 H1 locs1 → W p l e R s m args below meth c H1 locs1 (cells + mc) (slots + ms) Q (F0 m (pc + 3) ls (.long r :: rest))) : W p l e R s m args below meth c H locs cells slots Q (F0 m pc ls st0) := by
  obtain ⟨hP2, hD2⟩ := behind hP hD hs hn
  have hz : ∀ q, H.size ≤ q → A q := fun q h => hA q (Nat.le_trans hS.1 h)
  have hF : ∀ q, va_A (fl bc) H.size q → A q := vA_sub ((vD_iff.mpr ⟨(List.nodup_append.mp (by rw [← List.map_append]; exact (vD_iff.mp hD2).1)).2.1, fun q hq => (vD_iff.mp hD2).2 q (List.mem_append_right _ hq)⟩)) hz
  refine va_calll hr hS (fun q _ h => hF q h) hF (fun r u t H1 locs1 ht _ hw hB _ hk hS1 => ?_)
  obtain ⟨a1, a2⟩ := join2 hP2 hD2 hk hz (by rw [← ht]; exact hB.1) hB.2
  rw [← fl_app] at a1 a2
  exact kk r u H1 locs1 hw a1 a2 hS1
theorem cl_v {Qf : β → Prop} (hr : va_Run p l e R s m args below meth c H locs cells slots mc ms (F0 m pc ls st0) rest (va_Qv Qf (PST D WS (va_A (fl bc) H.size)) (va_A (fl bc) H.size) a) (va_A (fl bc) H.size)) (hP : va_P D vwCl (fl bs) H) (hD : va_D A (fl bs)) (hS : va_S A H0 H locs) (hA : ∀ q, H0.size ≤ q → A q) (isR isC : List Nat) (hs : (isR ++ isC).map (fun i => bs[i]?) = (br ++ bc).map some) (hn : va_nd (isR ++ isC) = true)
    (kk : ∀ (u : β) (H1 : Heap) (locs1 : List Loc), Qf u → va_P D vwCl (fl (br ++ WS u)) H1 → va_D A (fl (br ++ WS u)) → va_S A H0 H1 locs1 → W p l e R s m args below meth c H1 locs1 (cells + mc) (slots + ms) Q (F0 m (pc + 3) ls rest)) : W p l e R s m args below meth c H locs cells slots Q (F0 m pc ls st0) := by
  obtain ⟨hP2, hD2⟩ := behind hP hD hs hn
  have hz : ∀ q, H.size ≤ q → A q := fun q h => hA q (Nat.le_trans hS.1 h)
  have hF : ∀ q, va_A (fl bc) H.size q → A q := vA_sub ((vD_iff.mpr ⟨(List.nodup_append.mp (by rw [← List.map_append]; exact (vD_iff.mp hD2).1)).2.1, fun q hq => (vD_iff.mp hD2).2 q (List.mem_append_right _ hq)⟩)) hz
  refine va_callv hr hS (fun q _ h => hF q h) hF (fun u t H1 locs1 ht _ hw hB _ hk hS1 => ?_)
  obtain ⟨a1, a2⟩ := join2 hP2 hD2 hk hz (by rw [← ht]; exact hB.1) hB.2
  rw [← fl_app] at a1 a2
  exact kk u H1 locs1 hw a1 a2 hS1
theorem vP_ro {H1 : Heap} (hP : va_P D vwCl (fl bs) H) (hk : ∀ q : Nat, q < H.size → ¬ NO q → H1[q]? = H[q]?) : va_P D vwCl (fl bs) H1 := hP.kept (fun k q h => hk q.1 ((hP k q h).lt) (fun z => z))
theorem cr_i {Qf : Int32 → Prop} (hr : va_Run p l e R s m args below meth c H locs cells slots 0 0 (F0 m pc ls st0) rest (va_Qi (fun r (_ : Unit) => Qf r) (fun _ _ => True) NO a) NO) (hP : va_P D vwCl (fl bs) H) (hS : va_S A H0 H locs)
    (kk : ∀ (r : Int32) (H1 : Heap) (locs1 : List Loc), Qf r → va_P D vwCl (fl bs) H1 → va_S A H0 H1 locs1 → W p l e R s m args below meth c H1 locs1 cells slots Q (F0 m (pc + 3) ls (.int r :: rest))) : W p l e R s m args below meth c H locs cells slots Q (F0 m pc ls st0) :=
  va_calli hr hS (fun _ _ h => h.elim) (fun _ h => h.elim) (fun r _ _ H1 locs1 _ _ hw _ _ hk hS1 => kk r H1 locs1 hw (vP_ro hP hk) hS1)
theorem cr_l {Qf : Int64 → Prop} (hr : va_Run p l e R s m args below meth c H locs cells slots 0 0 (F0 m pc ls st0) rest (va_Ql (fun r (_ : Unit) => Qf r) (fun _ _ => True) NO a) NO) (hP : va_P D vwCl (fl bs) H) (hS : va_S A H0 H locs)
    (kk : ∀ (r : Int64) (H1 : Heap) (locs1 : List Loc), Qf r → va_P D vwCl (fl bs) H1 → va_S A H0 H1 locs1 → W p l e R s m args below meth c H1 locs1 cells slots Q (F0 m (pc + 3) ls (.long r :: rest))) : W p l e R s m args below meth c H locs cells slots Q (F0 m pc ls st0) :=
  va_calll hr hS (fun _ _ h => h.elim) (fun _ h => h.elim) (fun r _ _ H1 locs1 _ _ hw _ _ hk hS1 => kk r H1 locs1 hw (vP_ro hP hk) hS1)
theorem cr_d {Qf : UInt64 → Prop} (hr : va_Run p l e R s m args below meth c H locs cells slots 0 0 (F0 m pc ls st0) rest (va_Qd (fun r (_ : Unit) => Qf r) (fun _ _ => True) NO a) NO) (hP : va_P D vwCl (fl bs) H) (hS : va_S A H0 H locs)
    (kk : ∀ (r : UInt64) (H1 : Heap) (locs1 : List Loc), Qf r → va_P D vwCl (fl bs) H1 → va_S A H0 H1 locs1 → W p l e R s m args below meth c H1 locs1 cells slots Q (F0 m (pc + 3) ls (.double r :: rest))) : W p l e R s m args below meth c H locs cells slots Q (F0 m pc ls st0) :=
  va_calld hr hS (fun _ _ h => h.elim) (fun _ h => h.elim) (fun r _ _ H1 locs1 _ _ hw _ _ hk hS1 => kk r H1 locs1 hw (vP_ro hP hk) hS1)
end CALLS
section ROWS
variable {p : Program} {l : Launch} {e : Env} {R : Room} {s : State} {m : MethodId} {args : Array Value} {below : List Frame} {meth : Method} {c : Code} {H H0 : Heap} {locs : List Loc} {cells slots : Nat} {Q : State → Prop} {cc : ByteArray} {pc : Nat} {ls : Array Slot} {rest : List Value} {D : va_G} {T : TI} {A : Nat → Prop} {ws : va_W} {a : Nat}
/-- the value on top, said otherwise -/
theorem tp_i {x y : Int32} (h : x = y) (k : W p l e R s m args below meth c H locs cells slots Q (F0 m pc ls (.int y :: rest))) : W p l e R s m args below meth c H locs cells slots Q (F0 m pc ls (.int x :: rest)) := h ▸ k
theorem tp_l {x y : Int64} (h : x = y) (k : W p l e R s m args below meth c H locs cells slots Q (F0 m pc ls (.long y :: rest))) : W p l e R s m args below meth c H locs cells slots Q (F0 m pc ls (.long x :: rest)) := h ▸ k
theorem nIin {i n : Nat} (h : i < n) (hn : n < 2147483648) : vp_in (nI i) n := vp_in_nI h (by omega)
theorem nIcl {i : Nat} (h : i < 2147483648) : (nI i).toNatClampNeg = i := nI_clamp (by omega)
theorem r_iald (hexec : p.tables.exec = Jvm.exec) (hb : c.code = cc) (hK : KN D T s) (hP : va_P D vwCl ws H) (q0 : Nat) {n : Nat} {f : Nat → Int32} (ha : ws[q0]? = some (a, .inl (T 0, n, .inl f))) (i : Nat) (hn : n < 2147483648) (hdg : decode cc pc = .ok (.iaload, 1)) (hin : i < n)
    (kk : W p l e R s m args below meth c H locs cells slots Q (F0 m (pc + 1) ls (.int (f i) :: rest))) : W p l e R s m args below meth c H locs cells slots Q (F0 m pc ls (.int (nI i) :: .ref a :: rest)) := by
  refine va_iald hexec hb hK.1 hP q0 0 ha rfl (nIin hin hn) hdg ?_
  rw [nIcl (by omega)]
  exact kk
theorem r_zald (hexec : p.tables.exec = Jvm.exec) (hb : c.code = cc) (hK : KN D T s) (hP : va_P D vwCl ws H) (q0 : Nat) {n : Nat} {f : Nat → Int32} (ha : ws[q0]? = some (a, .inl (T 1, n, .inl f))) (i : Nat) (hn : n < 2147483648) (hdg : decode cc pc = .ok (.baload, 1)) (hin : i < n)
    (kk : W p l e R s m args below meth c H locs cells slots Q (F0 m (pc + 1) ls (.int (f i) :: rest))) : W p l e R s m args below meth c H locs cells slots Q (F0 m pc ls (.int (nI i) :: .ref a :: rest)) := by
  refine va_zald hexec hb hK.1 hP q0 1 ha rfl (nIin hin hn) hdg ?_
  rw [nIcl (by omega)]
  exact kk
theorem r_iast (hexec : p.tables.exec = Jvm.exec) (hb : c.code = cc) (hK : KN D T s) (hP : va_P D vwCl ws H) (hD : va_D A ws) (hS : va_S A H0 H locs) (q0 : Nat) {n : Nat} {f : Nat → Int32} (ha : ws[q0]? = some (a, .inl (T 0, n, .inl f))) (i : Nat) (hn : n < 2147483648) {x : Int32} (hdg : decode cc pc = .ok (.iastore, 1)) (hin : i < n)
    (kk : ∀ (H1 : Heap) (locs1 : List Loc), va_P D vwCl (ws.set q0 (a, .inl (T 0, n, .inl (upd f i x)))) H1 → va_D A (ws.set q0 (a, .inl (T 0, n, .inl (upd f i x)))) → va_S A H0 H1 locs1 → W p l e R s m args below meth c H1 locs1 cells slots Q (F0 m (pc + 1) ls rest)) : W p l e R s m args below meth c H locs cells slots Q (F0 m pc ls (.int x :: .int (nI i) :: .ref a :: rest)) := by
  refine va_iast hexec hb hK.1 hP hD hS q0 0 ha rfl (nIin hin hn) hdg ?_
  rw [nIcl (by omega)]
  exact kk
theorem r_zast (hexec : p.tables.exec = Jvm.exec) (hb : c.code = cc) (hK : KN D T s) (hP : va_P D vwCl ws H) (hD : va_D A ws) (hS : va_S A H0 H locs) (q0 : Nat) {n : Nat} {f : Nat → Int32} (ha : ws[q0]? = some (a, .inl (T 1, n, .inl f))) (i : Nat) (hn : n < 2147483648) {b : Bool} (hdg : decode cc pc = .ok (.bastore, 1)) (hin : i < n)
    (kk : ∀ (H1 : Heap) (locs1 : List Loc), va_P D vwCl (ws.set q0 (a, .inl (T 1, n, .inl (upd f i (bI b))))) H1 → va_D A (ws.set q0 (a, .inl (T 1, n, .inl (upd f i (bI b))))) → va_S A H0 H1 locs1 → W p l e R s m args below meth c H1 locs1 cells slots Q (F0 m (pc + 1) ls rest)) : W p l e R s m args below meth c H locs cells slots Q (F0 m pc ls (.int (bI b) :: .int (nI i) :: .ref a :: rest)) := by
  refine va_zast hexec hb hK.1 hP hD hS q0 1 ha rfl (nIin hin hn) hdg ?_
  rw [nIcl (by omega), show vp_nar .boolean (bI b) = bI b by cases b <;> rfl]
  exact kk
theorem r_aald (hexec : p.tables.exec = Jvm.exec) (hb : c.code = cc) (hK : KN D T s) (hP : va_P D vwCl ws H) (q0 t0 : Nat) {C : String} {n v : Nat} {f : Nat → Option Nat} (ht : (tysT T)[t0]? = some (T t0, .object C)) (ha : ws[q0]? = some (a, .inl (T t0, n, .inr (.inr (.inr (.inr f)))))) (i : Nat) (hn : n < 2147483648) (hdg : decode cc pc = .ok (.aaload, 1)) (hin : i < n) (hv : f i = some v)
    (kk : W p l e R s m args below meth c H locs cells slots Q (F0 m (pc + 1) ls (.ref v :: rest))) : W p l e R s m args below meth c H locs cells slots Q (F0 m pc ls (.int (nI i) :: .ref a :: rest)) := by
  refine va_aldq hexec hb hK.1 hP q0 t0 ha ht (nIin hin hn) hdg ?_
  rw [nIcl (by omega), hv]
  exact kk
theorem r_alen (hexec : p.tables.exec = Jvm.exec) (hb : c.code = cc) (hK : KN D T s) (hP : va_P D vwCl ws H) (q0 : Nat) {x : vp_A} (ha : ws[q0]? = some (a, .inl (T 0, x))) (hdg : decode cc pc = .ok (.arraylength, 1))
    (kk : W p l e R s m args below meth c H locs cells slots Q (F0 m (pc + 1) ls (.int (nI x.1) :: rest))) : W p l e R s m args below meth c H locs cells slots Q (F0 m pc ls (.ref a :: rest)) := va_alen hexec hb hK.1 hP q0 0 ha (ty := .int) rfl (v := nI x.1) rfl hdg kk
theorem r_get (hexec : p.tables.exec = Jvm.exec) (hb : c.code = cc) (hK : KN D T s) (hts : ∀ w ∈ W0, w.before args s = true) {own C : String} {F : u_T} {N ci index : Nat} (hin : ∀ w ∈ u_ws C F N, w ∈ W0) (hown : s.vm.findClass own = some m.cls) (hP : va_P D vwCl ws H) (q0 : Nat) {fs : List Value} (he : ws[q0]? = some (a, .inr (ci, fs))) (hc : vwCl[ci]? = some (C, F, N)) (k : Nat) (hk : k < N) (hlink : Cond.fieldLink own index (F k).1 (F k).2.1 (F k).2.2.1 ∈ W0) {v : Value} (hv : fs[k]? = some v) (hdg : decode cc pc = .ok (.getfield index, 3))
    (kk : W p l e R s m args below meth c H locs cells slots Q (F0 m (pc + 3) ls (v :: rest))) : W p l e R s m args below meth c H locs cells slots Q (F0 m pc ls (.ref a :: rest)) :=
  va_get hexec hb hts hin hown hK.1 hP q0 he hc k hk (hts _ hlink) (fun _ h => h) hv hdg kk
theorem r_getN (hexec : p.tables.exec = Jvm.exec) (hb : c.code = cc) (hK : KN D T s) (hts : ∀ w ∈ W0, w.before args s = true) {own C host : String} {F : u_T} {N ci index : Nat} (hin : ∀ w ∈ u_ws C F N, w ∈ W0) (hown : s.vm.findClass own = some m.cls) (hP : va_P D vwCl ws H) (q0 : Nat) {fs : List Value} (he : ws[q0]? = some (a, .inr (ci, fs))) (hc : vwCl[ci]? = some (C, F, N)) (k : Nat) (hk : k < N) (hlink : Cond.fieldLinkNest own index (F k).1 (F k).2.1 (F k).2.2.1 host ∈ NWS) {v : Value} (hv : fs[k]? = some v) (hdg : decode cc pc = .ok (.getfield index, 3))
    (kk : W p l e R s m args below meth c H locs cells slots Q (F0 m (pc + 3) ls (v :: rest))) : W p l e R s m args below meth c H locs cells slots Q (F0 m pc ls (.ref a :: rest)) :=
  va_getN hexec hb hts hin hown hK.1 hP q0 he hc k hk (va_Nw.use rfl (hK.2.1 _ hlink)) (fun _ h => h) hv hdg kk
theorem r_put (hexec : p.tables.exec = Jvm.exec) (hb : c.code = cc) (hK : KN D T s) (hts : ∀ w ∈ W0, w.before args s = true) {own C : String} {F : u_T} {N ci index : Nat} (hin : ∀ w ∈ u_ws C F N, w ∈ W0) (ty0 : Nat → FieldType) (hty : ∀ k, k < N → parseFieldDescriptor (F k).2.2.1 = some (ty0 k)) (hnm : ∀ a, a < N → ∀ b, b < N → a ≠ b → (F a).2.1 ≠ (F b).2.1) (hown : s.vm.findClass own = some m.cls) (hP : va_P D vwCl ws H) (hD : va_D A ws) (hS0 : va_S A H0 H locs) (q0 : Nat) {fs : List Value} (he : ws[q0]? = some (a, .inr (ci, fs))) (hc : vwCl[ci]? = some (C, F, N)) (k : Nat) (hk : k < N) (hlink : Cond.fieldLink own index (F k).1 (F k).2.1 (F k).2.2.1 ∈ W0) (hfin : (F k).2.2.2 = false) {v : Int32} (hd : ty0 k = .int) (hl : k < fs.length) (hdg : decode cc pc = .ok (.putfield index, 3))
    (kk : ∀ (H1 : Heap) (locs1 : List Loc), va_P D vwCl (ws.set q0 (a, .inr (ci, fs.set k (.int v)))) H1 → va_D A (ws.set q0 (a, .inr (ci, fs.set k (.int v)))) → va_S A H0 H1 locs1 → W p l e R s m args below meth c H1 locs1 cells slots Q (F0 m (pc + 3) ls rest)) : W p l e R s m args below meth c H locs cells slots Q (F0 m pc ls (.int v :: .ref a :: rest)) :=
  va_put hexec hb hts hin ty0 hty hnm hown hK.1 hP hD hS0 q0 he hc k hk (hts _ hlink) (fun _ h => h) hfin (ty := .int) (by rw [hty k hk, hd]) rfl rfl hl hdg kk
theorem r_putz (hexec : p.tables.exec = Jvm.exec) (hb : c.code = cc) (hK : KN D T s) (hts : ∀ w ∈ W0, w.before args s = true) {own C : String} {F : u_T} {N ci index : Nat} (hin : ∀ w ∈ u_ws C F N, w ∈ W0) (ty0 : Nat → FieldType) (hty : ∀ k, k < N → parseFieldDescriptor (F k).2.2.1 = some (ty0 k)) (hnm : ∀ a, a < N → ∀ b, b < N → a ≠ b → (F a).2.1 ≠ (F b).2.1) (hown : s.vm.findClass own = some m.cls) (hP : va_P D vwCl ws H) (hD : va_D A ws) (hS0 : va_S A H0 H locs) (q0 : Nat) {fs : List Value} (he : ws[q0]? = some (a, .inr (ci, fs))) (hc : vwCl[ci]? = some (C, F, N)) (k : Nat) (hk : k < N) (hlink : Cond.fieldLink own index (F k).1 (F k).2.1 (F k).2.2.1 ∈ W0) (hfin : (F k).2.2.2 = false) {b : Bool} (hd : ty0 k = .boolean) (hl : k < fs.length) (hdg : decode cc pc = .ok (.putfield index, 3))
    (kk : ∀ (H1 : Heap) (locs1 : List Loc), va_P D vwCl (ws.set q0 (a, .inr (ci, fs.set k (.int (bI b))))) H1 → va_D A (ws.set q0 (a, .inr (ci, fs.set k (.int (bI b))))) → va_S A H0 H1 locs1 → W p l e R s m args below meth c H1 locs1 cells slots Q (F0 m (pc + 3) ls rest)) : W p l e R s m args below meth c H locs cells slots Q (F0 m pc ls (.int (bI b) :: .ref a :: rest)) :=
  va_put hexec hb hts hin ty0 hty hnm hown hK.1 hP hD hS0 q0 he hc k hk (hts _ hlink) (fun _ h => h) hfin (ty := .boolean) (by rw [hty k hk, hd]) (by cases b <;> rfl) (by cases b <;> rfl) hl hdg kk
theorem r_putN (hexec : p.tables.exec = Jvm.exec) (hb : c.code = cc) (hK : KN D T s) (hts : ∀ w ∈ W0, w.before args s = true) {own C host : String} {F : u_T} {N ci index : Nat} (hin : ∀ w ∈ u_ws C F N, w ∈ W0) (ty0 : Nat → FieldType) (hty : ∀ k, k < N → parseFieldDescriptor (F k).2.2.1 = some (ty0 k)) (hnm : ∀ a, a < N → ∀ b, b < N → a ≠ b → (F a).2.1 ≠ (F b).2.1) (hown : s.vm.findClass own = some m.cls) (hP : va_P D vwCl ws H) (hD : va_D A ws) (hS0 : va_S A H0 H locs) (q0 : Nat) {fs : List Value} (he : ws[q0]? = some (a, .inr (ci, fs))) (hc : vwCl[ci]? = some (C, F, N)) (k : Nat) (hk : k < N) (hlink : Cond.fieldLinkNest own index (F k).1 (F k).2.1 (F k).2.2.1 host ∈ NWS) (hfin : (F k).2.2.2 = false) {v : Int32} (hd : ty0 k = .int) (hl : k < fs.length) (hdg : decode cc pc = .ok (.putfield index, 3))
    (kk : ∀ (H1 : Heap) (locs1 : List Loc), va_P D vwCl (ws.set q0 (a, .inr (ci, fs.set k (.int v)))) H1 → va_D A (ws.set q0 (a, .inr (ci, fs.set k (.int v)))) → va_S A H0 H1 locs1 → W p l e R s m args below meth c H1 locs1 cells slots Q (F0 m (pc + 3) ls rest)) : W p l e R s m args below meth c H locs cells slots Q (F0 m pc ls (.int v :: .ref a :: rest)) :=
  va_putN hexec hb hts hin ty0 hty hnm hown hK.1 hP hD hS0 q0 he hc k hk (va_Nw.use rfl (hK.2.1 _ hlink)) (fun _ h => h) hfin (ty := .int) (by rw [hty k hk, hd]) rfl rfl hl hdg kk
end ROWS
