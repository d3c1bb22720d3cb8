-- ===== PART A: goes FIRST, ahead of the names: the tables' words, and 'selects' of the private methods out of them =====
/-- a private method of a class that the tables say can be made, by its rows of tables_1 -/
def lw_okq (q : MethodName × Nat) : Prop := (q.1.cls ≠ "java/lang/invoke/MethodHandle" ∧ q.1.cls ≠ "java/lang/invoke/VarHandle") ∧ Cond.instantiable q.1.cls q.2 ∈ tables_1 ∧ Cond.privateMethod q.1 ∈ tables_1 ∧ Cond.instanceMethod q.1 ∈ tables_1
theorem lw_p0 : lw_okq (⟨"java/lang/Throwable", "fillInStackTrace", "(I)Ljava/lang/Throwable;"⟩, 6) := ⟨⟨by decide +kernel, by decide +kernel⟩, List.mem_of_getElem? (i := 234) (by decide +kernel), List.mem_of_getElem? (i := 232) (by decide +kernel), List.mem_of_getElem? (i := 233) (by decide +kernel)⟩
theorem lw_p1 : lw_okq (⟨"HydrantRounds$History", "dropOldest", "()V"⟩, 2) := ⟨⟨by decide +kernel, by decide +kernel⟩, List.mem_of_getElem? (i := 137) (by decide +kernel), List.mem_of_getElem? (i := 268) (by decide +kernel), List.mem_of_getElem? (i := 269) (by decide +kernel)⟩
theorem lw_p2 : lw_okq (⟨"HydrantRounds$Hour", "reasonToWait", "(LHydrantRounds$State;I)I"⟩, 3) := ⟨⟨by decide +kernel, by decide +kernel⟩, List.mem_of_getElem? (i := 119) (by decide +kernel), List.mem_of_getElem? (i := 305) (by decide +kernel), List.mem_of_getElem? (i := 306) (by decide +kernel)⟩
theorem lw_p3 : lw_okq (⟨"HydrantRounds$Hour", "flushOut", "(LHydrantRounds$State;)V"⟩, 3) := ⟨⟨by decide +kernel, by decide +kernel⟩, List.mem_of_getElem? (i := 119) (by decide +kernel), List.mem_of_getElem? (i := 321) (by decide +kernel), List.mem_of_getElem? (i := 322) (by decide +kernel)⟩
theorem lw_p4 : lw_okq (⟨"HydrantRounds$Hour", "carryOn", "(LHydrantRounds$State;)V"⟩, 3) := ⟨⟨by decide +kernel, by decide +kernel⟩, List.mem_of_getElem? (i := 119) (by decide +kernel), List.mem_of_getElem? (i := 332) (by decide +kernel), List.mem_of_getElem? (i := 333) (by decide +kernel)⟩
theorem lw_p5 : lw_okq (⟨"HydrantRounds$Hour", "complain", "(LHydrantRounds$State;)V"⟩, 3) := ⟨⟨by decide +kernel, by decide +kernel⟩, List.mem_of_getElem? (i := 119) (by decide +kernel), List.mem_of_getElem? (i := 346) (by decide +kernel), List.mem_of_getElem? (i := 347) (by decide +kernel)⟩
def lw_privs_1 : List (MethodName × Nat) := [(⟨"java/lang/Throwable", "fillInStackTrace", "(I)Ljava/lang/Throwable;"⟩, 6), (⟨"HydrantRounds$History", "dropOldest", "()V"⟩, 2), (⟨"HydrantRounds$Hour", "reasonToWait", "(LHydrantRounds$State;I)I"⟩, 3), (⟨"HydrantRounds$Hour", "flushOut", "(LHydrantRounds$State;)V"⟩, 3), (⟨"HydrantRounds$Hour", "carryOn", "(LHydrantRounds$State;)V"⟩, 3), (⟨"HydrantRounds$Hour", "complain", "(LHydrantRounds$State;)V"⟩, 3)]
theorem lw_r1 : ∀ q ∈ lw_privs_1, lw_okq q := List.forall_mem_cons.mpr ⟨lw_p0, List.forall_mem_cons.mpr ⟨lw_p1, List.forall_mem_cons.mpr ⟨lw_p2, List.forall_mem_cons.mpr ⟨lw_p3, List.forall_mem_cons.mpr ⟨lw_p4, List.forall_mem_cons.mpr ⟨lw_p5, fun _ h => absurd h List.not_mem_nil⟩⟩⟩⟩⟩⟩
def lw_privs : List (MethodName × Nat) := lw_privs_1
def lw_tbl : List Cond := k2_sels lw_privs ++ tables_1
theorem lw_privs_ok : ∀ q ∈ lw_privs, lw_okq q := lw_r1
/-- the streams that the claim lets the run draw from -/
abbrev lw_cs : List Choice := [Jvm.Choice.named "NaN.bits"]
theorem lw_bits : nanBits ∈ lw_cs := by first | decide | exact List.mem_cons_self | simp [lw_cs, nanBits]

def RX0 : String := "HydrantRounds$History"
def TX0 : u_T := fun k => match k with
  | 0 => ("HydrantRounds$History", "states", "[LHydrantRounds$State;", true)
  | _ => ("HydrantRounds$History", "kept", "I", false)
def tyX0 : Nat → FieldType := fun k => match k with
  | 0 => .array (.object "HydrantRounds$State")
  | _ => .int
theorem nmX0 : ∀ a, a < 2 → ∀ b, b < 2 → a ≠ b → (TX0 a).2.1 ≠ (TX0 b).2.1 := by decide +kernel
theorem tyX0_ok : ∀ k, k < 2 → parseFieldDescriptor (TX0 k).2.2.1 = some (tyX0 k) := by decide +kernel
abbrev cX0_init : ByteArray := prog_2_method_1_code
def yX0_init : MethodName := ⟨RX0, "<init>", "()V"⟩
abbrev cX0_keep : ByteArray := prog_2_method_2_code
def yX0_keep : MethodName := ⟨RX0, "keep", "(LHydrantRounds$State;)V"⟩
abbrev cX0_restore : ByteArray := prog_2_method_3_code
def yX0_restore : MethodName := ⟨RX0, "restore", "(LHydrantRounds$State;)V"⟩
abbrev cX0_dropOldest : ByteArray := prog_2_method_4_code
def yX0_dropOldest : MethodName := ⟨RX0, "dropOldest", "()V"⟩
def RX1 : String := "HydrantRounds$Hour"
def TX1 : u_T := fun k => match k with
  | 0 => ("HydrantRounds$Hour", "workers", "[I", true)
  | 1 => ("HydrantRounds$Hour", "drawn", "[I", true)
  | _ => ("HydrantRounds$Hour", "reasons", "[I", true)
def tyX1 : Nat → FieldType := fun k => match k with
  | 0 => .array .int
  | 1 => .array .int
  | _ => .array .int
theorem nmX1 : ∀ a, a < 3 → ∀ b, b < 3 → a ≠ b → (TX1 a).2.1 ≠ (TX1 b).2.1 := by decide +kernel
theorem tyX1_ok : ∀ k, k < 3 → parseFieldDescriptor (TX1 k).2.2.1 = some (tyX1 k) := by decide +kernel
abbrev cX1_init : ByteArray := prog_3_method_1_code
def yX1_init : MethodName := ⟨RX1, "<init>", "()V"⟩
abbrev cX1_playMany : ByteArray := prog_3_method_2_code
def yX1_playMany : MethodName := ⟨RX1, "playMany", "(LHydrantRounds$State;I)I"⟩
abbrev cX1_play : ByteArray := prog_3_method_3_code
def yX1_play : MethodName := ⟨RX1, "play", "(LHydrantRounds$State;)V"⟩
abbrev cX1_shutAll : ByteArray := prog_3_method_4_code
def yX1_shutAll : MethodName := ⟨RX1, "shutAll", "()V"⟩
abbrev cX1_openHydrants : ByteArray := prog_3_method_5_code
def yX1_openHydrants : MethodName := ⟨RX1, "openHydrants", "(LHydrantRounds$State;)V"⟩
abbrev cX1_reasonToWait : ByteArray := prog_3_method_6_code
def yX1_reasonToWait : MethodName := ⟨RX1, "reasonToWait", "(LHydrantRounds$State;I)I"⟩
abbrev cX1_flushOut : ByteArray := prog_3_method_7_code
def yX1_flushOut : MethodName := ⟨RX1, "flushOut", "(LHydrantRounds$State;)V"⟩
abbrev cX1_carryOn : ByteArray := prog_3_method_8_code
def yX1_carryOn : MethodName := ⟨RX1, "carryOn", "(LHydrantRounds$State;)V"⟩
abbrev cX1_complain : ByteArray := prog_3_method_9_code
def yX1_complain : MethodName := ⟨RX1, "complain", "(LHydrantRounds$State;)V"⟩
def RX2 : String := "HydrantRounds$RoundsText"
def TX2 : u_T := fun k => match k with
  | 0 => ("HydrantRounds$RoundsText", "codes", "[I", true)
  | 1 => ("HydrantRounds$RoundsText", "length", "I", false)
  | 2 => ("HydrantRounds$RoundsText", "place", "I", false)
  | _ => ("HydrantRounds$RoundsText", "partStreets", "I", false)
def tyX2 : Nat → FieldType := fun k => match k with
  | 0 => .array .int
  | 1 => .int
  | 2 => .int
  | _ => .int
theorem nmX2 : ∀ a, a < 4 → ∀ b, b < 4 → a ≠ b → (TX2 a).2.1 ≠ (TX2 b).2.1 := by decide +kernel
theorem tyX2_ok : ∀ k, k < 4 → parseFieldDescriptor (TX2 k).2.2.1 = some (tyX2 k) := by decide +kernel
abbrev cX2_init : ByteArray := prog_4_method_1_code
def yX2_init : MethodName := ⟨RX2, "<init>", "()V"⟩
def RX3 : String := "HydrantRounds$State"
def TX3 : u_T := fun k => match k with
  | 0 => ("HydrantRounds$State", "zonePressure", "[I", true)
  | 1 => ("HydrantRounds$State", "valveOpen", "[Z", true)
  | 2 => ("HydrantRounds$State", "settings", "[I", true)
  | 3 => ("HydrantRounds$State", "dirtIn", "[I", true)
  | 4 => ("HydrantRounds$State", "takes", "[I", true)
  | 5 => ("HydrantRounds$State", "wasBrown", "[Z", true)
  | 6 => ("HydrantRounds$State", "complaints", "[I", true)
  | 7 => ("HydrantRounds$State", "flushed", "[I", true)
  | 8 => ("HydrantRounds$State", "openHours", "[I", true)
  | 9 => ("HydrantRounds$State", "tours", "[LHydrantRounds$Tour;", true)
  | 10 => ("HydrantRounds$State", "hours", "I", false)
  | 11 => ("HydrantRounds$State", "waitedHours", "I", false)
  | _ => ("HydrantRounds$State", "lostDirt", "I", false)
def tyX3 : Nat → FieldType := fun k => match k with
  | 0 => .array .int
  | 1 => .array .boolean
  | 2 => .array .int
  | 3 => .array .int
  | 4 => .array .int
  | 5 => .array .boolean
  | 6 => .array .int
  | 7 => .array .int
  | 8 => .array .int
  | 9 => .array (.object "HydrantRounds$Tour")
  | 10 => .int
  | 11 => .int
  | _ => .int
theorem nmX3 : ∀ a, a < 13 → ∀ b, b < 13 → a ≠ b → (TX3 a).2.1 ≠ (TX3 b).2.1 := by decide +kernel
theorem tyX3_ok : ∀ k, k < 13 → parseFieldDescriptor (TX3 k).2.2.1 = some (tyX3 k) := by decide +kernel
abbrev cX3_init : ByteArray := prog_5_method_1_code
def yX3_init : MethodName := ⟨RX3, "<init>", "()V"⟩
abbrev cX3_copyFrom : ByteArray := prog_5_method_2_code
def yX3_copyFrom : MethodName := ⟨RX3, "copyFrom", "(LHydrantRounds$State;)V"⟩
abbrev cX3_isBrown : ByteArray := prog_5_method_3_code
def yX3_isBrown : MethodName := ⟨RX3, "isBrown", "(I)Z"⟩
abbrev cX3_brownStreets : ByteArray := prog_5_method_4_code
def yX3_brownStreets : MethodName := ⟨RX3, "brownStreets", "()I"⟩
abbrev cX3_streetsInTours : ByteArray := prog_5_method_5_code
def yX3_streetsInTours : MethodName := ⟨RX3, "streetsInTours", "()I"⟩
abbrev cX3_sourceOf : ByteArray := prog_5_method_6_code
def yX3_sourceOf : MethodName := ⟨RX3, "sourceOf", "(I)I"⟩
abbrev cX3_fedBy : ByteArray := prog_5_method_7_code
def yX3_fedBy : MethodName := ⟨RX3, "fedBy", "(I)I"⟩
abbrev cX3_pressureAt : ByteArray := prog_5_method_8_code
def yX3_pressureAt : MethodName := ⟨RX3, "pressureAt", "(I[I)I"⟩
abbrev cX3_addDirt : ByteArray := prog_5_method_9_code
def yX3_addDirt : MethodName := ⟨RX3, "addDirt", "(II)V"⟩
def RX4 : String := "HydrantRounds$Tour"
def TX4 : u_T := fun k => match k with
  | 0 => ("HydrantRounds$Tour", "streets", "[I", true)
  | _ => ("HydrantRounds$Tour", "length", "I", false)
def tyX4 : Nat → FieldType := fun k => match k with
  | 0 => .array .int
  | _ => .int
theorem nmX4 : ∀ a, a < 2 → ∀ b, b < 2 → a ≠ b → (TX4 a).2.1 ≠ (TX4 b).2.1 := by decide +kernel
theorem tyX4_ok : ∀ k, k < 2 → parseFieldDescriptor (TX4 k).2.2.1 = some (tyX4 k) := by decide +kernel
abbrev cX4_init : ByteArray := prog_6_method_1_code
def yX4_init : MethodName := ⟨RX4, "<init>", "()V"⟩
abbrev cX4_isFull : ByteArray := prog_6_method_2_code
def yX4_isFull : MethodName := ⟨RX4, "isFull", "()Z"⟩
abbrev cX4_at : ByteArray := prog_6_method_3_code
def yX4_at : MethodName := ⟨RX4, "at", "(I)I"⟩
abbrev cX4_putLast : ByteArray := prog_6_method_4_code
def yX4_putLast : MethodName := ⟨RX4, "putLast", "(I)V"⟩
abbrev cX4_dropFirst : ByteArray := prog_6_method_5_code
def yX4_dropFirst : MethodName := ⟨RX4, "dropFirst", "()V"⟩
abbrev cX4_copyFrom : ByteArray := prog_6_method_7_code
def yX4_copyFrom : MethodName := ⟨RX4, "copyFrom", "(LHydrantRounds$Tour;)V"⟩
def RX5 : String := "HydrantRounds"
def TX5 : u_T := fun k => match k with
  | 0 => ("HydrantRounds", "now", "LHydrantRounds$State;", true)
  | 1 => ("HydrantRounds", "trial", "LHydrantRounds$State;", true)
  | 2 => ("HydrantRounds", "hour", "LHydrantRounds$Hour;", true)
  | 3 => ("HydrantRounds", "history", "LHydrantRounds$History;", true)
  | _ => ("HydrantRounds", "text", "LHydrantRounds$RoundsText;", true)
def tyX5 : Nat → FieldType := fun k => match k with
  | 0 => .object "HydrantRounds$State"
  | 1 => .object "HydrantRounds$State"
  | 2 => .object "HydrantRounds$Hour"
  | 3 => .object "HydrantRounds$History"
  | _ => .object "HydrantRounds$RoundsText"
theorem nmX5 : ∀ a, a < 5 → ∀ b, b < 5 → a ≠ b → (TX5 a).2.1 ≠ (TX5 b).2.1 := by decide +kernel
theorem tyX5_ok : ∀ k, k < 5 → parseFieldDescriptor (TX5 k).2.2.1 = some (tyX5 k) := by decide +kernel
abbrev cX5_init : ByteArray := prog_1_method_1_code
def yX5_init : MethodName := ⟨RX5, "<init>", "()V"⟩
abbrev cX5_pressure : ByteArray := prog_1_method_2_code
def yX5_pressure : MethodName := ⟨RX5, "pressure", "(II)I"⟩
abbrev cX5_valve : ByteArray := prog_1_method_3_code
def yX5_valve : MethodName := ⟨RX5, "valve", "(IZ)I"⟩
abbrev cX5_dirt : ByteArray := prog_1_method_4_code
def yX5_dirt : MethodName := ⟨RX5, "dirt", "(II)I"⟩
abbrev cX5_hydrant : ByteArray := prog_1_method_5_code
def yX5_hydrant : MethodName := ⟨RX5, "hydrant", "(II)I"⟩
abbrev cX5_send : ByteArray := prog_1_method_6_code
def yX5_send : MethodName := ⟨RX5, "send", "(II)I"⟩
abbrev cX5_skip : ByteArray := prog_1_method_7_code
def yX5_skip : MethodName := ⟨RX5, "skip", "(I)I"⟩
abbrev cX5_set : ByteArray := prog_1_method_8_code
def yX5_set : MethodName := ⟨RX5, "set", "(II)I"⟩
abbrev cX5_pass : ByteArray := prog_1_method_9_code
def yX5_pass : MethodName := ⟨RX5, "pass", "(I)I"⟩
abbrev cX5_undo : ByteArray := prog_1_method_14_code
def yX5_undo : MethodName := ⟨RX5, "undo", "()I"⟩
abbrev cX5_street : ByteArray := prog_1_method_15_code
def yX5_street : MethodName := ⟨RX5, "street", "(II)I"⟩
abbrev cX5_round : ByteArray := prog_1_method_16_code
def yX5_round : MethodName := ⟨RX5, "round", "(II)I"⟩
abbrev cX5_count : ByteArray := prog_1_method_17_code
def yX5_count : MethodName := ⟨RX5, "count", "(I)I"⟩
abbrev cX5_setting : ByteArray := prog_1_method_18_code
def yX5_setting : MethodName := ⟨RX5, "setting", "(I)I"⟩
abbrev cX5_waits : ByteArray := prog_1_method_19_code
def yX5_waits : MethodName := ⟨RX5, "waits", "(I)I"⟩
abbrev cX5_ifPassed : ByteArray := prog_1_method_20_code
def yX5_ifPassed : MethodName := ⟨RX5, "ifPassed", "(II)I"⟩
abbrev cX5_clearIn : ByteArray := prog_1_method_22_code
def yX5_clearIn : MethodName := ⟨RX5, "clearIn", "()I"⟩
abbrev cX5_leastPressure : ByteArray := prog_1_method_23_code
def yX5_leastPressure : MethodName := ⟨RX5, "leastPressure", "(I)I"⟩
abbrev cX5_cleanShare : ByteArray := prog_1_method_24_code
def yX5_cleanShare : MethodName := ⟨RX5, "cleanShare", "()D"⟩
abbrev cX5_requireIndex : ByteArray := prog_1_method_32_code
def yX5_requireIndex : MethodName := ⟨RX5, "requireIndex", "(II)V"⟩
abbrev cX5_requireRange : ByteArray := prog_1_method_33_code
def yX5_requireRange : MethodName := ⟨RX5, "requireRange", "(III)V"⟩
abbrev cX5_sum : ByteArray := prog_1_method_34_code
def yX5_sum : MethodName := ⟨RX5, "sum", "([I)I"⟩
def RX6 : String := "HydrantRoundsModel"
def TX6 : u_T := fun k => match k with
  | _ => ("", "", "", false)
def tyX6 : Nat → FieldType := fun k => match k with
  | _ => .int
theorem nmX6 : ∀ a, a < 0 → ∀ b, b < 0 → a ≠ b → (TX6 a).2.1 ≠ (TX6 b).2.1 := by decide +kernel
theorem tyX6_ok : ∀ k, k < 0 → parseFieldDescriptor (TX6 k).2.2.1 = some (tyX6 k) := by decide +kernel
def RJx145de : String := "java/io/Serializable"
def TJx145de : u_T := fun k => match k with
  | _ => ("", "", "", false)
def RJ9 : String := "java/lang/Math"
def TJ9 : u_T := fun k => match k with
  | _ => ("", "", "", false)
abbrev cJ9_min_7cf53 : ByteArray := prog_13_method_69_code
def yJ9_min_7cf53 : MethodName := ⟨RJ9, "min", "(II)I"⟩
def RJ0 : String := "java/lang/String"
def TJ0 : u_T := fun k => match k with
  | _ => ("", "", "", false)
def RJ10 : String := "java/lang/System"
def TJ10 : u_T := fun k => match k with
  | _ => ("", "", "", false)
def RJ7 : String := "java/util/Arrays"
def TJ7 : u_T := fun k => match k with
  | _ => ("", "", "", false)
abbrev cJ7_fill_53178 : ByteArray := prog_18_method_103_code
def yJ7_fill_53178 : MethodName := ⟨RJ7, "fill", "([II)V"⟩
def RL : String := "HydrantRoundsLaw"
abbrev cL_low : ByteArray := method_2_code
def yL_low : MethodName := ⟨RL, "low", "(II)I"⟩
abbrev cL_cell : ByteArray := method_3_code
def yL_cell : MethodName := ⟨RL, "cell", "([II)I"⟩
abbrev cL_send : ByteArray := method_4_code
def yL_send : MethodName := ⟨RL, "send", "(LHydrantRounds;II)I"⟩
abbrev cL_undo : ByteArray := method_5_code
def yL_undo : MethodName := ⟨RL, "undo", "(LHydrantRounds;)I"⟩
abbrev cL_town : ByteArray := method_6_code
def yL_town : MethodName := ⟨RL, "town", "(LHydrantRounds;)Z"⟩
abbrev cL_act : ByteArray := method_7_code
def yL_act : MethodName := ⟨RL, "act", "(LHydrantRounds;[II)I"⟩
abbrev cL_law : ByteArray := code
def yL_law : MethodName := ⟨RL, "law", "([I)Z"⟩
abbrev vwCl : List vw_C := [(RX0, TX0, 2), (RX1, TX1, 3), (RX2, TX2, 4), (RX3, TX3, 13), (RX4, TX4, 2), (RX5, TX5, 5)]
