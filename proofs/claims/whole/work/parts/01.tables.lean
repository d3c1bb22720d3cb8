-- ===== PART A: goes FIRST, ahead of the names: the tables' words, and 'selects' of the private methods out of them =====
/-- a private method of a class that the tables say can be made, by its rows of tables_1 -/
def lw_okq (q : MethodName × Nat) : Prop := (q.1.cls ≠ "java/lang/invoke/MethodHandle" ∧ q.1.cls ≠ "java/lang/invoke/VarHandle") ∧ Cond.instantiable q.1.cls q.2 ∈ tables_1 ∧ Cond.privateMethod q.1 ∈ tables_1 ∧ Cond.instanceMethod q.1 ∈ tables_1
theorem lw_p0 : lw_okq (⟨"HydrantRounds$RoundsText", "canTake", "(I)Z"⟩, 4) := ⟨⟨by decide +kernel, by decide +kernel⟩, List.mem_of_getElem? (i := 159) (by decide +kernel), List.mem_of_getElem? (i := 212) (by decide +kernel), List.mem_of_getElem? (i := 213) (by decide +kernel)⟩
theorem lw_p1 : lw_okq (⟨"HydrantRounds$RoundsText", "canSeparate", "(I)Z"⟩, 4) := ⟨⟨by decide +kernel, by decide +kernel⟩, List.mem_of_getElem? (i := 159) (by decide +kernel), List.mem_of_getElem? (i := 222) (by decide +kernel), List.mem_of_getElem? (i := 223) (by decide +kernel)⟩
theorem lw_p2 : lw_okq (⟨"HydrantRounds$Hour", "reasonToWait", "(LHydrantRounds$State;I)I"⟩, 3) := ⟨⟨by decide +kernel, by decide +kernel⟩, List.mem_of_getElem? (i := 124) (by decide +kernel), List.mem_of_getElem? (i := 275) (by decide +kernel), List.mem_of_getElem? (i := 276) (by decide +kernel)⟩
theorem lw_p3 : lw_okq (⟨"HydrantRounds$Hour", "flushOut", "(LHydrantRounds$State;)V"⟩, 3) := ⟨⟨by decide +kernel, by decide +kernel⟩, List.mem_of_getElem? (i := 124) (by decide +kernel), List.mem_of_getElem? (i := 291) (by decide +kernel), List.mem_of_getElem? (i := 292) (by decide +kernel)⟩
theorem lw_p4 : lw_okq (⟨"HydrantRounds$Hour", "carryOn", "(LHydrantRounds$State;)V"⟩, 3) := ⟨⟨by decide +kernel, by decide +kernel⟩, List.mem_of_getElem? (i := 124) (by decide +kernel), List.mem_of_getElem? (i := 302) (by decide +kernel), List.mem_of_getElem? (i := 303) (by decide +kernel)⟩
theorem lw_p5 : lw_okq (⟨"HydrantRounds$Hour", "complain", "(LHydrantRounds$State;)V"⟩, 3) := ⟨⟨by decide +kernel, by decide +kernel⟩, List.mem_of_getElem? (i := 124) (by decide +kernel), List.mem_of_getElem? (i := 316) (by decide +kernel), List.mem_of_getElem? (i := 317) (by decide +kernel)⟩
theorem lw_p6 : lw_okq (⟨"java/lang/Throwable", "fillInStackTrace", "(I)Ljava/lang/Throwable;"⟩, 6) := ⟨⟨by decide +kernel, by decide +kernel⟩, List.mem_of_getElem? (i := 385) (by decide +kernel), List.mem_of_getElem? (i := 383) (by decide +kernel), List.mem_of_getElem? (i := 384) (by decide +kernel)⟩
theorem lw_p7 : lw_okq (⟨"HydrantRounds", "hashOfZones", "(J)J"⟩, 5) := ⟨⟨by decide +kernel, by decide +kernel⟩, List.mem_of_getElem? (i := 20) (by decide +kernel), List.mem_of_getElem? (i := 424) (by decide +kernel), List.mem_of_getElem? (i := 425) (by decide +kernel)⟩
theorem lw_p8 : lw_okq (⟨"HydrantRounds", "hashOfStreets", "(J)J"⟩, 5) := ⟨⟨by decide +kernel, by decide +kernel⟩, List.mem_of_getElem? (i := 20) (by decide +kernel), List.mem_of_getElem? (i := 428) (by decide +kernel), List.mem_of_getElem? (i := 429) (by decide +kernel)⟩
theorem lw_p9 : lw_okq (⟨"HydrantRounds", "hashOfCrews", "(J)J"⟩, 5) := ⟨⟨by decide +kernel, by decide +kernel⟩, List.mem_of_getElem? (i := 20) (by decide +kernel), List.mem_of_getElem? (i := 463) (by decide +kernel), List.mem_of_getElem? (i := 464) (by decide +kernel)⟩
theorem lw_p10 : lw_okq (⟨"HydrantRounds", "hashOfText", "(J)J"⟩, 5) := ⟨⟨by decide +kernel, by decide +kernel⟩, List.mem_of_getElem? (i := 20) (by decide +kernel), List.mem_of_getElem? (i := 485) (by decide +kernel), List.mem_of_getElem? (i := 486) (by decide +kernel)⟩
theorem lw_p11 : lw_okq (⟨"HydrantRounds$History", "dropOldest", "()V"⟩, 2) := ⟨⟨by decide +kernel, by decide +kernel⟩, List.mem_of_getElem? (i := 142) (by decide +kernel), List.mem_of_getElem? (i := 502) (by decide +kernel), List.mem_of_getElem? (i := 503) (by decide +kernel)⟩
theorem lw_p12 : lw_okq (⟨"HydrantRoundsModel", "fails", "(I)I"⟩, 12) := ⟨⟨by decide +kernel, by decide +kernel⟩, List.mem_of_getElem? (i := 665) (by decide +kernel), List.mem_of_getElem? (i := 716) (by decide +kernel), List.mem_of_getElem? (i := 717) (by decide +kernel)⟩
theorem lw_p13 : lw_okq (⟨"HydrantRoundsModel", "saves", "()V"⟩, 12) := ⟨⟨by decide +kernel, by decide +kernel⟩, List.mem_of_getElem? (i := 665) (by decide +kernel), List.mem_of_getElem? (i := 730) (by decide +kernel), List.mem_of_getElem? (i := 731) (by decide +kernel)⟩
theorem lw_p14 : lw_okq (⟨"HydrantRoundsModel", "changes", "(II)I"⟩, 12) := ⟨⟨by decide +kernel, by decide +kernel⟩, List.mem_of_getElem? (i := 665) (by decide +kernel), List.mem_of_getElem? (i := 734) (by decide +kernel), List.mem_of_getElem? (i := 735) (by decide +kernel)⟩
theorem lw_p15 : lw_okq (⟨"HydrantRoundsModel", "hour", "([I)V"⟩, 12) := ⟨⟨by decide +kernel, by decide +kernel⟩, List.mem_of_getElem? (i := 665) (by decide +kernel), List.mem_of_getElem? (i := 787) (by decide +kernel), List.mem_of_getElem? (i := 788) (by decide +kernel)⟩
def lw_privs_1 : List (MethodName × Nat) := [(⟨"HydrantRounds$RoundsText", "canTake", "(I)Z"⟩, 4), (⟨"HydrantRounds$RoundsText", "canSeparate", "(I)Z"⟩, 4), (⟨"HydrantRounds$Hour", "reasonToWait", "(LHydrantRounds$State;I)I"⟩, 3), (⟨"HydrantRounds$Hour", "flushOut", "(LHydrantRounds$State;)V"⟩, 3), (⟨"HydrantRounds$Hour", "carryOn", "(LHydrantRounds$State;)V"⟩, 3), (⟨"HydrantRounds$Hour", "complain", "(LHydrantRounds$State;)V"⟩, 3), (⟨"java/lang/Throwable", "fillInStackTrace", "(I)Ljava/lang/Throwable;"⟩, 6), (⟨"HydrantRounds", "hashOfZones", "(J)J"⟩, 5), (⟨"HydrantRounds", "hashOfStreets", "(J)J"⟩, 5), (⟨"HydrantRounds", "hashOfCrews", "(J)J"⟩, 5), (⟨"HydrantRounds", "hashOfText", "(J)J"⟩, 5), (⟨"HydrantRounds$History", "dropOldest", "()V"⟩, 2), (⟨"HydrantRoundsModel", "fails", "(I)I"⟩, 12), (⟨"HydrantRoundsModel", "saves", "()V"⟩, 12), (⟨"HydrantRoundsModel", "changes", "(II)I"⟩, 12), (⟨"HydrantRoundsModel", "hour", "([I)V"⟩, 12)]
theorem lw_r1 : ∀ q ∈ lw_privs_1, lw_okq q := List.forall_mem_cons.mpr ⟨lw_p0, List.forall_mem_cons.mpr ⟨lw_p1, List.forall_mem_cons.mpr ⟨lw_p2, List.forall_mem_cons.mpr ⟨lw_p3, List.forall_mem_cons.mpr ⟨lw_p4, List.forall_mem_cons.mpr ⟨lw_p5, List.forall_mem_cons.mpr ⟨lw_p6, List.forall_mem_cons.mpr ⟨lw_p7, List.forall_mem_cons.mpr ⟨lw_p8, List.forall_mem_cons.mpr ⟨lw_p9, List.forall_mem_cons.mpr ⟨lw_p10, List.forall_mem_cons.mpr ⟨lw_p11, List.forall_mem_cons.mpr ⟨lw_p12, List.forall_mem_cons.mpr ⟨lw_p13, List.forall_mem_cons.mpr ⟨lw_p14, List.forall_mem_cons.mpr ⟨lw_p15, fun _ h => absurd h List.not_mem_nil⟩⟩⟩⟩⟩⟩⟩⟩⟩⟩⟩⟩⟩⟩⟩⟩
theorem lw_p16 : lw_okq (⟨"HydrantRoundsModel", "lays", "([I)V"⟩, 12) := ⟨⟨by decide +kernel, by decide +kernel⟩, List.mem_of_getElem? (i := 665) (by decide +kernel), List.mem_of_getElem? (i := 791) (by decide +kernel), List.mem_of_getElem? (i := 792) (by decide +kernel)⟩
theorem lw_p17 : lw_okq (⟨"HydrantRoundsModel", "isText", "()Z"⟩, 12) := ⟨⟨by decide +kernel, by decide +kernel⟩, List.mem_of_getElem? (i := 665) (by decide +kernel), List.mem_of_getElem? (i := 822) (by decide +kernel), List.mem_of_getElem? (i := 823) (by decide +kernel)⟩
theorem lw_p18 : lw_okq (⟨"HydrantRoundsModel", "isPart", "()Z"⟩, 12) := ⟨⟨by decide +kernel, by decide +kernel⟩, List.mem_of_getElem? (i := 665) (by decide +kernel), List.mem_of_getElem? (i := 826) (by decide +kernel), List.mem_of_getElem? (i := 827) (by decide +kernel)⟩
theorem lw_p19 : lw_okq (⟨"HydrantRoundsModel", "isAt", "(II)Z"⟩, 12) := ⟨⟨by decide +kernel, by decide +kernel⟩, List.mem_of_getElem? (i := 665) (by decide +kernel), List.mem_of_getElem? (i := 830) (by decide +kernel), List.mem_of_getElem? (i := 831) (by decide +kernel)⟩
theorem lw_p20 : lw_okq (⟨"HydrantRoundsModel", "stops", "()Z"⟩, 12) := ⟨⟨by decide +kernel, by decide +kernel⟩, List.mem_of_getElem? (i := 665) (by decide +kernel), List.mem_of_getElem? (i := 834) (by decide +kernel), List.mem_of_getElem? (i := 835) (by decide +kernel)⟩
theorem lw_p21 : lw_okq (⟨"HydrantRoundsModel", "ofStreet", "(II)I"⟩, 12) := ⟨⟨by decide +kernel, by decide +kernel⟩, List.mem_of_getElem? (i := 665) (by decide +kernel), List.mem_of_getElem? (i := 849) (by decide +kernel), List.mem_of_getElem? (i := 850) (by decide +kernel)⟩
theorem lw_p22 : lw_okq (⟨"HydrantRoundsModel", "counted", "(I)I"⟩, 12) := ⟨⟨by decide +kernel, by decide +kernel⟩, List.mem_of_getElem? (i := 665) (by decide +kernel), List.mem_of_getElem? (i := 861) (by decide +kernel), List.mem_of_getElem? (i := 862) (by decide +kernel)⟩
theorem lw_p23 : lw_okq (⟨"HydrantRoundsModel", "byPassing", "(II)I"⟩, 12) := ⟨⟨by decide +kernel, by decide +kernel⟩, List.mem_of_getElem? (i := 665) (by decide +kernel), List.mem_of_getElem? (i := 880) (by decide +kernel), List.mem_of_getElem? (i := 881) (by decide +kernel)⟩
theorem lw_p24 : lw_okq (⟨"HydrantRoundsModel", "best", "()I"⟩, 12) := ⟨⟨by decide +kernel, by decide +kernel⟩, List.mem_of_getElem? (i := 665) (by decide +kernel), List.mem_of_getElem? (i := 888) (by decide +kernel), List.mem_of_getElem? (i := 889) (by decide +kernel)⟩
theorem lw_p25 : lw_okq (⟨"HydrantRoundsModel", "clears", "()I"⟩, 12) := ⟨⟨by decide +kernel, by decide +kernel⟩, List.mem_of_getElem? (i := 665) (by decide +kernel), List.mem_of_getElem? (i := 896) (by decide +kernel), List.mem_of_getElem? (i := 897) (by decide +kernel)⟩
theorem lw_p26 : lw_okq (⟨"HydrantRoundsModel", "least", "(I)I"⟩, 12) := ⟨⟨by decide +kernel, by decide +kernel⟩, List.mem_of_getElem? (i := 665) (by decide +kernel), List.mem_of_getElem? (i := 904) (by decide +kernel), List.mem_of_getElem? (i := 905) (by decide +kernel)⟩
theorem lw_p27 : lw_okq (⟨"HydrantRoundsModel", "share", "()D"⟩, 12) := ⟨⟨by decide +kernel, by decide +kernel⟩, List.mem_of_getElem? (i := 665) (by decide +kernel), List.mem_of_getElem? (i := 912) (by decide +kernel), List.mem_of_getElem? (i := 913) (by decide +kernel)⟩
def lw_privs_2 : List (MethodName × Nat) := [(⟨"HydrantRoundsModel", "lays", "([I)V"⟩, 12), (⟨"HydrantRoundsModel", "isText", "()Z"⟩, 12), (⟨"HydrantRoundsModel", "isPart", "()Z"⟩, 12), (⟨"HydrantRoundsModel", "isAt", "(II)Z"⟩, 12), (⟨"HydrantRoundsModel", "stops", "()Z"⟩, 12), (⟨"HydrantRoundsModel", "ofStreet", "(II)I"⟩, 12), (⟨"HydrantRoundsModel", "counted", "(I)I"⟩, 12), (⟨"HydrantRoundsModel", "byPassing", "(II)I"⟩, 12), (⟨"HydrantRoundsModel", "best", "()I"⟩, 12), (⟨"HydrantRoundsModel", "clears", "()I"⟩, 12), (⟨"HydrantRoundsModel", "least", "(I)I"⟩, 12), (⟨"HydrantRoundsModel", "share", "()D"⟩, 12)]
theorem lw_r2 : ∀ q ∈ lw_privs_2, lw_okq q := List.forall_mem_cons.mpr ⟨lw_p16, List.forall_mem_cons.mpr ⟨lw_p17, List.forall_mem_cons.mpr ⟨lw_p18, List.forall_mem_cons.mpr ⟨lw_p19, List.forall_mem_cons.mpr ⟨lw_p20, List.forall_mem_cons.mpr ⟨lw_p21, List.forall_mem_cons.mpr ⟨lw_p22, List.forall_mem_cons.mpr ⟨lw_p23, List.forall_mem_cons.mpr ⟨lw_p24, List.forall_mem_cons.mpr ⟨lw_p25, List.forall_mem_cons.mpr ⟨lw_p26, List.forall_mem_cons.mpr ⟨lw_p27, fun _ h => absurd h List.not_mem_nil⟩⟩⟩⟩⟩⟩⟩⟩⟩⟩⟩⟩
def lw_privs : List (MethodName × Nat) := lw_privs_1 ++ (lw_privs_2)
def lw_tbl : List Cond := k2_sels lw_privs ++ tables_1
theorem lw_privs_ok : ∀ q ∈ lw_privs, lw_okq q := by
  show ∀ q ∈ lw_privs_1 ++ (lw_privs_2), lw_okq q
  exact List.forall_mem_append.mpr ⟨lw_r1, lw_r2⟩
/-- the streams that the claim lets the run draw from -/
abbrev lw_cs : List Choice := [Jvm.Choice.named "NaN.bits"]
theorem lw_bits : nanBits ∈ lw_cs := by first | decide | exact List.mem_cons_self | simp [lw_cs, nanBits]

def RX0 : String := "HydrantRounds$History"
def TX0 : u_T := fun k => match k with
  | 0 => ("HydrantRounds$History", "states", "[LHydrantRounds$State;", true)
  | _ => ("HydrantRounds$History", "kept", "I", false)
def tyX0 : Nat → FieldType := fun k => match k with
  | 0 => .array (.object "HydrantRounds$State")
  | _ => .int
theorem nmX0 : ∀ a, a < 2 → ∀ b, b < 2 → a ≠ b → (TX0 a).2.1 ≠ (TX0 b).2.1 := by decide +kernel
theorem tyX0_ok : ∀ k, k < 2 → parseFieldDescriptor (TX0 k).2.2.1 = some (tyX0 k) := by decide +kernel
abbrev cX0_init : ByteArray := prog_2_method_1_code
def yX0_init : MethodName := ⟨RX0, "<init>", "()V"⟩
abbrev cX0_keep : ByteArray := prog_2_method_2_code
def yX0_keep : MethodName := ⟨RX0, "keep", "(LHydrantRounds$State;)V"⟩
abbrev cX0_restore : ByteArray := prog_2_method_3_code
def yX0_restore : MethodName := ⟨RX0, "restore", "(LHydrantRounds$State;)V"⟩
abbrev cX0_dropOldest : ByteArray := prog_2_method_4_code
def yX0_dropOldest : MethodName := ⟨RX0, "dropOldest", "()V"⟩
def RX1 : String := "HydrantRounds$Hour"
def TX1 : u_T := fun k => match k with
  | 0 => ("HydrantRounds$Hour", "workers", "[I", true)
  | 1 => ("HydrantRounds$Hour", "drawn", "[I", true)
  | _ => ("HydrantRounds$Hour", "reasons", "[I", true)
def tyX1 : Nat → FieldType := fun k => match k with
  | 0 => .array .int
  | 1 => .array .int
  | _ => .array .int
theorem nmX1 : ∀ a, a < 3 → ∀ b, b < 3 → a ≠ b → (TX1 a).2.1 ≠ (TX1 b).2.1 := by decide +kernel
theorem tyX1_ok : ∀ k, k < 3 → parseFieldDescriptor (TX1 k).2.2.1 = some (tyX1 k) := by decide +kernel
abbrev cX1_init : ByteArray := prog_3_method_1_code
def yX1_init : MethodName := ⟨RX1, "<init>", "()V"⟩
abbrev cX1_playMany : ByteArray := prog_3_method_2_code
def yX1_playMany : MethodName := ⟨RX1, "playMany", "(LHydrantRounds$State;I)I"⟩
abbrev cX1_play : ByteArray := prog_3_method_3_code
def yX1_play : MethodName := ⟨RX1, "play", "(LHydrantRounds$State;)V"⟩
abbrev cX1_shutAll : ByteArray := prog_3_method_4_code
def yX1_shutAll : MethodName := ⟨RX1, "shutAll", "()V"⟩
abbrev cX1_openHydrants : ByteArray := prog_3_method_5_code
def yX1_openHydrants : MethodName := ⟨RX1, "openHydrants", "(LHydrantRounds$State;)V"⟩
abbrev cX1_reasonToWait : ByteArray := prog_3_method_6_code
def yX1_reasonToWait : MethodName := ⟨RX1, "reasonToWait", "(LHydrantRounds$State;I)I"⟩
abbrev cX1_flushOut : ByteArray := prog_3_method_7_code
def yX1_flushOut : MethodName := ⟨RX1, "flushOut", "(LHydrantRounds$State;)V"⟩
abbrev cX1_carryOn : ByteArray := prog_3_method_8_code
def yX1_carryOn : MethodName := ⟨RX1, "carryOn", "(LHydrantRounds$State;)V"⟩
abbrev cX1_complain : ByteArray := prog_3_method_9_code
def yX1_complain : MethodName := ⟨RX1, "complain", "(LHydrantRounds$State;)V"⟩
def RX2 : String := "HydrantRounds$RoundsText"
def TX2 : u_T := fun k => match k with
  | 0 => ("HydrantRounds$RoundsText", "codes", "[I", true)
  | 1 => ("HydrantRounds$RoundsText", "length", "I", false)
  | 2 => ("HydrantRounds$RoundsText", "place", "I", false)
  | _ => ("HydrantRounds$RoundsText", "partStreets", "I", false)
def tyX2 : Nat → FieldType := fun k => match k with
  | 0 => .array .int
  | 1 => .int
  | 2 => .int
  | _ => .int
theorem nmX2 : ∀ a, a < 4 → ∀ b, b < 4 → a ≠ b → (TX2 a).2.1 ≠ (TX2 b).2.1 := by decide +kernel
theorem tyX2_ok : ∀ k, k < 4 → parseFieldDescriptor (TX2 k).2.2.1 = some (tyX2 k) := by decide +kernel
abbrev cX2_init : ByteArray := prog_4_method_1_code
def yX2_init : MethodName := ⟨RX2, "<init>", "()V"⟩
abbrev cX2_isFull : ByteArray := prog_4_method_2_code
def yX2_isFull : MethodName := ⟨RX2, "isFull", "()Z"⟩
abbrev cX2_putLast : ByteArray := prog_4_method_3_code
def yX2_putLast : MethodName := ⟨RX2, "putLast", "(I)V"⟩
abbrev cX2_empty : ByteArray := prog_4_method_4_code
def yX2_empty : MethodName := ⟨RX2, "empty", "()V"⟩
abbrev cX2_findError : ByteArray := prog_4_method_5_code
def yX2_findError : MethodName := ⟨RX2, "findError", "()I"⟩
abbrev cX2_isComplete : ByteArray := prog_4_method_6_code
def yX2_isComplete : MethodName := ⟨RX2, "isComplete", "()Z"⟩
abbrev cX2_giveTo : ByteArray := prog_4_method_7_code
def yX2_giveTo : MethodName := ⟨RX2, "giveTo", "(LHydrantRounds$State;)V"⟩
abbrev cX2_canTake : ByteArray := prog_4_method_8_code
def yX2_canTake : MethodName := ⟨RX2, "canTake", "(I)Z"⟩
abbrev cX2_canSeparate : ByteArray := prog_4_method_9_code
def yX2_canSeparate : MethodName := ⟨RX2, "canSeparate", "(I)Z"⟩
abbrev cX2_isCrew : ByteArray := prog_4_method_10_code
def yX2_isCrew : MethodName := ⟨RX2, "isCrew", "(I)Z"⟩
abbrev cX2_isDigit : ByteArray := prog_4_method_11_code
def yX2_isDigit : MethodName := ⟨RX2, "isDigit", "(I)Z"⟩
def RX3 : String := "HydrantRounds$State"
def TX3 : u_T := fun k => match k with
  | 0 => ("HydrantRounds$State", "zonePressure", "[I", true)
  | 1 => ("HydrantRounds$State", "valveOpen", "[Z", true)
  | 2 => ("HydrantRounds$State", "settings", "[I", true)
  | 3 => ("HydrantRounds$State", "dirtIn", "[I", true)
  | 4 => ("HydrantRounds$State", "takes", "[I", true)
  | 5 => ("HydrantRounds$State", "wasBrown", "[Z", true)
  | 6 => ("HydrantRounds$State", "complaints", "[I", true)
  | 7 => ("HydrantRounds$State", "flushed", "[I", true)
  | 8 => ("HydrantRounds$State", "openHours", "[I", true)
  | 9 => ("HydrantRounds$State", "tours", "[LHydrantRounds$Tour;", true)
  | 10 => ("HydrantRounds$State", "hours", "I", false)
  | 11 => ("HydrantRounds$State", "waitedHours", "I", false)
  | _ => ("HydrantRounds$State", "lostDirt", "I", false)
def tyX3 : Nat → FieldType := fun k => match k with
  | 0 => .array .int
  | 1 => .array .boolean
  | 2 => .array .int
  | 3 => .array .int
  | 4 => .array .int
  | 5 => .array .boolean
  | 6 => .array .int
  | 7 => .array .int
  | 8 => .array .int
  | 9 => .array (.object "HydrantRounds$Tour")
  | 10 => .int
  | 11 => .int
  | _ => .int
theorem nmX3 : ∀ a, a < 13 → ∀ b, b < 13 → a ≠ b → (TX3 a).2.1 ≠ (TX3 b).2.1 := by decide +kernel
theorem tyX3_ok : ∀ k, k < 13 → parseFieldDescriptor (TX3 k).2.2.1 = some (tyX3 k) := by decide +kernel
abbrev cX3_init : ByteArray := prog_5_method_1_code
def yX3_init : MethodName := ⟨RX3, "<init>", "()V"⟩
abbrev cX3_copyFrom : ByteArray := prog_5_method_2_code
def yX3_copyFrom : MethodName := ⟨RX3, "copyFrom", "(LHydrantRounds$State;)V"⟩
abbrev cX3_isBrown : ByteArray := prog_5_method_3_code
def yX3_isBrown : MethodName := ⟨RX3, "isBrown", "(I)Z"⟩
abbrev cX3_brownStreets : ByteArray := prog_5_method_4_code
def yX3_brownStreets : MethodName := ⟨RX3, "brownStreets", "()I"⟩
abbrev cX3_streetsInTours : ByteArray := prog_5_method_5_code
def yX3_streetsInTours : MethodName := ⟨RX3, "streetsInTours", "()I"⟩
abbrev cX3_sourceOf : ByteArray := prog_5_method_6_code
def yX3_sourceOf : MethodName := ⟨RX3, "sourceOf", "(I)I"⟩
abbrev cX3_fedBy : ByteArray := prog_5_method_7_code
def yX3_fedBy : MethodName := ⟨RX3, "fedBy", "(I)I"⟩
abbrev cX3_pressureAt : ByteArray := prog_5_method_8_code
def yX3_pressureAt : MethodName := ⟨RX3, "pressureAt", "(I[I)I"⟩
abbrev cX3_addDirt : ByteArray := prog_5_method_9_code
def yX3_addDirt : MethodName := ⟨RX3, "addDirt", "(II)V"⟩
abbrev cX3_flushOnly : ByteArray := prog_5_method_10_code
def yX3_flushOnly : MethodName := ⟨RX3, "flushOnly", "(I)V"⟩
def RX4 : String := "HydrantRounds$Tour"
def TX4 : u_T := fun k => match k with
  | 0 => ("HydrantRounds$Tour", "streets", "[I", true)
  | _ => ("HydrantRounds$Tour", "length", "I", false)
def tyX4 : Nat → FieldType := fun k => match k with
  | 0 => .array .int
  | _ => .int
theorem nmX4 : ∀ a, a < 2 → ∀ b, b < 2 → a ≠ b → (TX4 a).2.1 ≠ (TX4 b).2.1 := by decide +kernel
theorem tyX4_ok : ∀ k, k < 2 → parseFieldDescriptor (TX4 k).2.2.1 = some (tyX4 k) := by decide +kernel
abbrev cX4_init : ByteArray := prog_6_method_1_code
def yX4_init : MethodName := ⟨RX4, "<init>", "()V"⟩
abbrev cX4_isFull : ByteArray := prog_6_method_2_code
def yX4_isFull : MethodName := ⟨RX4, "isFull", "()Z"⟩
abbrev cX4_at : ByteArray := prog_6_method_3_code
def yX4_at : MethodName := ⟨RX4, "at", "(I)I"⟩
abbrev cX4_putLast : ByteArray := prog_6_method_4_code
def yX4_putLast : MethodName := ⟨RX4, "putLast", "(I)V"⟩
abbrev cX4_dropFirst : ByteArray := prog_6_method_5_code
def yX4_dropFirst : MethodName := ⟨RX4, "dropFirst", "()V"⟩
abbrev cX4_empty : ByteArray := prog_6_method_6_code
def yX4_empty : MethodName := ⟨RX4, "empty", "()V"⟩
abbrev cX4_copyFrom : ByteArray := prog_6_method_7_code
def yX4_copyFrom : MethodName := ⟨RX4, "copyFrom", "(LHydrantRounds$Tour;)V"⟩
def RX5 : String := "HydrantRounds"
def TX5 : u_T := fun k => match k with
  | 0 => ("HydrantRounds", "now", "LHydrantRounds$State;", true)
  | 1 => ("HydrantRounds", "trial", "LHydrantRounds$State;", true)
  | 2 => ("HydrantRounds", "hour", "LHydrantRounds$Hour;", true)
  | 3 => ("HydrantRounds", "history", "LHydrantRounds$History;", true)
  | _ => ("HydrantRounds", "text", "LHydrantRounds$RoundsText;", true)
def tyX5 : Nat → FieldType := fun k => match k with
  | 0 => .object "HydrantRounds$State"
  | 1 => .object "HydrantRounds$State"
  | 2 => .object "HydrantRounds$Hour"
  | 3 => .object "HydrantRounds$History"
  | _ => .object "HydrantRounds$RoundsText"
theorem nmX5 : ∀ a, a < 5 → ∀ b, b < 5 → a ≠ b → (TX5 a).2.1 ≠ (TX5 b).2.1 := by decide +kernel
theorem tyX5_ok : ∀ k, k < 5 → parseFieldDescriptor (TX5 k).2.2.1 = some (tyX5 k) := by decide +kernel
abbrev cX5_init : ByteArray := prog_1_method_1_code
def yX5_init : MethodName := ⟨RX5, "<init>", "()V"⟩
abbrev cX5_pressure : ByteArray := prog_1_method_2_code
def yX5_pressure : MethodName := ⟨RX5, "pressure", "(II)I"⟩
abbrev cX5_valve : ByteArray := prog_1_method_3_code
def yX5_valve : MethodName := ⟨RX5, "valve", "(IZ)I"⟩
abbrev cX5_dirt : ByteArray := prog_1_method_4_code
def yX5_dirt : MethodName := ⟨RX5, "dirt", "(II)I"⟩
abbrev cX5_hydrant : ByteArray := prog_1_method_5_code
def yX5_hydrant : MethodName := ⟨RX5, "hydrant", "(II)I"⟩
abbrev cX5_send : ByteArray := prog_1_method_6_code
def yX5_send : MethodName := ⟨RX5, "send", "(II)I"⟩
abbrev cX5_skip : ByteArray := prog_1_method_7_code
def yX5_skip : MethodName := ⟨RX5, "skip", "(I)I"⟩
abbrev cX5_set : ByteArray := prog_1_method_8_code
def yX5_set : MethodName := ⟨RX5, "set", "(II)I"⟩
abbrev cX5_pass : ByteArray := prog_1_method_9_code
def yX5_pass : MethodName := ⟨RX5, "pass", "(I)I"⟩
abbrev cX5_append : ByteArray := prog_1_method_10_code
def yX5_append : MethodName := ⟨RX5, "append", "(I)I"⟩
abbrev cX5_clearBuffer : ByteArray := prog_1_method_11_code
def yX5_clearBuffer : MethodName := ⟨RX5, "clearBuffer", "()I"⟩
abbrev cX5_firstError : ByteArray := prog_1_method_12_code
def yX5_firstError : MethodName := ⟨RX5, "firstError", "()I"⟩
abbrev cX5_rounds : ByteArray := prog_1_method_13_code
def yX5_rounds : MethodName := ⟨RX5, "rounds", "()I"⟩
abbrev cX5_undo : ByteArray := prog_1_method_14_code
def yX5_undo : MethodName := ⟨RX5, "undo", "()I"⟩
abbrev cX5_street : ByteArray := prog_1_method_15_code
def yX5_street : MethodName := ⟨RX5, "street", "(II)I"⟩
abbrev cX5_round : ByteArray := prog_1_method_16_code
def yX5_round : MethodName := ⟨RX5, "round", "(II)I"⟩
abbrev cX5_count : ByteArray := prog_1_method_17_code
def yX5_count : MethodName := ⟨RX5, "count", "(I)I"⟩
abbrev cX5_setting : ByteArray := prog_1_method_18_code
def yX5_setting : MethodName := ⟨RX5, "setting", "(I)I"⟩
abbrev cX5_waits : ByteArray := prog_1_method_19_code
def yX5_waits : MethodName := ⟨RX5, "waits", "(I)I"⟩
abbrev cX5_ifPassed : ByteArray := prog_1_method_20_code
def yX5_ifPassed : MethodName := ⟨RX5, "ifPassed", "(II)I"⟩
abbrev cX5_bestStreet : ByteArray := prog_1_method_21_code
def yX5_bestStreet : MethodName := ⟨RX5, "bestStreet", "()I"⟩
abbrev cX5_clearIn : ByteArray := prog_1_method_22_code
def yX5_clearIn : MethodName := ⟨RX5, "clearIn", "()I"⟩
abbrev cX5_leastPressure : ByteArray := prog_1_method_23_code
def yX5_leastPressure : MethodName := ⟨RX5, "leastPressure", "(I)I"⟩
abbrev cX5_cleanShare : ByteArray := prog_1_method_24_code
def yX5_cleanShare : MethodName := ⟨RX5, "cleanShare", "()D"⟩
abbrev cX5_digest : ByteArray := prog_1_method_25_code
def yX5_digest : MethodName := ⟨RX5, "digest", "()J"⟩
abbrev cX5_hashOfZones : ByteArray := prog_1_method_26_code
def yX5_hashOfZones : MethodName := ⟨RX5, "hashOfZones", "(J)J"⟩
abbrev cX5_hashOfStreets : ByteArray := prog_1_method_27_code
def yX5_hashOfStreets : MethodName := ⟨RX5, "hashOfStreets", "(J)J"⟩
abbrev cX5_hashOfCrews : ByteArray := prog_1_method_28_code
def yX5_hashOfCrews : MethodName := ⟨RX5, "hashOfCrews", "(J)J"⟩
abbrev cX5_hashOfText : ByteArray := prog_1_method_29_code
def yX5_hashOfText : MethodName := ⟨RX5, "hashOfText", "(J)J"⟩
abbrev cX5_mixed : ByteArray := prog_1_method_30_code
def yX5_mixed : MethodName := ⟨RX5, "mixed", "(JJ)J"⟩
abbrev cX5_shareBits : ByteArray := prog_1_method_31_code
def yX5_shareBits : MethodName := ⟨RX5, "shareBits", "(I)J"⟩
abbrev cX5_requireIndex : ByteArray := prog_1_method_32_code
def yX5_requireIndex : MethodName := ⟨RX5, "requireIndex", "(II)V"⟩
abbrev cX5_requireRange : ByteArray := prog_1_method_33_code
def yX5_requireRange : MethodName := ⟨RX5, "requireRange", "(III)V"⟩
abbrev cX5_sum : ByteArray := prog_1_method_34_code
def yX5_sum : MethodName := ⟨RX5, "sum", "([I)I"⟩
def RX6 : String := "HydrantRoundsModel"
def TX6 : u_T := fun k => match k with
  | 0 => ("HydrantRoundsModel", "now", "[I", true)
  | 1 => ("HydrantRoundsModel", "then", "[I", true)
  | 2 => ("HydrantRoundsModel", "past", "[I", true)
  | 3 => ("HydrantRoundsModel", "kept", "I", false)
  | 4 => ("HydrantRoundsModel", "text", "[I", true)
  | 5 => ("HydrantRoundsModel", "typed", "I", false)
  | 6 => ("HydrantRoundsModel", "thrown", "I", false)
  | 7 => ("HydrantRoundsModel", "at", "I", false)
  | 8 => ("HydrantRoundsModel", "isFault", "Z", false)
  | 9 => ("HydrantRoundsModel", "told", "[I", true)
  | 10 => ("HydrantRoundsModel", "whys", "[I", true)
  | _ => ("HydrantRoundsModel", "open", "I", false)
def tyX6 : Nat → FieldType := fun k => match k with
  | 0 => .array .int
  | 1 => .array .int
  | 2 => .array .int
  | 3 => .int
  | 4 => .array .int
  | 5 => .int
  | 6 => .int
  | 7 => .int
  | 8 => .boolean
  | 9 => .array .int
  | 10 => .array .int
  | _ => .int
theorem nmX6 : ∀ a, a < 12 → ∀ b, b < 12 → a ≠ b → (TX6 a).2.1 ≠ (TX6 b).2.1 := by decide +kernel
theorem tyX6_ok : ∀ k, k < 12 → parseFieldDescriptor (TX6 k).2.2.1 = some (tyX6 k) := by decide +kernel
abbrev cX6_init : ByteArray := prog_8_method_1_code
def yX6_init : MethodName := ⟨RX6, "<init>", "()V"⟩
abbrev cX6_thrown : ByteArray := prog_8_method_2_code
def yX6_thrown : MethodName := ⟨RX6, "thrown", "()I"⟩
abbrev cX6_fails : ByteArray := prog_8_method_3_code
def yX6_fails : MethodName := ⟨RX6, "fails", "(I)I"⟩
abbrev cX6_in : ByteArray := prog_8_method_4_code
def yX6_in : MethodName := ⟨RX6, "in", "(III)Z"⟩
abbrev cX6_isStreet : ByteArray := prog_8_method_5_code
def yX6_isStreet : MethodName := ⟨RX6, "isStreet", "(I)Z"⟩
abbrev cX6_isCrew : ByteArray := prog_8_method_6_code
def yX6_isCrew : MethodName := ⟨RX6, "isCrew", "(I)Z"⟩
abbrev cX6_of : ByteArray := prog_8_method_7_code
def yX6_of : MethodName := ⟨RX6, "of", "([III)I"⟩
abbrev cX6_first : ByteArray := prog_8_method_8_code
def yX6_first : MethodName := ⟨RX6, "first", "([II)I"⟩
abbrev cX6_copies : ByteArray := prog_8_method_9_code
def yX6_copies : MethodName := ⟨RX6, "copies", "([II[II)V"⟩
abbrev cX6_saves : ByteArray := prog_8_method_10_code
def yX6_saves : MethodName := ⟨RX6, "saves", "()V"⟩
abbrev cX6_undo : ByteArray := prog_8_method_11_code
def yX6_undo : MethodName := ⟨RX6, "undo", "()I"⟩
abbrev cX6_own : ByteArray := prog_8_method_12_code
def yX6_own : MethodName := ⟨RX6, "own", "([III)I"⟩
abbrev cX6_pressureAt : ByteArray := prog_8_method_13_code
def yX6_pressureAt : MethodName := ⟨RX6, "pressureAt", "([III)I"⟩
abbrev cX6_source : ByteArray := prog_8_method_14_code
def yX6_source : MethodName := ⟨RX6, "source", "([II)I"⟩
abbrev cX6_isBrown : ByteArray := prog_8_method_15_code
def yX6_isBrown : MethodName := ⟨RX6, "isBrown", "([II)Z"⟩
abbrev cX6_lays : ByteArray := prog_8_method_16_code
def yX6_lays : MethodName := ⟨RX6, "lays", "([I)V"⟩
abbrev cX6_comes : ByteArray := prog_8_method_17_code
def yX6_comes : MethodName := ⟨RX6, "comes", "([III)V"⟩
abbrev cX6_skips : ByteArray := prog_8_method_18_code
def yX6_skips : MethodName := ⟨RX6, "skips", "([II)V"⟩
abbrev cX6_hour : ByteArray := prog_8_method_19_code
def yX6_hour : MethodName := ⟨RX6, "hour", "([I)V"⟩
abbrev cX6_sum : ByteArray := prog_8_method_20_code
def yX6_sum : MethodName := ⟨RX6, "sum", "([II)I"⟩
abbrev cX6_brown : ByteArray := prog_8_method_21_code
def yX6_brown : MethodName := ⟨RX6, "brown", "([I)I"⟩
abbrev cX6_inRounds : ByteArray := prog_8_method_22_code
def yX6_inRounds : MethodName := ⟨RX6, "inRounds", "([I)I"⟩
abbrev cX6_changes : ByteArray := prog_8_method_23_code
def yX6_changes : MethodName := ⟨RX6, "changes", "(II)I"⟩
abbrev cX6_pressure : ByteArray := prog_8_method_24_code
def yX6_pressure : MethodName := ⟨RX6, "pressure", "(II)I"⟩
abbrev cX6_valve : ByteArray := prog_8_method_25_code
def yX6_valve : MethodName := ⟨RX6, "valve", "(IZ)I"⟩
abbrev cX6_dirt : ByteArray := prog_8_method_26_code
def yX6_dirt : MethodName := ⟨RX6, "dirt", "(II)I"⟩
abbrev cX6_hydrant : ByteArray := prog_8_method_27_code
def yX6_hydrant : MethodName := ⟨RX6, "hydrant", "(II)I"⟩
abbrev cX6_send : ByteArray := prog_8_method_28_code
def yX6_send : MethodName := ⟨RX6, "send", "(II)I"⟩
abbrev cX6_skip : ByteArray := prog_8_method_29_code
def yX6_skip : MethodName := ⟨RX6, "skip", "(I)I"⟩
abbrev cX6_isFor : ByteArray := prog_8_method_30_code
def yX6_isFor : MethodName := ⟨RX6, "isFor", "(II)Z"⟩
abbrev cX6_set : ByteArray := prog_8_method_31_code
def yX6_set : MethodName := ⟨RX6, "set", "(II)I"⟩
abbrev cX6_pass : ByteArray := prog_8_method_32_code
def yX6_pass : MethodName := ⟨RX6, "pass", "(I)I"⟩
abbrev cX6_append : ByteArray := prog_8_method_33_code
def yX6_append : MethodName := ⟨RX6, "append", "(I)I"⟩
abbrev cX6_clearBuffer : ByteArray := prog_8_method_34_code
def yX6_clearBuffer : MethodName := ⟨RX6, "clearBuffer", "()I"⟩
abbrev cX6_isAt : ByteArray := prog_8_method_35_code
def yX6_isAt : MethodName := ⟨RX6, "isAt", "(II)Z"⟩
abbrev cX6_stops : ByteArray := prog_8_method_36_code
def yX6_stops : MethodName := ⟨RX6, "stops", "()Z"⟩
abbrev cX6_isPart : ByteArray := prog_8_method_37_code
def yX6_isPart : MethodName := ⟨RX6, "isPart", "()Z"⟩
abbrev cX6_isText : ByteArray := prog_8_method_38_code
def yX6_isText : MethodName := ⟨RX6, "isText", "()Z"⟩
abbrev cX6_firstError : ByteArray := prog_8_method_39_code
def yX6_firstError : MethodName := ⟨RX6, "firstError", "()I"⟩
abbrev cX6_rounds : ByteArray := prog_8_method_40_code
def yX6_rounds : MethodName := ⟨RX6, "rounds", "()I"⟩
abbrev cX6_ofStreet : ByteArray := prog_8_method_41_code
def yX6_ofStreet : MethodName := ⟨RX6, "ofStreet", "(II)I"⟩
abbrev cX6_street : ByteArray := prog_8_method_42_code
def yX6_street : MethodName := ⟨RX6, "street", "(II)I"⟩
abbrev cX6_round : ByteArray := prog_8_method_43_code
def yX6_round : MethodName := ⟨RX6, "round", "(II)I"⟩
abbrev cX6_counted : ByteArray := prog_8_method_44_code
def yX6_counted : MethodName := ⟨RX6, "counted", "(I)I"⟩
abbrev cX6_count : ByteArray := prog_8_method_45_code
def yX6_count : MethodName := ⟨RX6, "count", "(I)I"⟩
abbrev cX6_setting : ByteArray := prog_8_method_46_code
def yX6_setting : MethodName := ⟨RX6, "setting", "(I)I"⟩
abbrev cX6_waits : ByteArray := prog_8_method_47_code
def yX6_waits : MethodName := ⟨RX6, "waits", "(I)I"⟩
abbrev cX6_byPassing : ByteArray := prog_8_method_48_code
def yX6_byPassing : MethodName := ⟨RX6, "byPassing", "(II)I"⟩
abbrev cX6_ifPassed : ByteArray := prog_8_method_49_code
def yX6_ifPassed : MethodName := ⟨RX6, "ifPassed", "(II)I"⟩
abbrev cX6_best : ByteArray := prog_8_method_50_code
def yX6_best : MethodName := ⟨RX6, "best", "()I"⟩
abbrev cX6_bestStreet : ByteArray := prog_8_method_51_code
def yX6_bestStreet : MethodName := ⟨RX6, "bestStreet", "()I"⟩
abbrev cX6_clears : ByteArray := prog_8_method_52_code
def yX6_clears : MethodName := ⟨RX6, "clears", "()I"⟩
abbrev cX6_clearIn : ByteArray := prog_8_method_53_code
def yX6_clearIn : MethodName := ⟨RX6, "clearIn", "()I"⟩
abbrev cX6_least : ByteArray := prog_8_method_54_code
def yX6_least : MethodName := ⟨RX6, "least", "(I)I"⟩
abbrev cX6_leastPressure : ByteArray := prog_8_method_55_code
def yX6_leastPressure : MethodName := ⟨RX6, "leastPressure", "(I)I"⟩
abbrev cX6_share : ByteArray := prog_8_method_56_code
def yX6_share : MethodName := ⟨RX6, "share", "()D"⟩
abbrev cX6_cleanShare : ByteArray := prog_8_method_57_code
def yX6_cleanShare : MethodName := ⟨RX6, "cleanShare", "()D"⟩
abbrev cX6_digest : ByteArray := prog_8_method_58_code
def yX6_digest : MethodName := ⟨RX6, "digest", "()J"⟩
def RJx145de : String := "java/io/Serializable"
def TJx145de : u_T := fun k => match k with
  | _ => ("", "", "", false)
def RJxb160c : String := "java/lang/Comparable"
def TJxb160c : u_T := fun k => match k with
  | _ => ("", "", "", false)
def RJxe99ae : String := "java/lang/Double"
def TJxe99ae : u_T := fun k => match k with
  | _ => ("", "", "", false)
abbrev cJxe99ae_isNaN_b9ae7 : ByteArray := prog_9_method_6_code
def yJxe99ae_isNaN_b9ae7 : MethodName := ⟨RJxe99ae, "isNaN", "(D)Z"⟩
abbrev cJxe99ae_doubleToLongBits_ccdee : ByteArray := prog_9_method_23_code
def yJxe99ae_doubleToLongBits_ccdee : MethodName := ⟨RJxe99ae, "doubleToLongBits", "(D)J"⟩
def RJ9 : String := "java/lang/Math"
def TJ9 : u_T := fun k => match k with
  | _ => ("", "", "", false)
abbrev cJ9_min_7cf53 : ByteArray := prog_14_method_69_code
def yJ9_min_7cf53 : MethodName := ⟨RJ9, "min", "(II)I"⟩
def RJxd2413 : String := "java/lang/Number"
def TJxd2413 : u_T := fun k => match k with
  | _ => ("", "", "", false)
def RJ0 : String := "java/lang/String"
def TJ0 : u_T := fun k => match k with
  | _ => ("", "", "", false)
def RJ10 : String := "java/lang/System"
def TJ10 : u_T := fun k => match k with
  | _ => ("", "", "", false)
def RJxfd54e : String := "java/lang/constant/Constable"
def TJxfd54e : u_T := fun k => match k with
  | _ => ("", "", "", false)
def RJx3cf43 : String := "java/lang/constant/ConstantDesc"
def TJx3cf43 : u_T := fun k => match k with
  | _ => ("", "", "", false)
def RJ7 : String := "java/util/Arrays"
def TJ7 : u_T := fun k => match k with
  | _ => ("", "", "", false)
abbrev cJ7_fill_53178 : ByteArray := prog_20_method_103_code
def yJ7_fill_53178 : MethodName := ⟨RJ7, "fill", "([II)V"⟩
def RL : String := "HydrantRoundsLaw"
abbrev cL_pressure : ByteArray := method_3_code
def yL_pressure : MethodName := ⟨RL, "pressure", "(LHydrantRounds;II[J)I"⟩
abbrev cL_valve : ByteArray := method_4_code
def yL_valve : MethodName := ⟨RL, "valve", "(LHydrantRounds;IZ[J)I"⟩
abbrev cL_dirt : ByteArray := method_5_code
def yL_dirt : MethodName := ⟨RL, "dirt", "(LHydrantRounds;II[J)I"⟩
abbrev cL_hydrant : ByteArray := method_6_code
def yL_hydrant : MethodName := ⟨RL, "hydrant", "(LHydrantRounds;II[J)I"⟩
abbrev cL_send : ByteArray := method_7_code
def yL_send : MethodName := ⟨RL, "send", "(LHydrantRounds;II[J)I"⟩
abbrev cL_skip : ByteArray := method_8_code
def yL_skip : MethodName := ⟨RL, "skip", "(LHydrantRounds;I[J)I"⟩
abbrev cL_set : ByteArray := method_9_code
def yL_set : MethodName := ⟨RL, "set", "(LHydrantRounds;II[J)I"⟩
abbrev cL_pass : ByteArray := method_10_code
def yL_pass : MethodName := ⟨RL, "pass", "(LHydrantRounds;I[J)I"⟩
abbrev cL_append : ByteArray := method_11_code
def yL_append : MethodName := ⟨RL, "append", "(LHydrantRounds;I[J)I"⟩
abbrev cL_rounds : ByteArray := method_12_code
def yL_rounds : MethodName := ⟨RL, "rounds", "(LHydrantRounds;[J)I"⟩
abbrev cL_undo : ByteArray := method_13_code
def yL_undo : MethodName := ⟨RL, "undo", "(LHydrantRounds;[J)I"⟩
abbrev cL_street : ByteArray := method_14_code
def yL_street : MethodName := ⟨RL, "street", "(LHydrantRounds;II[J)I"⟩
abbrev cL_round : ByteArray := method_15_code
def yL_round : MethodName := ⟨RL, "round", "(LHydrantRounds;II[J)I"⟩
abbrev cL_count : ByteArray := method_16_code
def yL_count : MethodName := ⟨RL, "count", "(LHydrantRounds;I[J)I"⟩
abbrev cL_setting : ByteArray := method_17_code
def yL_setting : MethodName := ⟨RL, "setting", "(LHydrantRounds;I[J)I"⟩
abbrev cL_waits : ByteArray := method_18_code
def yL_waits : MethodName := ⟨RL, "waits", "(LHydrantRounds;I[J)I"⟩
abbrev cL_ifPassed : ByteArray := method_19_code
def yL_ifPassed : MethodName := ⟨RL, "ifPassed", "(LHydrantRounds;II[J)I"⟩
abbrev cL_leastPressure : ByteArray := method_20_code
def yL_leastPressure : MethodName := ⟨RL, "leastPressure", "(LHydrantRounds;I[J)I"⟩
abbrev cL_law : ByteArray := code
def yL_law : MethodName := ⟨RL, "law", "([I)Z"⟩
abbrev vwCl : List vw_C := [(RX0, TX0, 2), (RX1, TX1, 3), (RX2, TX2, 4), (RX3, TX3, 13), (RX4, TX4, 2), (RX5, TX5, 5), (RX6, TX6, 12)]
