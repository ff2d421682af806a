-- ===== PART A: goes FIRST, ahead of the names: the tables' words, and 'selects' of the private methods out of them =====
/-- a private method of a class that the tables say can be made, by its rows of tables_1 -/
def lw_okq (q : MethodName × Nat) : Prop := (q.1.cls ≠ "java/lang/invoke/MethodHandle" ∧ q.1.cls ≠ "java/lang/invoke/VarHandle") ∧ Cond.instantiable q.1.cls q.2 ∈ tables_1 ∧ Cond.privateMethod q.1 ∈ tables_1 ∧ Cond.instanceMethod q.1 ∈ tables_1
theorem lw_p0 : lw_okq (⟨"SwornVane$Tally", "walk", "(II)I"⟩, 5) := ⟨⟨by decide +kernel, by decide +kernel⟩, List.mem_of_getElem? (i := 76) (by decide +kernel), List.mem_of_getElem? (i := 214) (by decide +kernel), List.mem_of_getElem? (i := 215) (by decide +kernel)⟩
theorem lw_p1 : lw_okq (⟨"SwornVane$Tally", "note", "(IIII)V"⟩, 5) := ⟨⟨by decide +kernel, by decide +kernel⟩, List.mem_of_getElem? (i := 76) (by decide +kernel), List.mem_of_getElem? (i := 231) (by decide +kernel), List.mem_of_getElem? (i := 232) (by decide +kernel)⟩
def lw_privs_1 : List (MethodName × Nat) := [(⟨"SwornVane$Tally", "walk", "(II)I"⟩, 5), (⟨"SwornVane$Tally", "note", "(IIII)V"⟩, 5)]
theorem lw_r1 : ∀ q ∈ lw_privs_1, lw_okq q := List.forall_mem_cons.mpr ⟨lw_p0, List.forall_mem_cons.mpr ⟨lw_p1, fun _ h => absurd h List.not_mem_nil⟩⟩
def lw_privs : List (MethodName × Nat) := lw_privs_1
def lw_tbl : List Cond := k2_sels lw_privs ++ tables_1
theorem lw_privs_ok : ∀ q ∈ lw_privs, lw_okq q := lw_r1
-- ===== end of PART A; then your names; then what follows =====
def RX0 : String := "SwornVane$Hill"
def TX0 : u_T := fun k => match k with
  | 0 => ("SwornVane$Hill", "hours", "I", false)
  | 1 => ("SwornVane$Hill", "winds", "[I", true)
  | 2 => ("SwornVane$Hill", "vanes", "I", false)
  | 3 => ("SwornVane$Hill", "kinds", "[I", true)
  | 4 => ("SwornVane$Hill", "starts", "[I", true)
  | 5 => ("SwornVane$Hill", "twists", "[I", true)
  | 6 => ("SwornVane$Hill", "seen", "I", false)
  | 7 => ("SwornVane$Hill", "seenOf", "[I", true)
  | _ => ("SwornVane$Hill", "left", "[I", true)
def tyX0 : Nat → FieldType := fun k => match k with
  | 0 => .int
  | 1 => .array .int
  | 2 => .int
  | 3 => .array .int
  | 4 => .array .int
  | 5 => .array .int
  | 6 => .int
  | 7 => .array .int
  | _ => .array .int
abbrev wsX00 : List Cond := u_ws RX0 TX0 9
theorem nmX0 : ∀ a, a < 9 → ∀ b, b < 9 → a ≠ b → (TX0 a).2.1 ≠ (TX0 b).2.1 := by decide +kernel
theorem tyX0_ok : ∀ k, k < 9 → parseFieldDescriptor (TX0 k).2.2.1 = some (tyX0 k) := by decide +kernel
abbrev cX0_init : ByteArray := prog_2_method_1_code
def yX0_init : MethodName := ⟨RX0, "<init>", "()V"⟩
abbrev cX0_hasHour : ByteArray := prog_2_method_2_code
def yX0_hasHour : MethodName := ⟨RX0, "hasHour", "(I)Z"⟩
abbrev cX0_hasVane : ByteArray := prog_2_method_3_code
def yX0_hasVane : MethodName := ⟨RX0, "hasVane", "(I)Z"⟩
abbrev cX0_begin : ByteArray := prog_2_method_4_code
def yX0_begin : MethodName := ⟨RX0, "begin", "(LSwornVane$Page;)V"⟩
abbrev cX0_raise : ByteArray := prog_2_method_5_code
def yX0_raise : MethodName := ⟨RX0, "raise", "(III)V"⟩
abbrev cX0_witness : ByteArray := prog_2_method_6_code
def yX0_witness : MethodName := ⟨RX0, "witness", "(III)V"⟩
abbrev cX0_clearSeen : ByteArray := prog_2_method_7_code
def yX0_clearSeen : MethodName := ⟨RX0, "clearSeen", "()V"⟩
abbrev cX0_knownWinds : ByteArray := prog_2_method_9_code
def yX0_knownWinds : MethodName := ⟨RX0, "knownWinds", "()I"⟩
abbrev cX0_mayBlow : ByteArray := prog_2_method_11_code
def yX0_mayBlow : MethodName := ⟨RX0, "mayBlow", "(II)Z"⟩
abbrev cX0_turned : ByteArray := prog_2_method_12_code
def yX0_turned : MethodName := ⟨RX0, "turned", "(IIII)I"⟩
abbrev cX0_startPose : ByteArray := prog_2_method_13_code
def yX0_startPose : MethodName := ⟨RX0, "startPose", "()I"⟩
abbrev cX0_turnedPose : ByteArray := prog_2_method_14_code
def yX0_turnedPose : MethodName := ⟨RX0, "turnedPose", "(II)I"⟩
abbrev cX0_agrees : ByteArray := prog_2_method_15_code
def yX0_agrees : MethodName := ⟨RX0, "agrees", "(II)Z"⟩
abbrev cX0_pointingAt : ByteArray := prog_2_method_19_code
def yX0_pointingAt : MethodName := ⟨RX0, "pointingAt", "(II)I"⟩
abbrev cX0_isMoreThanHalf : ByteArray := prog_2_method_20_code
def yX0_isMoreThanHalf : MethodName := ⟨RX0, "isMoreThanHalf", "(I)Z"⟩
def RX1 : String := "SwornVane$Page"
def TX1 : u_T := fun k => match k with
  | 0 => ("SwornVane$Page", "codes", "[I", true)
  | _ => ("SwornVane$Page", "length", "I", false)
def tyX1 : Nat → FieldType := fun k => match k with
  | 0 => .array .int
  | _ => .int
abbrev wsX10 : List Cond := u_ws RX1 TX1 2
theorem nmX1 : ∀ a, a < 2 → ∀ b, b < 2 → a ≠ b → (TX1 a).2.1 ≠ (TX1 b).2.1 := by decide +kernel
theorem tyX1_ok : ∀ k, k < 2 → parseFieldDescriptor (TX1 k).2.2.1 = some (tyX1 k) := by decide +kernel
abbrev cX1_init : ByteArray := prog_3_method_1_code
def yX1_init : MethodName := ⟨RX1, "<init>", "()V"⟩
abbrev cX1_add : ByteArray := prog_3_method_2_code
def yX1_add : MethodName := ⟨RX1, "add", "(I)Z"⟩
abbrev cX1_firstFault : ByteArray := prog_3_method_3_code
def yX1_firstFault : MethodName := ⟨RX1, "firstFault", "()I"⟩
abbrev cX1_isOfDay : ByteArray := prog_3_method_4_code
def yX1_isOfDay : MethodName := ⟨RX1, "isOfDay", "(I)Z"⟩
abbrev cX1_windOf : ByteArray := prog_3_method_5_code
def yX1_windOf : MethodName := ⟨RX1, "windOf", "(I)I"⟩
def RX2 : String := "SwornVane$Tally"
def TX2 : u_T := fun k => match k with
  | 0 => ("SwornVane$Tally", "hill", "LSwornVane$Hill;", true)
  | 1 => ("SwornVane$Tally", "poses", "[I", true)
  | 2 => ("SwornVane$Tally", "gales", "[I", true)
  | 3 => ("SwornVane$Tally", "all", "I", false)
  | _ => ("SwornVane$Tally", "isStale", "Z", false)
def tyX2 : Nat → FieldType := fun k => match k with
  | 0 => .object "SwornVane$Hill"
  | 1 => .array .int
  | 2 => .array .int
  | 3 => .int
  | _ => .boolean
abbrev wsX20 : List Cond := u_ws RX2 TX2 5
theorem nmX2 : ∀ a, a < 5 → ∀ b, b < 5 → a ≠ b → (TX2 a).2.1 ≠ (TX2 b).2.1 := by decide +kernel
theorem tyX2_ok : ∀ k, k < 5 → parseFieldDescriptor (TX2 k).2.2.1 = some (tyX2 k) := by decide +kernel
abbrev cX2_init : ByteArray := prog_4_method_1_code
def yX2_init : MethodName := ⟨RX2, "<init>", "(LSwornVane$Hill;)V"⟩
abbrev cX2_refresh : ByteArray := prog_4_method_2_code
def yX2_refresh : MethodName := ⟨RX2, "refresh", "()V"⟩
abbrev cX2_walk : ByteArray := prog_4_method_3_code
def yX2_walk : MethodName := ⟨RX2, "walk", "(II)I"⟩
abbrev cX2_note : ByteArray := prog_4_method_4_code
def yX2_note : MethodName := ⟨RX2, "note", "(IIII)V"⟩
abbrev cX2_pointed : ByteArray := prog_4_method_5_code
def yX2_pointed : MethodName := ⟨RX2, "pointed", "(II)I"⟩
abbrev cX2_blown : ByteArray := prog_4_method_6_code
def yX2_blown : MethodName := ⟨RX2, "blown", "(I)I"⟩
abbrev cX2_bitsOf : ByteArray := prog_4_method_7_code
def yX2_bitsOf : MethodName := ⟨RX2, "bitsOf", "([II)I"⟩
def RX3 : String := "SwornVane$Witnesses"
def TX3 : u_T := fun k => match k with
  | 0 => ("SwornVane$Witnesses", "hill", "LSwornVane$Hill;", true)
  | 1 => ("SwornVane$Witnesses", "groups", "[[I", true)
  | 2 => ("SwornVane$Witnesses", "sizes", "[I", true)
  | 3 => ("SwornVane$Witnesses", "asked", "I", false)
  | _ => ("SwornVane$Witnesses", "bits", "I", false)
def tyX3 : Nat → FieldType := fun k => match k with
  | 0 => .object "SwornVane$Hill"
  | 1 => .array (.array .int)
  | 2 => .array .int
  | 3 => .int
  | _ => .int
abbrev wsX30 : List Cond := u_ws RX3 TX3 5
theorem nmX3 : ∀ a, a < 5 → ∀ b, b < 5 → a ≠ b → (TX3 a).2.1 ≠ (TX3 b).2.1 := by decide +kernel
theorem tyX3_ok : ∀ k, k < 5 → parseFieldDescriptor (TX3 k).2.2.1 = some (tyX3 k) := by decide +kernel
abbrev cX3_init : ByteArray := prog_5_method_1_code
def yX3_init : MethodName := ⟨RX3, "<init>", "(LSwornVane$Hill;)V"⟩
def RX4 : String := "SwornVane"
def TX4 : u_T := fun k => match k with
  | 0 => ("SwornVane", "page", "LSwornVane$Page;", true)
  | 1 => ("SwornVane", "hill", "LSwornVane$Hill;", true)
  | 2 => ("SwornVane", "kept", "LSwornVane$Hill;", true)
  | 3 => ("SwornVane", "tally", "LSwornVane$Tally;", true)
  | 4 => ("SwornVane", "witnesses", "LSwornVane$Witnesses;", true)
  | 5 => ("SwornVane", "isKept", "Z", false)
  | 6 => ("SwornVane", "readings", "I", false)
  | _ => ("SwornVane", "inquiries", "I", false)
def tyX4 : Nat → FieldType := fun k => match k with
  | 0 => .object "SwornVane$Page"
  | 1 => .object "SwornVane$Hill"
  | 2 => .object "SwornVane$Hill"
  | 3 => .object "SwornVane$Tally"
  | 4 => .object "SwornVane$Witnesses"
  | 5 => .boolean
  | 6 => .int
  | _ => .int
abbrev wsX40 : List Cond := u_ws RX4 TX4 8
theorem nmX4 : ∀ a, a < 8 → ∀ b, b < 8 → a ≠ b → (TX4 a).2.1 ≠ (TX4 b).2.1 := by decide +kernel
theorem tyX4_ok : ∀ k, k < 8 → parseFieldDescriptor (TX4 k).2.2.1 = some (tyX4 k) := by decide +kernel
abbrev cX4_init : ByteArray := prog_1_method_1_code
def yX4_init : MethodName := ⟨RX4, "<init>", "()V"⟩
abbrev cX4_letter : ByteArray := prog_1_method_2_code
def yX4_letter : MethodName := ⟨RX4, "letter", "(I)I"⟩
abbrev cX4_fault : ByteArray := prog_1_method_4_code
def yX4_fault : MethodName := ⟨RX4, "fault", "()I"⟩
abbrev cX4_day : ByteArray := prog_1_method_5_code
def yX4_day : MethodName := ⟨RX4, "day", "()I"⟩
abbrev cX4_wind : ByteArray := prog_1_method_6_code
def yX4_wind : MethodName := ⟨RX4, "wind", "(II)I"⟩
abbrev cX4_vane : ByteArray := prog_1_method_7_code
def yX4_vane : MethodName := ⟨RX4, "vane", "(III)I"⟩
abbrev cX4_about : ByteArray := prog_1_method_8_code
def yX4_about : MethodName := ⟨RX4, "about", "(II)I"⟩
abbrev cX4_as : ByteArray := prog_1_method_9_code
def yX4_as : MethodName := ⟨RX4, "as", "(II)I"⟩
abbrev cX4_oil : ByteArray := prog_1_method_10_code
def yX4_oil : MethodName := ⟨RX4, "oil", "(II)I"⟩
abbrev cX4_see : ByteArray := prog_1_method_11_code
def yX4_see : MethodName := ⟨RX4, "see", "(III)I"⟩
abbrev cX4_forget : ByteArray := prog_1_method_12_code
def yX4_forget : MethodName := ⟨RX4, "forget", "()I"⟩
abbrev cX4_fitting : ByteArray := prog_1_method_13_code
def yX4_fitting : MethodName := ⟨RX4, "fitting", "()I"⟩
abbrev cX4_points : ByteArray := prog_1_method_14_code
def yX4_points : MethodName := ⟨RX4, "points", "(II)I"⟩
abbrev cX4_blows : ByteArray := prog_1_method_15_code
def yX4_blows : MethodName := ⟨RX4, "blows", "(I)I"⟩
abbrev cX4_gusts : ByteArray := prog_1_method_20_code
def yX4_gusts : MethodName := ⟨RX4, "gusts", "(III)I"⟩
abbrev cX4_count : ByteArray := prog_1_method_23_code
def yX4_count : MethodName := ⟨RX4, "count", "(I)I"⟩
abbrev cX4_isQuarter : ByteArray := prog_1_method_33_code
def yX4_isQuarter : MethodName := ⟨RX4, "isQuarter", "(I)Z"⟩
abbrev cX4_isTwist : ByteArray := prog_1_method_34_code
def yX4_isTwist : MethodName := ⟨RX4, "isTwist", "(I)Z"⟩
abbrev cX4_isKind : ByteArray := prog_1_method_35_code
def yX4_isKind : MethodName := ⟨RX4, "isKind", "(I)Z"⟩
abbrev cX4_isSuch : ByteArray := prog_1_method_36_code
def yX4_isSuch : MethodName := ⟨RX4, "isSuch", "(II)Z"⟩
abbrev cX4_nextSeed : ByteArray := prog_1_method_37_code
def yX4_nextSeed : MethodName := ⟨RX4, "nextSeed", "(I)I"⟩
def RX5 : String := "SwornVaneModel"
def TX5 : u_T := fun k => match k with
  | _ => ("", "", "", false)
def tyX5 : Nat → FieldType := fun k => match k with
  | _ => .int
abbrev wsX50 : List Cond := u_ws RX5 TX5 0
theorem nmX5 : ∀ a, a < 0 → ∀ b, b < 0 → a ≠ b → (TX5 a).2.1 ≠ (TX5 b).2.1 := by decide +kernel
theorem tyX5_ok : ∀ k, k < 0 → parseFieldDescriptor (TX5 k).2.2.1 = some (tyX5 k) := by decide +kernel
def RL : String := "SwornVaneLaw"
abbrev cL_cell : ByteArray := method_2_code
def yL_cell : MethodName := ⟨RL, "cell", "([II)I"⟩
abbrev cL_put : ByteArray := method_3_code
def yL_put : MethodName := ⟨RL, "put", "(LSwornVane;I)Z"⟩
abbrev cL_day : ByteArray := method_4_code
def yL_day : MethodName := ⟨RL, "day", "(LSwornVane;II[I)Z"⟩
abbrev cL_vane : ByteArray := method_5_code
def yL_vane : MethodName := ⟨RL, "vane", "(LSwornVane;I[I)Z"⟩
abbrev cL_quarter : ByteArray := method_6_code
def yL_quarter : MethodName := ⟨RL, "quarter", "(II)I"⟩
abbrev cL_turns : ByteArray := method_7_code
def yL_turns : MethodName := ⟨RL, "turns", "(IIII)I"⟩
abbrev cL_codes : ByteArray := method_8_code
def yL_codes : MethodName := ⟨RL, "codes", "([I)I"⟩
abbrev cL_fits : ByteArray := method_9_code
def yL_fits : MethodName := ⟨RL, "fits", "([I[II[I[I)Z"⟩
abbrev cL_see : ByteArray := method_10_code
def yL_see : MethodName := ⟨RL, "see", "(LSwornVane;[IIII)Z"⟩
abbrev cL_act : ByteArray := method_11_code
def yL_act : MethodName := ⟨RL, "act", "(LSwornVane;II[I[I[I[I)Z"⟩
abbrev cL_law : ByteArray := code
def yL_law : MethodName := ⟨RL, "law", "([I)Z"⟩
abbrev vwCl : List vw_C := [(RX0, TX0, 9), (RX1, TX1, 2), (RX2, TX2, 5), (RX3, TX3, 5), (RX4, TX4, 8)]
