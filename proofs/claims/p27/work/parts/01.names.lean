-- ===== PART A: goes FIRST, ahead of the names: the tables' words, and 'selects' of the private methods out of them =====
/-- a private method of a class that the tables say can be made, by its rows of tables_1 -/
def lw_okq (q : MethodName × Nat) : Prop := (q.1.cls ≠ "java/lang/invoke/MethodHandle" ∧ q.1.cls ≠ "java/lang/invoke/VarHandle") ∧ Cond.instantiable q.1.cls q.2 ∈ tables_1 ∧ Cond.privateMethod q.1 ∈ tables_1 ∧ Cond.instanceMethod q.1 ∈ tables_1
theorem lw_p0 : lw_okq (⟨"HiveBylaws", "recorded", "(I)I"⟩, 9) := ⟨⟨by decide +kernel, by decide +kernel⟩, List.mem_of_getElem? (i := 11) (by decide +kernel), List.mem_of_getElem? (i := 313) (by decide +kernel), List.mem_of_getElem? (i := 314) (by decide +kernel)⟩
theorem lw_p1 : lw_okq (⟨"HiveBylaws$State", "endSeason", "()I"⟩, 10) := ⟨⟨by decide +kernel, by decide +kernel⟩, List.mem_of_getElem? (i := 19) (by decide +kernel), List.mem_of_getElem? (i := 454) (by decide +kernel), List.mem_of_getElem? (i := 455) (by decide +kernel)⟩
theorem lw_p2 : lw_okq (⟨"HiveBylaws$Petitions", "rankOf", "(I)I"⟩, 7) := ⟨⟨by decide +kernel, by decide +kernel⟩, List.mem_of_getElem? (i := 85) (by decide +kernel), List.mem_of_getElem? (i := 466) (by decide +kernel), List.mem_of_getElem? (i := 467) (by decide +kernel)⟩
theorem lw_p3 : lw_okq (⟨"HiveBylaws$State", "grant", "(I)V"⟩, 10) := ⟨⟨by decide +kernel, by decide +kernel⟩, List.mem_of_getElem? (i := 19) (by decide +kernel), List.mem_of_getElem? (i := 484) (by decide +kernel), List.mem_of_getElem? (i := 485) (by decide +kernel)⟩
def lw_privs_1 : List (MethodName × Nat) := [(⟨"HiveBylaws", "recorded", "(I)I"⟩, 9), (⟨"HiveBylaws$State", "endSeason", "()I"⟩, 10), (⟨"HiveBylaws$Petitions", "rankOf", "(I)I"⟩, 7), (⟨"HiveBylaws$State", "grant", "(I)V"⟩, 10)]
theorem lw_r1 : ∀ q ∈ lw_privs_1, lw_okq q := List.forall_mem_cons.mpr ⟨lw_p0, List.forall_mem_cons.mpr ⟨lw_p1, List.forall_mem_cons.mpr ⟨lw_p2, List.forall_mem_cons.mpr ⟨lw_p3, fun _ h => absurd h List.not_mem_nil⟩⟩⟩⟩
def lw_privs : List (MethodName × Nat) := lw_privs_1
def lw_tbl : List Cond := k2_sels lw_privs ++ tables_1
theorem lw_privs_ok : ∀ q ∈ lw_privs, lw_okq q := lw_r1
-- ===== end of PART A; then your names; then what follows =====
def RX0 : String := "HiveBylaws$History"
def TX0 : u_T := fun k => match k with
  | 0 => ("HiveBylaws$History", "ring", "[LHiveBylaws$State;", true)
  | 1 => ("HiveBylaws$History", "first", "I", false)
  | _ => ("HiveBylaws$History", "size", "I", false)
def tyX0 : Nat → FieldType := fun k => match k with
  | 0 => .array (.object "HiveBylaws$State")
  | 1 => .int
  | _ => .int
abbrev wsX00 : List Cond := u_ws RX0 TX0 3
theorem nmX0 : ∀ a, a < 3 → ∀ b, b < 3 → a ≠ b → (TX0 a).2.1 ≠ (TX0 b).2.1 := by decide +kernel
theorem tyX0_ok : ∀ k, k < 3 → parseFieldDescriptor (TX0 k).2.2.1 = some (tyX0 k) := by decide +kernel
abbrev cX0_init : ByteArray := prog_2_method_1_code
def yX0_init : MethodName := ⟨RX0, "<init>", "()V"⟩
abbrev cX0_remember : ByteArray := prog_2_method_2_code
def yX0_remember : MethodName := ⟨RX0, "remember", "(LHiveBylaws$State;)V"⟩
abbrev cX0_takeBack : ByteArray := prog_2_method_3_code
def yX0_takeBack : MethodName := ⟨RX0, "takeBack", "(LHiveBylaws$State;)I"⟩
def RX1 : String := "HiveBylaws$Laws"
def TX1 : u_T := fun k => match k with
  | 0 => ("HiveBylaws$Laws", "stance", "[I", true)
  | 1 => ("HiveBylaws$Laws", "strength", "[I", true)
  | _ => ("HiveBylaws$Laws", "season", "[I", true)
def tyX1 : Nat → FieldType := fun k => match k with
  | 0 => .array .int
  | 1 => .array .int
  | _ => .array .int
abbrev wsX10 : List Cond := u_ws RX1 TX1 3
theorem nmX1 : ∀ a, a < 3 → ∀ b, b < 3 → a ≠ b → (TX1 a).2.1 ≠ (TX1 b).2.1 := by decide +kernel
theorem tyX1_ok : ∀ k, k < 3 → parseFieldDescriptor (TX1 k).2.2.1 = some (tyX1 k) := by decide +kernel
abbrev cX1_init : ByteArray := prog_3_method_1_code
def yX1_init : MethodName := ⟨RX1, "<init>", "()V"⟩
abbrev cX1_copyFrom : ByteArray := prog_3_method_2_code
def yX1_copyFrom : MethodName := ⟨RX1, "copyFrom", "(LHiveBylaws$Laws;)V"⟩
abbrev cX1_stanceOf : ByteArray := prog_3_method_3_code
def yX1_stanceOf : MethodName := ⟨RX1, "stanceOf", "(II)I"⟩
abbrev cX1_strengthOf : ByteArray := prog_3_method_4_code
def yX1_strengthOf : MethodName := ⟨RX1, "strengthOf", "(II)I"⟩
abbrev cX1_size : ByteArray := prog_3_method_5_code
def yX1_size : MethodName := ⟨RX1, "size", "()I"⟩
abbrev cX1_rankOf : ByteArray := prog_3_method_6_code
def yX1_rankOf : MethodName := ⟨RX1, "rankOf", "(I)I"⟩
abbrev cX1_spotAt : ByteArray := prog_3_method_7_code
def yX1_spotAt : MethodName := ⟨RX1, "spotAt", "(I)I"⟩
abbrev cX1_rulingPlace : ByteArray := prog_3_method_8_code
def yX1_rulingPlace : MethodName := ⟨RX1, "rulingPlace", "(II)I"⟩
abbrev cX1_isForbidden : ByteArray := prog_3_method_9_code
def yX1_isForbidden : MethodName := ⟨RX1, "isForbidden", "(II)Z"⟩
abbrev cX1_forbidding : ByteArray := prog_3_method_10_code
def yX1_forbidding : MethodName := ⟨RX1, "forbidding", "()I"⟩
abbrev cX1_forbiddenDoings : ByteArray := prog_3_method_11_code
def yX1_forbiddenDoings : MethodName := ⟨RX1, "forbiddenDoings", "()I"⟩
abbrev cX1_oldestSpot : ByteArray := prog_3_method_12_code
def yX1_oldestSpot : MethodName := ⟨RX1, "oldestSpot", "(I)I"⟩
def RX2 : String := "HiveBylaws$PetitionText"
def TX2 : u_T := fun k => match k with
  | 0 => ("HiveBylaws$PetitionText", "characters", "[C", true)
  | 1 => ("HiveBylaws$PetitionText", "length", "I", false)
  | 2 => ("HiveBylaws$PetitionText", "at", "I", false)
  | 3 => ("HiveBylaws$PetitionText", "things", "I", false)
  | 4 => ("HiveBylaws$PetitionText", "act", "[I", true)
  | 5 => ("HiveBylaws$PetitionText", "drone", "[I", true)
  | 6 => ("HiveBylaws$PetitionText", "number", "[I", true)
  | 7 => ("HiveBylaws$PetitionText", "doing", "[I", true)
  | _ => ("HiveBylaws$PetitionText", "kind", "[I", true)
def tyX2 : Nat → FieldType := fun k => match k with
  | 0 => .array .char
  | 1 => .int
  | 2 => .int
  | 3 => .int
  | 4 => .array .int
  | 5 => .array .int
  | 6 => .array .int
  | 7 => .array .int
  | _ => .array .int
abbrev wsX20 : List Cond := u_ws RX2 TX2 9
theorem nmX2 : ∀ a, a < 9 → ∀ b, b < 9 → a ≠ b → (TX2 a).2.1 ≠ (TX2 b).2.1 := by decide +kernel
theorem tyX2_ok : ∀ k, k < 9 → parseFieldDescriptor (TX2 k).2.2.1 = some (tyX2 k) := by decide +kernel
abbrev cX2_init : ByteArray := prog_4_method_1_code
def yX2_init : MethodName := ⟨RX2, "<init>", "()V"⟩
def RX3 : String := "HiveBylaws$Petitions"
def TX3 : u_T := fun k => match k with
  | 0 => ("HiveBylaws$Petitions", "size", "I", false)
  | 1 => ("HiveBylaws$Petitions", "drone", "[I", true)
  | 2 => ("HiveBylaws$Petitions", "place", "[I", true)
  | 3 => ("HiveBylaws$Petitions", "doing", "[I", true)
  | 4 => ("HiveBylaws$Petitions", "kind", "[I", true)
  | 5 => ("HiveBylaws$Petitions", "support", "[I", true)
  | _ => ("HiveBylaws$Petitions", "seconders", "[I", true)
def tyX3 : Nat → FieldType := fun k => match k with
  | 0 => .int
  | 1 => .array .int
  | 2 => .array .int
  | 3 => .array .int
  | 4 => .array .int
  | 5 => .array .int
  | _ => .array .int
abbrev wsX30 : List Cond := u_ws RX3 TX3 7
theorem nmX3 : ∀ a, a < 7 → ∀ b, b < 7 → a ≠ b → (TX3 a).2.1 ≠ (TX3 b).2.1 := by decide +kernel
theorem tyX3_ok : ∀ k, k < 7 → parseFieldDescriptor (TX3 k).2.2.1 = some (tyX3 k) := by decide +kernel
abbrev cX3_init : ByteArray := prog_5_method_1_code
def yX3_init : MethodName := ⟨RX3, "<init>", "()V"⟩
abbrev cX3_copyFrom : ByteArray := prog_5_method_2_code
def yX3_copyFrom : MethodName := ⟨RX3, "copyFrom", "(LHiveBylaws$Petitions;)V"⟩
abbrev cX3_has : ByteArray := prog_5_method_3_code
def yX3_has : MethodName := ⟨RX3, "has", "(I)Z"⟩
abbrev cX3_add : ByteArray := prog_5_method_4_code
def yX3_add : MethodName := ⟨RX3, "add", "(IIIII)I"⟩
abbrev cX3_madeBy : ByteArray := prog_5_method_5_code
def yX3_madeBy : MethodName := ⟨RX3, "madeBy", "(I)I"⟩
abbrev cX3_makers : ByteArray := prog_5_method_6_code
def yX3_makers : MethodName := ⟨RX3, "makers", "()I"⟩
abbrev cX3_secondedBy : ByteArray := prog_5_method_7_code
def yX3_secondedBy : MethodName := ⟨RX3, "secondedBy", "(I)I"⟩
abbrev cX3_atRank : ByteArray := prog_5_method_8_code
def yX3_atRank : MethodName := ⟨RX3, "atRank", "(I)I"⟩
abbrev cX3_rankOf : ByteArray := prog_5_method_9_code
def yX3_rankOf : MethodName := ⟨RX3, "rankOf", "(I)I"⟩
def RX4 : String := "HiveBylaws$Refusals"
def TX4 : u_T := fun k => match k with
  | 0 => ("HiveBylaws$Refusals", "size", "I", false)
  | 1 => ("HiveBylaws$Refusals", "place", "[I", true)
  | 2 => ("HiveBylaws$Refusals", "doing", "[I", true)
  | 3 => ("HiveBylaws$Refusals", "kind", "[I", true)
  | _ => ("HiveBylaws$Refusals", "support", "[I", true)
def tyX4 : Nat → FieldType := fun k => match k with
  | 0 => .int
  | 1 => .array .int
  | 2 => .array .int
  | 3 => .array .int
  | _ => .array .int
abbrev wsX40 : List Cond := u_ws RX4 TX4 5
theorem nmX4 : ∀ a, a < 5 → ∀ b, b < 5 → a ≠ b → (TX4 a).2.1 ≠ (TX4 b).2.1 := by decide +kernel
theorem tyX4_ok : ∀ k, k < 5 → parseFieldDescriptor (TX4 k).2.2.1 = some (tyX4 k) := by decide +kernel
abbrev cX4_init : ByteArray := prog_6_method_1_code
def yX4_init : MethodName := ⟨RX4, "<init>", "()V"⟩
abbrev cX4_copyFrom : ByteArray := prog_6_method_2_code
def yX4_copyFrom : MethodName := ⟨RX4, "copyFrom", "(LHiveBylaws$Refusals;)V"⟩
abbrev cX4_add : ByteArray := prog_6_method_3_code
def yX4_add : MethodName := ⟨RX4, "add", "(LHiveBylaws$Petitions;I)V"⟩
abbrev cX4_greatestSupport : ByteArray := prog_6_method_4_code
def yX4_greatestSupport : MethodName := ⟨RX4, "greatestSupport", "(III)I"⟩
def RX5 : String := "HiveBylaws$State"
def TX5 : u_T := fun k => match k with
  | 0 => ("HiveBylaws$State", "swarm", "LHiveBylaws$Swarm;", true)
  | 1 => ("HiveBylaws$State", "laws", "LHiveBylaws$Laws;", true)
  | 2 => ("HiveBylaws$State", "petitions", "LHiveBylaws$Petitions;", true)
  | 3 => ("HiveBylaws$State", "refusals", "LHiveBylaws$Refusals;", true)
  | 4 => ("HiveBylaws$State", "setting", "[I", true)
  | 5 => ("HiveBylaws$State", "day", "I", false)
  | 6 => ("HiveBylaws$State", "season", "I", false)
  | 7 => ("HiveBylaws$State", "daysOfSeason", "I", false)
  | 8 => ("HiveBylaws$State", "repeals", "I", false)
  | _ => ("HiveBylaws$State", "verdict", "[I", true)
def tyX5 : Nat → FieldType := fun k => match k with
  | 0 => .object "HiveBylaws$Swarm"
  | 1 => .object "HiveBylaws$Laws"
  | 2 => .object "HiveBylaws$Petitions"
  | 3 => .object "HiveBylaws$Refusals"
  | 4 => .array .int
  | 5 => .int
  | 6 => .int
  | 7 => .int
  | 8 => .int
  | _ => .array .int
abbrev wsX50 : List Cond := u_ws RX5 TX5 10
theorem nmX5 : ∀ a, a < 10 → ∀ b, b < 10 → a ≠ b → (TX5 a).2.1 ≠ (TX5 b).2.1 := by decide +kernel
theorem tyX5_ok : ∀ k, k < 10 → parseFieldDescriptor (TX5 k).2.2.1 = some (tyX5 k) := by decide +kernel
abbrev cX5_init : ByteArray := prog_7_method_1_code
def yX5_init : MethodName := ⟨RX5, "<init>", "()V"⟩
abbrev cX5_copyFrom : ByteArray := prog_7_method_2_code
def yX5_copyFrom : MethodName := ⟨RX5, "copyFrom", "(LHiveBylaws$State;)V"⟩
abbrev cX5_addDrone : ByteArray := prog_7_method_3_code
def yX5_addDrone : MethodName := ⟨RX5, "addDrone", "(II)I"⟩
abbrev cX5_moveDrone : ByteArray := prog_7_method_4_code
def yX5_moveDrone : MethodName := ⟨RX5, "moveDrone", "(II)I"⟩
abbrev cX5_addPetition : ByteArray := prog_7_method_5_code
def yX5_addPetition : MethodName := ⟨RX5, "addPetition", "(IIII)I"⟩
abbrev cX5_addSeconder : ByteArray := prog_7_method_6_code
def yX5_addSeconder : MethodName := ⟨RX5, "addSeconder", "(II)I"⟩
abbrev cX5_endDays : ByteArray := prog_7_method_7_code
def yX5_endDays : MethodName := ⟨RX5, "endDays", "(I)I"⟩
abbrev cX5_changeSetting : ByteArray := prog_7_method_8_code
def yX5_changeSetting : MethodName := ⟨RX5, "changeSetting", "(II)I"⟩
abbrev cX5_endSeason : ByteArray := prog_7_method_9_code
def yX5_endSeason : MethodName := ⟨RX5, "endSeason", "()I"⟩
abbrev cX5_hearPetitions : ByteArray := prog_7_method_10_code
def yX5_hearPetitions : MethodName := ⟨RX5, "hearPetitions", "()I"⟩
abbrev cX5_reasonToRefuse : ByteArray := prog_7_method_11_code
def yX5_reasonToRefuse : MethodName := ⟨RX5, "reasonToRefuse", "(II)I"⟩
abbrev cX5_grant : ByteArray := prog_7_method_12_code
def yX5_grant : MethodName := ⟨RX5, "grant", "(I)V"⟩
def RX6 : String := "HiveBylaws$Swarm"
def TX6 : u_T := fun k => match k with
  | 0 => ("HiveBylaws$Swarm", "size", "I", false)
  | 1 => ("HiveBylaws$Swarm", "comb", "[I", true)
  | 2 => ("HiveBylaws$Swarm", "weight", "[I", true)
  | 3 => ("HiveBylaws$Swarm", "made", "[I", true)
  | 4 => ("HiveBylaws$Swarm", "passed", "[I", true)
  | _ => ("HiveBylaws$Swarm", "refused", "[I", true)
def tyX6 : Nat → FieldType := fun k => match k with
  | 0 => .int
  | 1 => .array .int
  | 2 => .array .int
  | 3 => .array .int
  | 4 => .array .int
  | _ => .array .int
abbrev wsX60 : List Cond := u_ws RX6 TX6 6
theorem nmX6 : ∀ a, a < 6 → ∀ b, b < 6 → a ≠ b → (TX6 a).2.1 ≠ (TX6 b).2.1 := by decide +kernel
theorem tyX6_ok : ∀ k, k < 6 → parseFieldDescriptor (TX6 k).2.2.1 = some (tyX6 k) := by decide +kernel
abbrev cX6_init : ByteArray := prog_8_method_1_code
def yX6_init : MethodName := ⟨RX6, "<init>", "()V"⟩
abbrev cX6_copyFrom : ByteArray := prog_8_method_2_code
def yX6_copyFrom : MethodName := ⟨RX6, "copyFrom", "(LHiveBylaws$Swarm;)V"⟩
abbrev cX6_knows : ByteArray := prog_8_method_3_code
def yX6_knows : MethodName := ⟨RX6, "knows", "(I)Z"⟩
abbrev cX6_add : ByteArray := prog_8_method_4_code
def yX6_add : MethodName := ⟨RX6, "add", "(II)I"⟩
abbrev cX6_weightAt : ByteArray := prog_8_method_5_code
def yX6_weightAt : MethodName := ⟨RX6, "weightAt", "(I)I"⟩
def RX7 : String := "HiveBylaws"
def TX7 : u_T := fun k => match k with
  | 0 => ("HiveBylaws", "state", "LHiveBylaws$State;", true)
  | 1 => ("HiveBylaws", "before", "LHiveBylaws$State;", true)
  | 2 => ("HiveBylaws", "trial", "LHiveBylaws$State;", true)
  | 3 => ("HiveBylaws", "snapshot", "LHiveBylaws$State;", true)
  | 4 => ("HiveBylaws", "hasSnapshot", "Z", false)
  | 5 => ("HiveBylaws", "history", "LHiveBylaws$History;", true)
  | 6 => ("HiveBylaws", "text", "LHiveBylaws$PetitionText;", true)
  | 7 => ("HiveBylaws", "stopNumber", "I", false)
  | _ => ("HiveBylaws", "stopError", "I", false)
def tyX7 : Nat → FieldType := fun k => match k with
  | 0 => .object "HiveBylaws$State"
  | 1 => .object "HiveBylaws$State"
  | 2 => .object "HiveBylaws$State"
  | 3 => .object "HiveBylaws$State"
  | 4 => .boolean
  | 5 => .object "HiveBylaws$History"
  | 6 => .object "HiveBylaws$PetitionText"
  | 7 => .int
  | _ => .int
abbrev wsX70 : List Cond := u_ws RX7 TX7 9
theorem nmX7 : ∀ a, a < 9 → ∀ b, b < 9 → a ≠ b → (TX7 a).2.1 ≠ (TX7 b).2.1 := by decide +kernel
theorem tyX7_ok : ∀ k, k < 9 → parseFieldDescriptor (TX7 k).2.2.1 = some (tyX7 k) := by decide +kernel
abbrev cX7_init : ByteArray := prog_1_method_1_code
def yX7_init : MethodName := ⟨RX7, "<init>", "()V"⟩
abbrev cX7_come : ByteArray := prog_1_method_2_code
def yX7_come : MethodName := ⟨RX7, "come", "(II)I"⟩
abbrev cX7_move : ByteArray := prog_1_method_3_code
def yX7_move : MethodName := ⟨RX7, "move", "(II)I"⟩
abbrev cX7_petition : ByteArray := prog_1_method_4_code
def yX7_petition : MethodName := ⟨RX7, "petition", "(IIII)I"⟩
abbrev cX7_second : ByteArray := prog_1_method_5_code
def yX7_second : MethodName := ⟨RX7, "second", "(II)I"⟩
abbrev cX7_pass : ByteArray := prog_1_method_6_code
def yX7_pass : MethodName := ⟨RX7, "pass", "(I)I"⟩
abbrev cX7_set : ByteArray := prog_1_method_7_code
def yX7_set : MethodName := ⟨RX7, "set", "(II)I"⟩
abbrev cX7_undo : ByteArray := prog_1_method_12_code
def yX7_undo : MethodName := ⟨RX7, "undo", "()I"⟩
abbrev cX7_drone : ByteArray := prog_1_method_15_code
def yX7_drone : MethodName := ⟨RX7, "drone", "(II)I"⟩
abbrev cX7_bylaw : ByteArray := prog_1_method_16_code
def yX7_bylaw : MethodName := ⟨RX7, "bylaw", "(II)I"⟩
abbrev cX7_petitionOf : ByteArray := prog_1_method_17_code
def yX7_petitionOf : MethodName := ⟨RX7, "petitionOf", "(II)I"⟩
abbrev cX7_heard : ByteArray := prog_1_method_18_code
def yX7_heard : MethodName := ⟨RX7, "heard", "(I)I"⟩
abbrev cX7_rule : ByteArray := prog_1_method_19_code
def yX7_rule : MethodName := ⟨RX7, "rule", "(III)I"⟩
abbrev cX7_reason : ByteArray := prog_1_method_20_code
def yX7_reason : MethodName := ⟨RX7, "reason", "(I)I"⟩
abbrev cX7_wouldPass : ByteArray := prog_1_method_21_code
def yX7_wouldPass : MethodName := ⟨RX7, "wouldPass", "()I"⟩
abbrev cX7_lacks : ByteArray := prog_1_method_22_code
def yX7_lacks : MethodName := ⟨RX7, "lacks", "(I)I"⟩
abbrev cX7_free : ByteArray := prog_1_method_23_code
def yX7_free : MethodName := ⟨RX7, "free", "()I"⟩
abbrev cX7_oldest : ByteArray := prog_1_method_24_code
def yX7_oldest : MethodName := ⟨RX7, "oldest", "(II)I"⟩
abbrev cX7_count : ByteArray := prog_1_method_25_code
def yX7_count : MethodName := ⟨RX7, "count", "(I)I"⟩
abbrev cX7_isComb : ByteArray := prog_1_method_26_code
def yX7_isComb : MethodName := ⟨RX7, "isComb", "(I)Z"⟩
abbrev cX7_isPlace : ByteArray := prog_1_method_27_code
def yX7_isPlace : MethodName := ⟨RX7, "isPlace", "(I)Z"⟩
abbrev cX7_isDoing : ByteArray := prog_1_method_28_code
def yX7_isDoing : MethodName := ⟨RX7, "isDoing", "(I)Z"⟩
abbrev cX7_sum : ByteArray := prog_1_method_29_code
def yX7_sum : MethodName := ⟨RX7, "sum", "([I)I"⟩
abbrev cX7_recorded : ByteArray := prog_1_method_30_code
def yX7_recorded : MethodName := ⟨RX7, "recorded", "(I)I"⟩
def RX8 : String := "HiveBylawsModel"
def TX8 : u_T := fun k => match k with
  | _ => ("", "", "", false)
def tyX8 : Nat → FieldType := fun k => match k with
  | _ => .int
abbrev wsX80 : List Cond := u_ws RX8 TX8 0
theorem nmX8 : ∀ a, a < 0 → ∀ b, b < 0 → a ≠ b → (TX8 a).2.1 ≠ (TX8 b).2.1 := by decide +kernel
theorem tyX8_ok : ∀ k, k < 0 → parseFieldDescriptor (TX8 k).2.2.1 = some (tyX8 k) := by decide +kernel
def RJ10 : String := "java/lang/System"
def TJ10 : u_T := fun k => match k with
  | _ => ("", "", "", false)
def tyJ10 : Nat → FieldType := fun k => match k with
  | _ => .int
abbrev wsJ100 : List Cond := u_ws RJ10 TJ10 0
theorem nmJ10 : ∀ a, a < 0 → ∀ b, b < 0 → a ≠ b → (TJ10 a).2.1 ≠ (TJ10 b).2.1 := by decide +kernel
theorem tyJ10_ok : ∀ k, k < 0 → parseFieldDescriptor (TJ10 k).2.2.1 = some (tyJ10 k) := by decide +kernel
def RL : String := "HiveBylawsLaw"
abbrev cL_cell : ByteArray := method_2_code
def yL_cell : MethodName := ⟨RL, "cell", "([II)I"⟩
abbrev cL_low : ByteArray := method_3_code
def yL_low : MethodName := ⟨RL, "low", "(II)I"⟩
abbrev cL_act : ByteArray := method_4_code
def yL_act : MethodName := ⟨RL, "act", "(LHiveBylaws;II)I"⟩
abbrev cL_weight : ByteArray := method_5_code
def yL_weight : MethodName := ⟨RL, "weight", "(LHiveBylaws;I)I"⟩
abbrev cL_petitions : ByteArray := method_6_code
def yL_petitions : MethodName := ⟨RL, "petitions", "(LHiveBylaws;)Z"⟩
abbrev cL_hangs : ByteArray := method_7_code
def yL_hangs : MethodName := ⟨RL, "hangs", "(LHiveBylaws;)Z"⟩
abbrev cL_print : ByteArray := method_8_code
def yL_print : MethodName := ⟨RL, "print", "(LHiveBylaws;)J"⟩
abbrev cL_ends : ByteArray := method_9_code
def yL_ends : MethodName := ⟨RL, "ends", "(LHiveBylaws;)Z"⟩
abbrev cL_first : ByteArray := method_10_code
def yL_first : MethodName := ⟨RL, "first", "(LHiveBylaws;)Z"⟩
abbrev cL_law : ByteArray := code
def yL_law : MethodName := ⟨RL, "law", "([I)Z"⟩
abbrev vwCl : List vw_C := [(RX0, TX0, 3), (RX1, TX1, 3), (RX2, TX2, 9), (RX3, TX3, 7), (RX4, TX4, 5), (RX5, TX5, 10), (RX6, TX6, 6), (RX7, TX7, 9)]
