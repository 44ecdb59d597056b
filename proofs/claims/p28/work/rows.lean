section
-- ===== PART A: goes FIRST, ahead of the names: the tables' words, and 'selects' of the private methods out of them =====
/-- a private method of a class that the tables say can be made, by its rows of tables_1 -/
def lw_okq (q : MethodName × Nat) : Prop := (q.1.cls ≠ "java/lang/invoke/MethodHandle" ∧ q.1.cls ≠ "java/lang/invoke/VarHandle") ∧ Cond.instantiable q.1.cls q.2 ∈ tables_1 ∧ Cond.privateMethod q.1 ∈ tables_1 ∧ Cond.instanceMethod q.1 ∈ tables_1
theorem lw_p0 : lw_okq (⟨"SonMarks$History", "stateAt", "(I)LSonMarks$Roll;"⟩, 2) := ⟨⟨by decide +kernel, by decide +kernel⟩, List.mem_of_getElem? (i := 54) (by decide +kernel), List.mem_of_getElem? (i := 243) (by decide +kernel), List.mem_of_getElem? (i := 244) (by decide +kernel)⟩
theorem lw_p1 : lw_okq (⟨"SonMarks$LineSearch", "reaches", "(LSonMarks$Roll;III)Z"⟩, 3) := ⟨⟨by decide +kernel, by decide +kernel⟩, List.mem_of_getElem? (i := 83) (by decide +kernel), List.mem_of_getElem? (i := 390) (by decide +kernel), List.mem_of_getElem? (i := 391) (by decide +kernel)⟩
theorem lw_p2 : lw_okq (⟨"SonMarks$LineSearch", "goOn", "(LSonMarks$Roll;II)V"⟩, 3) := ⟨⟨by decide +kernel, by decide +kernel⟩, List.mem_of_getElem? (i := 83) (by decide +kernel), List.mem_of_getElem? (i := 403) (by decide +kernel), List.mem_of_getElem? (i := 404) (by decide +kernel)⟩
theorem lw_p3 : lw_okq (⟨"SonMarks$LineSearch", "goOnFrom", "(LSonMarks$Roll;III)V"⟩, 3) := ⟨⟨by decide +kernel, by decide +kernel⟩, List.mem_of_getElem? (i := 83) (by decide +kernel), List.mem_of_getElem? (i := 415) (by decide +kernel), List.mem_of_getElem? (i := 416) (by decide +kernel)⟩
theorem lw_p4 : lw_okq (⟨"SonMarks$Roll", "refuse", "(I)I"⟩, 8) := ⟨⟨by decide +kernel, by decide +kernel⟩, List.mem_of_getElem? (i := 21) (by decide +kernel), List.mem_of_getElem? (i := 448) (by decide +kernel), List.mem_of_getElem? (i := 449) (by decide +kernel)⟩
theorem lw_p5 : lw_okq (⟨"SonMarks$Roll", "add", "(IIII)I"⟩, 8) := ⟨⟨by decide +kernel, by decide +kernel⟩, List.mem_of_getElem? (i := 21) (by decide +kernel), List.mem_of_getElem? (i := 452) (by decide +kernel), List.mem_of_getElem? (i := 453) (by decide +kernel)⟩
theorem lw_p6 : lw_okq (⟨"SonMarks", "keepIfChanged", "(I)I"⟩, 10) := ⟨⟨by decide +kernel, by decide +kernel⟩, List.mem_of_getElem? (i := 13) (by decide +kernel), List.mem_of_getElem? (i := 456) (by decide +kernel), List.mem_of_getElem? (i := 457) (by decide +kernel)⟩
theorem lw_p7 : lw_okq (⟨"SonMarks", "enrolDeed", "(I)I"⟩, 10) := ⟨⟨by decide +kernel, by decide +kernel⟩, List.mem_of_getElem? (i := 13) (by decide +kernel), List.mem_of_getElem? (i := 612) (by decide +kernel), List.mem_of_getElem? (i := 613) (by decide +kernel)⟩
def lw_privs_1 : List (MethodName × Nat) := [(⟨"SonMarks$History", "stateAt", "(I)LSonMarks$Roll;"⟩, 2), (⟨"SonMarks$LineSearch", "reaches", "(LSonMarks$Roll;III)Z"⟩, 3), (⟨"SonMarks$LineSearch", "goOn", "(LSonMarks$Roll;II)V"⟩, 3), (⟨"SonMarks$LineSearch", "goOnFrom", "(LSonMarks$Roll;III)V"⟩, 3), (⟨"SonMarks$Roll", "refuse", "(I)I"⟩, 8), (⟨"SonMarks$Roll", "add", "(IIII)I"⟩, 8), (⟨"SonMarks", "keepIfChanged", "(I)I"⟩, 10), (⟨"SonMarks", "enrolDeed", "(I)I"⟩, 10)]
theorem lw_r1 : ∀ q ∈ lw_privs_1, lw_okq q := List.forall_mem_cons.mpr ⟨lw_p0, List.forall_mem_cons.mpr ⟨lw_p1, List.forall_mem_cons.mpr ⟨lw_p2, List.forall_mem_cons.mpr ⟨lw_p3, List.forall_mem_cons.mpr ⟨lw_p4, List.forall_mem_cons.mpr ⟨lw_p5, List.forall_mem_cons.mpr ⟨lw_p6, List.forall_mem_cons.mpr ⟨lw_p7, fun _ h => absurd h List.not_mem_nil⟩⟩⟩⟩⟩⟩⟩⟩
def lw_privs : List (MethodName × Nat) := lw_privs_1
def lw_tbl : List Cond := k2_sels lw_privs ++ tables_1
theorem lw_privs_ok : ∀ q ∈ lw_privs, lw_okq q := lw_r1
/-- the streams that the claim lets the run draw from -/
abbrev lw_cs : List Choice := [Jvm.Choice.named "NaN.bits"]
theorem lw_bits : nanBits ∈ lw_cs := by first | decide | exact List.mem_cons_self | simp [lw_cs, nanBits]

def RX0 : String := "SonMarks$Accounts"
def TX0 : u_T := fun k => match k with
  | _ => ("", "", "", false)
def tyX0 : Nat → FieldType := fun k => match k with
  | _ => .int
abbrev wsX00 : List Cond := u_ws RX0 TX0 0
theorem nmX0 : ∀ a, a < 0 → ∀ b, b < 0 → a ≠ b → (TX0 a).2.1 ≠ (TX0 b).2.1 := by decide +kernel
theorem tyX0_ok : ∀ k, k < 0 → parseFieldDescriptor (TX0 k).2.2.1 = some (tyX0 k) := by decide +kernel
abbrev cX0_founders : ByteArray := prog_2_method_2_code
def yX0_founders : MethodName := ⟨RX0, "founders", "(LSonMarks$Roll;)I"⟩
abbrev cX0_confusedPairs : ByteArray := prog_2_method_3_code
def yX0_confusedPairs : MethodName := ⟨RX0, "confusedPairs", "(LSonMarks$Roll;)I"⟩
abbrev cX0_areConfused : ByteArray := prog_2_method_4_code
def yX0_areConfused : MethodName := ⟨RX0, "areConfused", "(LSonMarks$Roll;II)Z"⟩
abbrev cX0_mostStepsFromFounder : ByteArray := prog_2_method_5_code
def yX0_mostStepsFromFounder : MethodName := ⟨RX0, "mostStepsFromFounder", "(LSonMarks$Roll;)I"⟩
abbrev cX0_differentShields : ByteArray := prog_2_method_6_code
def yX0_differentShields : MethodName := ⟨RX0, "differentShields", "(LSonMarks$Roll;)I"⟩
abbrev cX0_isFirstWithItsShield : ByteArray := prog_2_method_7_code
def yX0_isFirstWithItsShield : MethodName := ⟨RX0, "isFirstWithItsShield", "(LSonMarks$Roll;I)Z"⟩
abbrev cX0_farFromFather : ByteArray := prog_2_method_8_code
def yX0_farFromFather : MethodName := ⟨RX0, "farFromFather", "(LSonMarks$Roll;)I"⟩
abbrev cX0_livingSonless : ByteArray := prog_2_method_9_code
def yX0_livingSonless : MethodName := ⟨RX0, "livingSonless", "(LSonMarks$Roll;)I"⟩
abbrev cX0_livingWithMark : ByteArray := prog_2_method_10_code
def yX0_livingWithMark : MethodName := ⟨RX0, "livingWithMark", "(LSonMarks$Roll;II)I"⟩
abbrev cX0_meanApart : ByteArray := prog_2_method_11_code
def yX0_meanApart : MethodName := ⟨RX0, "meanApart", "(LSonMarks$Roll;)D"⟩
def RX1 : String := "SonMarks$Births"
def TX1 : u_T := fun k => match k with
  | _ => ("", "", "", false)
def tyX1 : Nat → FieldType := fun k => match k with
  | _ => .int
abbrev wsX10 : List Cond := u_ws RX1 TX1 0
theorem nmX1 : ∀ a, a < 0 → ∀ b, b < 0 → a ≠ b → (TX1 a).2.1 ≠ (TX1 b).2.1 := by decide +kernel
theorem tyX1_ok : ∀ k, k < 0 → parseFieldDescriptor (TX1 k).2.2.1 = some (tyX1 k) := by decide +kernel
abbrev cX1_leftByTrying : ByteArray := prog_3_method_2_code
def yX1_leftByTrying : MethodName := ⟨RX1, "leftByTrying", "(LSonMarks$Roll;I)I"⟩
abbrev cX1_leftByPlaces : ByteArray := prog_3_method_3_code
def yX1_leftByPlaces : MethodName := ⟨RX1, "leftByPlaces", "(LSonMarks$Roll;I)I"⟩
abbrev cX1_livingApartAt : ByteArray := prog_3_method_4_code
def yX1_livingApartAt : MethodName := ⟨RX1, "livingApartAt", "(LSonMarks$Roll;II)I"⟩
abbrev cX1_leftToAll : ByteArray := prog_3_method_5_code
def yX1_leftToAll : MethodName := ⟨RX1, "leftToAll", "(LSonMarks$Roll;)I"⟩
abbrev cX1_farthest : ByteArray := prog_3_method_6_code
def yX1_farthest : MethodName := ⟨RX1, "farthest", "(LSonMarks$Roll;I)I"⟩
abbrev cX1_leastApart : ByteArray := prog_3_method_7_code
def yX1_leastApart : MethodName := ⟨RX1, "leastApart", "(LSonMarks$Roll;II)I"⟩
def RX2 : String := "SonMarks$History"
def TX2 : u_T := fun k => match k with
  | 0 => ("SonMarks$History", "states", "[LSonMarks$Roll;", true)
  | _ => ("SonMarks$History", "size", "I", false)
def tyX2 : Nat → FieldType := fun k => match k with
  | 0 => .array (.object "SonMarks$Roll")
  | _ => .int
abbrev wsX20 : List Cond := u_ws RX2 TX2 2
theorem nmX2 : ∀ a, a < 2 → ∀ b, b < 2 → a ≠ b → (TX2 a).2.1 ≠ (TX2 b).2.1 := by decide +kernel
theorem tyX2_ok : ∀ k, k < 2 → parseFieldDescriptor (TX2 k).2.2.1 = some (tyX2 k) := by decide +kernel
abbrev cX2_init : ByteArray := prog_4_method_1_code
def yX2_init : MethodName := ⟨RX2, "<init>", "()V"⟩
abbrev cX2_size : ByteArray := prog_4_method_2_code
def yX2_size : MethodName := ⟨RX2, "size", "()I"⟩
abbrev cX2_stateAt : ByteArray := prog_4_method_3_code
def yX2_stateAt : MethodName := ⟨RX2, "stateAt", "(I)LSonMarks$Roll;"⟩
abbrev cX2_note : ByteArray := prog_4_method_4_code
def yX2_note : MethodName := ⟨RX2, "note", "(LSonMarks$Roll;)V"⟩
abbrev cX2_keepNoted : ByteArray := prog_4_method_5_code
def yX2_keepNoted : MethodName := ⟨RX2, "keepNoted", "()V"⟩
abbrev cX2_takeBack : ByteArray := prog_4_method_6_code
def yX2_takeBack : MethodName := ⟨RX2, "takeBack", "(LSonMarks$Roll;)V"⟩
def RX3 : String := "SonMarks$Kindred"
def TX3 : u_T := fun k => match k with
  | _ => ("", "", "", false)
def tyX3 : Nat → FieldType := fun k => match k with
  | _ => .int
abbrev wsX30 : List Cond := u_ws RX3 TX3 0
theorem nmX3 : ∀ a, a < 0 → ∀ b, b < 0 → a ≠ b → (TX3 a).2.1 ≠ (TX3 b).2.1 := by decide +kernel
theorem tyX3_ok : ∀ k, k < 0 → parseFieldDescriptor (TX3 k).2.2.1 = some (tyX3 k) := by decide +kernel
abbrev cX3_livingSons : ByteArray := prog_5_method_2_code
def yX3_livingSons : MethodName := ⟨RX3, "livingSons", "(LSonMarks$Roll;I)I"⟩
abbrev cX3_livingBrothers : ByteArray := prog_5_method_3_code
def yX3_livingBrothers : MethodName := ⟨RX3, "livingBrothers", "(LSonMarks$Roll;I)I"⟩
abbrev cX3_livingCousins : ByteArray := prog_5_method_4_code
def yX3_livingCousins : MethodName := ⟨RX3, "livingCousins", "(LSonMarks$Roll;I)I"⟩
abbrev cX3_descendants : ByteArray := prog_5_method_5_code
def yX3_descendants : MethodName := ⟨RX3, "descendants", "(LSonMarks$Roll;I)I"⟩
abbrev cX3_comesFrom : ByteArray := prog_5_method_6_code
def yX3_comesFrom : MethodName := ⟨RX3, "comesFrom", "(LSonMarks$Roll;II)Z"⟩
abbrev cX3_stepsFromFounder : ByteArray := prog_5_method_7_code
def yX3_stepsFromFounder : MethodName := ⟨RX3, "stepsFromFounder", "(LSonMarks$Roll;I)I"⟩
abbrev cX3_placesFromFather : ByteArray := prog_5_method_8_code
def yX3_placesFromFather : MethodName := ⟨RX3, "placesFromFather", "(LSonMarks$Roll;I)I"⟩
abbrev cX3_nearness : ByteArray := prog_5_method_9_code
def yX3_nearness : MethodName := ⟨RX3, "nearness", "(LSonMarks$Roll;II)I"⟩
abbrev cX3_heirOf : ByteArray := prog_5_method_10_code
def yX3_heirOf : MethodName := ⟨RX3, "heirOf", "(LSonMarks$Roll;I)I"⟩
def RX4 : String := "SonMarks$LineSearch"
def TX4 : u_T := fun k => match k with
  | 0 => ("SonMarks$LineSearch", "seen", "LSonMarks$ShieldSet;", true)
  | 1 => ("SonMarks$LineSearch", "reached", "LSonMarks$ShieldSet;", false)
  | _ => ("SonMarks$LineSearch", "next", "LSonMarks$ShieldSet;", false)
def tyX4 : Nat → FieldType := fun k => match k with
  | 0 => .object "SonMarks$ShieldSet"
  | 1 => .object "SonMarks$ShieldSet"
  | _ => .object "SonMarks$ShieldSet"
abbrev wsX40 : List Cond := u_ws RX4 TX4 3
theorem nmX4 : ∀ a, a < 3 → ∀ b, b < 3 → a ≠ b → (TX4 a).2.1 ≠ (TX4 b).2.1 := by decide +kernel
theorem tyX4_ok : ∀ k, k < 3 → parseFieldDescriptor (TX4 k).2.2.1 = some (tyX4 k) := by decide +kernel
abbrev cX4_init : ByteArray := prog_6_method_1_code
def yX4_init : MethodName := ⟨RX4, "<init>", "()V"⟩
abbrev cX4_fewest : ByteArray := prog_6_method_2_code
def yX4_fewest : MethodName := ⟨RX4, "fewest", "(LSonMarks$Roll;II)I"⟩
abbrev cX4_reaches : ByteArray := prog_6_method_3_code
def yX4_reaches : MethodName := ⟨RX4, "reaches", "(LSonMarks$Roll;III)Z"⟩
abbrev cX4_goOn : ByteArray := prog_6_method_4_code
def yX4_goOn : MethodName := ⟨RX4, "goOn", "(LSonMarks$Roll;II)V"⟩
abbrev cX4_goOnFrom : ByteArray := prog_6_method_5_code
def yX4_goOnFrom : MethodName := ⟨RX4, "goOnFrom", "(LSonMarks$Roll;III)V"⟩
def RX5 : String := "SonMarks$Pad"
def TX5 : u_T := fun k => match k with
  | 0 => ("SonMarks$Pad", "signs", "[I", true)
  | _ => ("SonMarks$Pad", "length", "I", false)
def tyX5 : Nat → FieldType := fun k => match k with
  | 0 => .array .int
  | _ => .int
abbrev wsX50 : List Cond := u_ws RX5 TX5 2
theorem nmX5 : ∀ a, a < 2 → ∀ b, b < 2 → a ≠ b → (TX5 a).2.1 ≠ (TX5 b).2.1 := by decide +kernel
theorem tyX5_ok : ∀ k, k < 2 → parseFieldDescriptor (TX5 k).2.2.1 = some (tyX5 k) := by decide +kernel
abbrev cX5_init : ByteArray := prog_7_method_1_code
def yX5_init : MethodName := ⟨RX5, "<init>", "()V"⟩
abbrev cX5_length : ByteArray := prog_7_method_2_code
def yX5_length : MethodName := ⟨RX5, "length", "()I"⟩
abbrev cX5_isFull : ByteArray := prog_7_method_3_code
def yX5_isFull : MethodName := ⟨RX5, "isFull", "()Z"⟩
abbrev cX5_put : ByteArray := prog_7_method_4_code
def yX5_put : MethodName := ⟨RX5, "put", "(I)V"⟩
abbrev cX5_empty : ByteArray := prog_7_method_5_code
def yX5_empty : MethodName := ⟨RX5, "empty", "()V"⟩
abbrev cX5_signAt : ByteArray := prog_7_method_6_code
def yX5_signAt : MethodName := ⟨RX5, "signAt", "(I)I"⟩
abbrev cX5_startsDeed : ByteArray := prog_7_method_7_code
def yX5_startsDeed : MethodName := ⟨RX5, "startsDeed", "(I)Z"⟩
abbrev cX5_digitAt : ByteArray := prog_7_method_8_code
def yX5_digitAt : MethodName := ⟨RX5, "digitAt", "(I)I"⟩
abbrev cX5_afterNumber : ByteArray := prog_7_method_9_code
def yX5_afterNumber : MethodName := ⟨RX5, "afterNumber", "(I)I"⟩
abbrev cX5_numberAt : ByteArray := prog_7_method_10_code
def yX5_numberAt : MethodName := ⟨RX5, "numberAt", "(I)I"⟩
abbrev cX5_shieldAt : ByteArray := prog_7_method_11_code
def yX5_shieldAt : MethodName := ⟨RX5, "shieldAt", "(I)I"⟩
abbrev cX5_firstFault : ByteArray := prog_7_method_12_code
def yX5_firstFault : MethodName := ⟨RX5, "firstFault", "()I"⟩
abbrev cX5_stateAfter : ByteArray := prog_7_method_13_code
def yX5_stateAfter : MethodName := ⟨RX5, "stateAfter", "(II)I"⟩
abbrev cX5_stateAfterLetter : ByteArray := prog_7_method_14_code
def yX5_stateAfterLetter : MethodName := ⟨RX5, "stateAfterLetter", "(I)I"⟩
abbrev cX5_stateAfterFather : ByteArray := prog_7_method_15_code
def yX5_stateAfterFather : MethodName := ⟨RX5, "stateAfterFather", "(I)I"⟩
abbrev cX5_stateAfterDeed : ByteArray := prog_7_method_16_code
def yX5_stateAfterDeed : MethodName := ⟨RX5, "stateAfterDeed", "(I)I"⟩
abbrev cX5_stateAfterDigit : ByteArray := prog_7_method_17_code
def yX5_stateAfterDigit : MethodName := ⟨RX5, "stateAfterDigit", "(III)I"⟩
abbrev cX5_isBetween : ByteArray := prog_7_method_18_code
def yX5_isBetween : MethodName := ⟨RX5, "isBetween", "(III)Z"⟩
def RX6 : String := "SonMarks$Roll"
def TX6 : u_T := fun k => match k with
  | 0 => ("SonMarks$Roll", "shields", "[I", true)
  | 1 => ("SonMarks$Roll", "alive", "[Z", true)
  | 2 => ("SonMarks$Roll", "fathers", "[I", true)
  | 3 => ("SonMarks$Roll", "birthPlaces", "[I", true)
  | 4 => ("SonMarks$Roll", "birthMarks", "[I", true)
  | 5 => ("SonMarks$Roll", "size", "I", false)
  | 6 => ("SonMarks$Roll", "heirs", "I", false)
  | _ => ("SonMarks$Roll", "refusals", "I", false)
def tyX6 : Nat → FieldType := fun k => match k with
  | 0 => .array .int
  | 1 => .array .boolean
  | 2 => .array .int
  | 3 => .array .int
  | 4 => .array .int
  | 5 => .int
  | 6 => .int
  | _ => .int
abbrev wsX60 : List Cond := u_ws RX6 TX6 8
theorem nmX6 : ∀ a, a < 8 → ∀ b, b < 8 → a ≠ b → (TX6 a).2.1 ≠ (TX6 b).2.1 := by decide +kernel
theorem tyX6_ok : ∀ k, k < 8 → parseFieldDescriptor (TX6 k).2.2.1 = some (tyX6 k) := by decide +kernel
abbrev cX6_init : ByteArray := prog_8_method_1_code
def yX6_init : MethodName := ⟨RX6, "<init>", "()V"⟩
abbrev cX6_copyFrom : ByteArray := prog_8_method_2_code
def yX6_copyFrom : MethodName := ⟨RX6, "copyFrom", "(LSonMarks$Roll;)V"⟩
abbrev cX6_size : ByteArray := prog_8_method_3_code
def yX6_size : MethodName := ⟨RX6, "size", "()I"⟩
abbrev cX6_heirs : ByteArray := prog_8_method_4_code
def yX6_heirs : MethodName := ⟨RX6, "heirs", "()I"⟩
abbrev cX6_refusals : ByteArray := prog_8_method_5_code
def yX6_refusals : MethodName := ⟨RX6, "refusals", "()I"⟩
abbrev cX6_has : ByteArray := prog_8_method_6_code
def yX6_has : MethodName := ⟨RX6, "has", "(I)Z"⟩
abbrev cX6_shieldOf : ByteArray := prog_8_method_7_code
def yX6_shieldOf : MethodName := ⟨RX6, "shieldOf", "(I)I"⟩
abbrev cX6_isAlive : ByteArray := prog_8_method_8_code
def yX6_isAlive : MethodName := ⟨RX6, "isAlive", "(I)Z"⟩
abbrev cX6_fatherOf : ByteArray := prog_8_method_9_code
def yX6_fatherOf : MethodName := ⟨RX6, "fatherOf", "(I)I"⟩
abbrev cX6_birthPlaceOf : ByteArray := prog_8_method_10_code
def yX6_birthPlaceOf : MethodName := ⟨RX6, "birthPlaceOf", "(I)I"⟩
abbrev cX6_birthMarkOf : ByteArray := prog_8_method_11_code
def yX6_birthMarkOf : MethodName := ⟨RX6, "birthMarkOf", "(I)I"⟩
abbrev cX6_living : ByteArray := prog_8_method_12_code
def yX6_living : MethodName := ⟨RX6, "living", "()I"⟩
abbrev cX6_livingWith : ByteArray := prog_8_method_13_code
def yX6_livingWith : MethodName := ⟨RX6, "livingWith", "(I)I"⟩
abbrev cX6_sonsOf : ByteArray := prog_8_method_14_code
def yX6_sonsOf : MethodName := ⟨RX6, "sonsOf", "(I)I"⟩
abbrev cX6_areBrothers : ByteArray := prog_8_method_15_code
def yX6_areBrothers : MethodName := ⟨RX6, "areBrothers", "(II)Z"⟩
abbrev cX6_founderComes : ByteArray := prog_8_method_16_code
def yX6_founderComes : MethodName := ⟨RX6, "founderComes", "(I)I"⟩
abbrev cX6_sonComes : ByteArray := prog_8_method_17_code
def yX6_sonComes : MethodName := ⟨RX6, "sonComes", "(III)I"⟩
abbrev cX6_goes : ByteArray := prog_8_method_18_code
def yX6_goes : MethodName := ⟨RX6, "goes", "(I)I"⟩
abbrev cX6_becomesHeir : ByteArray := prog_8_method_19_code
def yX6_becomesHeir : MethodName := ⟨RX6, "becomesHeir", "(I)I"⟩
abbrev cX6_refuse : ByteArray := prog_8_method_20_code
def yX6_refuse : MethodName := ⟨RX6, "refuse", "(I)I"⟩
abbrev cX6_add : ByteArray := prog_8_method_21_code
def yX6_add : MethodName := ⟨RX6, "add", "(IIII)I"⟩
abbrev cX6_reasonAgainstSon : ByteArray := prog_8_method_22_code
def yX6_reasonAgainstSon : MethodName := ⟨RX6, "reasonAgainstSon", "(III)I"⟩
abbrev cX6_cousinChanged : ByteArray := prog_8_method_23_code
def yX6_cousinChanged : MethodName := ⟨RX6, "cousinChanged", "(II)Z"⟩
abbrev cX6_reasonAgainstHeir : ByteArray := prog_8_method_24_code
def yX6_reasonAgainstHeir : MethodName := ⟨RX6, "reasonAgainstHeir", "(I)I"⟩
def RX7 : String := "SonMarks$ShieldSet"
def TX7 : u_T := fun k => match k with
  | _ => ("SonMarks$ShieldSet", "words", "[J", true)
def tyX7 : Nat → FieldType := fun k => match k with
  | _ => .array .long
abbrev wsX70 : List Cond := u_ws RX7 TX7 1
theorem nmX7 : ∀ a, a < 1 → ∀ b, b < 1 → a ≠ b → (TX7 a).2.1 ≠ (TX7 b).2.1 := by decide +kernel
theorem tyX7_ok : ∀ k, k < 1 → parseFieldDescriptor (TX7 k).2.2.1 = some (tyX7 k) := by decide +kernel
abbrev cX7_init : ByteArray := prog_9_method_1_code
def yX7_init : MethodName := ⟨RX7, "<init>", "()V"⟩
abbrev cX7_has : ByteArray := prog_9_method_2_code
def yX7_has : MethodName := ⟨RX7, "has", "(I)Z"⟩
abbrev cX7_add : ByteArray := prog_9_method_3_code
def yX7_add : MethodName := ⟨RX7, "add", "(I)V"⟩
abbrev cX7_empty : ByteArray := prog_9_method_4_code
def yX7_empty : MethodName := ⟨RX7, "empty", "()V"⟩
abbrev cX7_isWordEmpty : ByteArray := prog_9_method_5_code
def yX7_isWordEmpty : MethodName := ⟨RX7, "isWordEmpty", "(I)Z"⟩
def RX8 : String := "SonMarks$Shields"
def TX8 : u_T := fun k => match k with
  | _ => ("", "", "", false)
def tyX8 : Nat → FieldType := fun k => match k with
  | _ => .int
abbrev wsX80 : List Cond := u_ws RX8 TX8 0
theorem nmX8 : ∀ a, a < 0 → ∀ b, b < 0 → a ≠ b → (TX8 a).2.1 ≠ (TX8 b).2.1 := by decide +kernel
theorem tyX8_ok : ∀ k, k < 0 → parseFieldDescriptor (TX8 k).2.2.1 = some (tyX8 k) := by decide +kernel
abbrev cX8_isShield : ByteArray := prog_10_method_2_code
def yX8_isShield : MethodName := ⟨RX8, "isShield", "(I)Z"⟩
abbrev cX8_isPlace : ByteArray := prog_10_method_3_code
def yX8_isPlace : MethodName := ⟨RX8, "isPlace", "(I)Z"⟩
abbrev cX8_isMark : ByteArray := prog_10_method_4_code
def yX8_isMark : MethodName := ⟨RX8, "isMark", "(I)Z"⟩
abbrev cX8_markAt : ByteArray := prog_10_method_5_code
def yX8_markAt : MethodName := ⟨RX8, "markAt", "(II)I"⟩
abbrev cX8_weightOf : ByteArray := prog_10_method_6_code
def yX8_weightOf : MethodName := ⟨RX8, "weightOf", "(I)I"⟩
abbrev cX8_withMark : ByteArray := prog_10_method_7_code
def yX8_withMark : MethodName := ⟨RX8, "withMark", "(III)I"⟩
abbrev cX8_apart : ByteArray := prog_10_method_8_code
def yX8_apart : MethodName := ⟨RX8, "apart", "(II)I"⟩
def RX9 : String := "SonMarks"
def TX9 : u_T := fun k => match k with
  | 0 => ("SonMarks", "roll", "LSonMarks$Roll;", true)
  | 1 => ("SonMarks", "snapshot", "LSonMarks$Roll;", true)
  | 2 => ("SonMarks", "trial", "LSonMarks$Roll;", true)
  | 3 => ("SonMarks", "history", "LSonMarks$History;", true)
  | 4 => ("SonMarks", "pad", "LSonMarks$Pad;", true)
  | 5 => ("SonMarks", "lines", "LSonMarks$LineSearch;", true)
  | 6 => ("SonMarks", "snapshotTaken", "Z", false)
  | 7 => ("SonMarks", "stopAnswer", "I", false)
  | 8 => ("SonMarks", "stopDeed", "I", false)
  | _ => ("SonMarks", "stopPosition", "I", false)
def tyX9 : Nat → FieldType := fun k => match k with
  | 0 => .object "SonMarks$Roll"
  | 1 => .object "SonMarks$Roll"
  | 2 => .object "SonMarks$Roll"
  | 3 => .object "SonMarks$History"
  | 4 => .object "SonMarks$Pad"
  | 5 => .object "SonMarks$LineSearch"
  | 6 => .boolean
  | 7 => .int
  | 8 => .int
  | _ => .int
abbrev wsX90 : List Cond := u_ws RX9 TX9 10
theorem nmX9 : ∀ a, a < 10 → ∀ b, b < 10 → a ≠ b → (TX9 a).2.1 ≠ (TX9 b).2.1 := by decide +kernel
theorem tyX9_ok : ∀ k, k < 10 → parseFieldDescriptor (TX9 k).2.2.1 = some (tyX9 k) := by decide +kernel
abbrev cX9_init : ByteArray := prog_1_method_1_code
def yX9_init : MethodName := ⟨RX9, "<init>", "()V"⟩
abbrev cX9_found : ByteArray := prog_1_method_2_code
def yX9_found : MethodName := ⟨RX9, "found", "(I)I"⟩
abbrev cX9_bear : ByteArray := prog_1_method_3_code
def yX9_bear : MethodName := ⟨RX9, "bear", "(III)I"⟩
abbrev cX9_die : ByteArray := prog_1_method_4_code
def yX9_die : MethodName := ⟨RX9, "die", "(I)I"⟩
abbrev cX9_inherit : ByteArray := prog_1_method_5_code
def yX9_inherit : MethodName := ⟨RX9, "inherit", "(I)I"⟩
abbrev cX9_keepIfChanged : ByteArray := prog_1_method_6_code
def yX9_keepIfChanged : MethodName := ⟨RX9, "keepIfChanged", "(I)I"⟩
abbrev cX9_append : ByteArray := prog_1_method_7_code
def yX9_append : MethodName := ⟨RX9, "append", "(I)I"⟩
abbrev cX9_clear : ByteArray := prog_1_method_8_code
def yX9_clear : MethodName := ⟨RX9, "clear", "()I"⟩
abbrev cX9_fault : ByteArray := prog_1_method_9_code
def yX9_fault : MethodName := ⟨RX9, "fault", "()I"⟩
abbrev cX9_enrol : ByteArray := prog_1_method_10_code
def yX9_enrol : MethodName := ⟨RX9, "enrol", "()I"⟩
abbrev cX9_enrolDeed : ByteArray := prog_1_method_11_code
def yX9_enrolDeed : MethodName := ⟨RX9, "enrolDeed", "(I)I"⟩
abbrev cX9_why : ByteArray := prog_1_method_12_code
def yX9_why : MethodName := ⟨RX9, "why", "(I)I"⟩
abbrev cX9_person : ByteArray := prog_1_method_13_code
def yX9_person : MethodName := ⟨RX9, "person", "(II)I"⟩
abbrev cX9_orNotFound : ByteArray := prog_1_method_14_code
def yX9_orNotFound : MethodName := ⟨RX9, "orNotFound", "(I)I"⟩
abbrev cX9_mark : ByteArray := prog_1_method_15_code
def yX9_mark : MethodName := ⟨RX9, "mark", "(II)I"⟩
abbrev cX9_whyNot : ByteArray := prog_1_method_16_code
def yX9_whyNot : MethodName := ⟨RX9, "whyNot", "(III)I"⟩
abbrev cX9_choices : ByteArray := prog_1_method_17_code
def yX9_choices : MethodName := ⟨RX9, "choices", "(II)I"⟩
abbrev cX9_best : ByteArray := prog_1_method_18_code
def yX9_best : MethodName := ⟨RX9, "best", "(I)I"⟩
abbrev cX9_differs : ByteArray := prog_1_method_19_code
def yX9_differs : MethodName := ⟨RX9, "differs", "(II)I"⟩
abbrev cX9_kin : ByteArray := prog_1_method_20_code
def yX9_kin : MethodName := ⟨RX9, "kin", "(II)I"⟩
abbrev cX9_bearer : ByteArray := prog_1_method_21_code
def yX9_bearer : MethodName := ⟨RX9, "bearer", "(I)I"⟩
abbrev cX9_line : ByteArray := prog_1_method_22_code
def yX9_line : MethodName := ⟨RX9, "line", "(III)I"⟩
abbrev cX9_isWay : ByteArray := prog_1_method_23_code
def yX9_isWay : MethodName := ⟨RX9, "isWay", "(I)Z"⟩
abbrev cX9_count : ByteArray := prog_1_method_24_code
def yX9_count : MethodName := ⟨RX9, "count", "(I)I"⟩
abbrev cX9_borne : ByteArray := prog_1_method_25_code
def yX9_borne : MethodName := ⟨RX9, "borne", "(II)I"⟩
abbrev cX9_unlike : ByteArray := prog_1_method_26_code
def yX9_unlike : MethodName := ⟨RX9, "unlike", "()D"⟩
abbrev cX9_ifDead : ByteArray := prog_1_method_27_code
def yX9_ifDead : MethodName := ⟨RX9, "ifDead", "(II)I"⟩
abbrev cX9_undo : ByteArray := prog_1_method_28_code
def yX9_undo : MethodName := ⟨RX9, "undo", "()I"⟩
abbrev cX9_save : ByteArray := prog_1_method_29_code
def yX9_save : MethodName := ⟨RX9, "save", "()I"⟩
abbrev cX9_restore : ByteArray := prog_1_method_30_code
def yX9_restore : MethodName := ⟨RX9, "restore", "()I"⟩
def RX10 : String := "SonMarksModel"
def TX10 : u_T := fun k => match k with
  | _ => ("", "", "", false)
def tyX10 : Nat → FieldType := fun k => match k with
  | _ => .int
abbrev wsX100 : List Cond := u_ws RX10 TX10 0
theorem nmX10 : ∀ a, a < 0 → ∀ b, b < 0 → a ≠ b → (TX10 a).2.1 ≠ (TX10 b).2.1 := by decide +kernel
theorem tyX10_ok : ∀ k, k < 0 → parseFieldDescriptor (TX10 k).2.2.1 = some (tyX10 k) := by decide +kernel
def RL : String := "SonMarksLaw"
abbrev cL_cell : ByteArray := method_2_code
def yL_cell : MethodName := ⟨RL, "cell", "([II)I"⟩
abbrev cL_seen : ByteArray := method_3_code
def yL_seen : MethodName := ⟨RL, "seen", "(LSonMarks;)J"⟩
abbrev cL_arePersons : ByteArray := method_4_code
def yL_arePersons : MethodName := ⟨RL, "arePersons", "(LSonMarks;)Z"⟩
abbrev cL_arePairs : ByteArray := method_5_code
def yL_arePairs : MethodName := ⟨RL, "arePairs", "(LSonMarks;III)Z"⟩
abbrev cL_isLine : ByteArray := method_6_code
def yL_isLine : MethodName := ⟨RL, "isLine", "(LSonMarks;II)Z"⟩
abbrev cL_refusesAny : ByteArray := method_7_code
def yL_refusesAny : MethodName := ⟨RL, "refusesAny", "(LSonMarks;I)Z"⟩
abbrev cL_refuses : ByteArray := method_8_code
def yL_refuses : MethodName := ⟨RL, "refuses", "(LSonMarks;I)Z"⟩
abbrev cL_act : ByteArray := method_9_code
def yL_act : MethodName := ⟨RL, "act", "(LSonMarks;I)I"⟩
abbrev cL_law : ByteArray := code
def yL_law : MethodName := ⟨RL, "law", "([I)Z"⟩
abbrev vwCl : List vw_C := [(RX2, TX2, 2), (RX4, TX4, 3), (RX5, TX5, 2), (RX6, TX6, 8), (RX7, TX7, 1), (RX9, TX9, 10)]
end
section
theorem dX0_founders_0 : decode cX0_founders 0 = .ok (.iconst 0, 1) := by decide +kernel
theorem dX0_founders_1 : decode cX0_founders 1 = .ok (.istore_n 1, 1) := by decide +kernel
theorem dX0_founders_2 : decode cX0_founders 2 = .ok (.iconst 0, 1) := by decide +kernel
theorem dX0_founders_3 : decode cX0_founders 3 = .ok (.istore_n 2, 1) := by decide +kernel
theorem dX0_founders_4 : decode cX0_founders 4 = .ok (.iload_n 2, 1) := by decide +kernel
theorem dX0_founders_5 : decode cX0_founders 5 = .ok (.aload_n 0, 1) := by decide +kernel
theorem dX0_founders_6 : decode cX0_founders 6 = .ok (.invokevirtual 9, 3) := by decide +kernel
theorem dX0_founders_9 : decode cX0_founders 9 = .ok (.if_icmp .ge 21, 3) := by decide +kernel
theorem dX0_founders_12 : decode cX0_founders 12 = .ok (.aload_n 0, 1) := by decide +kernel
theorem dX0_founders_13 : decode cX0_founders 13 = .ok (.iload_n 2, 1) := by decide +kernel
theorem dX0_founders_14 : decode cX0_founders 14 = .ok (.invokevirtual 15, 3) := by decide +kernel
theorem dX0_founders_17 : decode cX0_founders 17 = .ok (.iconst (-1), 1) := by decide +kernel
theorem dX0_founders_18 : decode cX0_founders 18 = .ok (.if_icmp .ne 6, 3) := by decide +kernel
theorem dX0_founders_21 : decode cX0_founders 21 = .ok (.iinc 1 1, 3) := by decide +kernel
theorem dX0_founders_24 : decode cX0_founders 24 = .ok (.iinc 2 1, 3) := by decide +kernel
theorem dX0_founders_27 : decode cX0_founders 27 = .ok (.goto (-23), 3) := by decide +kernel
theorem dX0_founders_30 : decode cX0_founders 30 = .ok (.iload_n 1, 1) := by decide +kernel
theorem dX0_founders_31 : decode cX0_founders 31 = .ok (.ireturn, 1) := by decide +kernel
theorem dX0_confusedPairs_0 : decode cX0_confusedPairs 0 = .ok (.iconst 0, 1) := by decide +kernel
theorem dX0_confusedPairs_1 : decode cX0_confusedPairs 1 = .ok (.istore_n 1, 1) := by decide +kernel
theorem dX0_confusedPairs_2 : decode cX0_confusedPairs 2 = .ok (.iconst 0, 1) := by decide +kernel
theorem dX0_confusedPairs_3 : decode cX0_confusedPairs 3 = .ok (.istore_n 2, 1) := by decide +kernel
theorem dX0_confusedPairs_4 : decode cX0_confusedPairs 4 = .ok (.iload_n 2, 1) := by decide +kernel
theorem dX0_confusedPairs_5 : decode cX0_confusedPairs 5 = .ok (.aload_n 0, 1) := by decide +kernel
theorem dX0_confusedPairs_6 : decode cX0_confusedPairs 6 = .ok (.invokevirtual 9, 3) := by decide +kernel
theorem dX0_confusedPairs_9 : decode cX0_confusedPairs 9 = .ok (.if_icmp .ge 39, 3) := by decide +kernel
theorem dX0_confusedPairs_12 : decode cX0_confusedPairs 12 = .ok (.iload_n 2, 1) := by decide +kernel
theorem dX0_confusedPairs_13 : decode cX0_confusedPairs 13 = .ok (.iconst 1, 1) := by decide +kernel
theorem dX0_confusedPairs_14 : decode cX0_confusedPairs 14 = .ok (.iadd, 1) := by decide +kernel
theorem dX0_confusedPairs_15 : decode cX0_confusedPairs 15 = .ok (.istore_n 3, 1) := by decide +kernel
theorem dX0_confusedPairs_16 : decode cX0_confusedPairs 16 = .ok (.iload_n 3, 1) := by decide +kernel
theorem dX0_confusedPairs_17 : decode cX0_confusedPairs 17 = .ok (.aload_n 0, 1) := by decide +kernel
theorem dX0_confusedPairs_18 : decode cX0_confusedPairs 18 = .ok (.invokevirtual 9, 3) := by decide +kernel
theorem dX0_confusedPairs_21 : decode cX0_confusedPairs 21 = .ok (.if_icmp .ge 21, 3) := by decide +kernel
theorem dX0_confusedPairs_24 : decode cX0_confusedPairs 24 = .ok (.aload_n 0, 1) := by decide +kernel
theorem dX0_confusedPairs_25 : decode cX0_confusedPairs 25 = .ok (.iload_n 2, 1) := by decide +kernel
theorem dX0_confusedPairs_26 : decode cX0_confusedPairs 26 = .ok (.iload_n 3, 1) := by decide +kernel
theorem dX0_confusedPairs_27 : decode cX0_confusedPairs 27 = .ok (.invokestatic 19, 3) := by decide +kernel
theorem dX0_confusedPairs_30 : decode cX0_confusedPairs 30 = .ok (.ifCond .eq 6, 3) := by decide +kernel
theorem dX0_confusedPairs_33 : decode cX0_confusedPairs 33 = .ok (.iinc 1 1, 3) := by decide +kernel
theorem dX0_confusedPairs_36 : decode cX0_confusedPairs 36 = .ok (.iinc 3 1, 3) := by decide +kernel
theorem dX0_confusedPairs_39 : decode cX0_confusedPairs 39 = .ok (.goto (-23), 3) := by decide +kernel
theorem dX0_confusedPairs_42 : decode cX0_confusedPairs 42 = .ok (.iinc 2 1, 3) := by decide +kernel
theorem dX0_confusedPairs_45 : decode cX0_confusedPairs 45 = .ok (.goto (-41), 3) := by decide +kernel
theorem dX0_confusedPairs_48 : decode cX0_confusedPairs 48 = .ok (.iload_n 1, 1) := by decide +kernel
theorem dX0_confusedPairs_49 : decode cX0_confusedPairs 49 = .ok (.ireturn, 1) := by decide +kernel
theorem dX0_areConfused_0 : decode cX0_areConfused 0 = .ok (.aload_n 0, 1) := by decide +kernel
theorem dX0_areConfused_1 : decode cX0_areConfused 1 = .ok (.iload_n 1, 1) := by decide +kernel
theorem dX0_areConfused_2 : decode cX0_areConfused 2 = .ok (.invokevirtual 25, 3) := by decide +kernel
theorem dX0_areConfused_5 : decode cX0_areConfused 5 = .ok (.ifCond .eq 50, 3) := by decide +kernel
theorem dX0_areConfused_8 : decode cX0_areConfused 8 = .ok (.aload_n 0, 1) := by decide +kernel
theorem dX0_areConfused_9 : decode cX0_areConfused 9 = .ok (.iload_n 2, 1) := by decide +kernel
theorem dX0_areConfused_10 : decode cX0_areConfused 10 = .ok (.invokevirtual 25, 3) := by decide +kernel
theorem dX0_areConfused_13 : decode cX0_areConfused 13 = .ok (.ifCond .eq 42, 3) := by decide +kernel
theorem dX0_areConfused_16 : decode cX0_areConfused 16 = .ok (.aload_n 0, 1) := by decide +kernel
theorem dX0_areConfused_17 : decode cX0_areConfused 17 = .ok (.iload_n 1, 1) := by decide +kernel
theorem dX0_areConfused_18 : decode cX0_areConfused 18 = .ok (.invokevirtual 15, 3) := by decide +kernel
theorem dX0_areConfused_21 : decode cX0_areConfused 21 = .ok (.iload_n 2, 1) := by decide +kernel
theorem dX0_areConfused_22 : decode cX0_areConfused 22 = .ok (.if_icmp .eq 33, 3) := by decide +kernel
theorem dX0_areConfused_25 : decode cX0_areConfused 25 = .ok (.aload_n 0, 1) := by decide +kernel
theorem dX0_areConfused_26 : decode cX0_areConfused 26 = .ok (.iload_n 2, 1) := by decide +kernel
theorem dX0_areConfused_27 : decode cX0_areConfused 27 = .ok (.invokevirtual 15, 3) := by decide +kernel
theorem dX0_areConfused_30 : decode cX0_areConfused 30 = .ok (.iload_n 1, 1) := by decide +kernel
theorem dX0_areConfused_31 : decode cX0_areConfused 31 = .ok (.if_icmp .eq 24, 3) := by decide +kernel
theorem dX0_areConfused_34 : decode cX0_areConfused 34 = .ok (.aload_n 0, 1) := by decide +kernel
theorem dX0_areConfused_35 : decode cX0_areConfused 35 = .ok (.iload_n 1, 1) := by decide +kernel
theorem dX0_areConfused_36 : decode cX0_areConfused 36 = .ok (.invokevirtual 29, 3) := by decide +kernel
theorem dX0_areConfused_39 : decode cX0_areConfused 39 = .ok (.aload_n 0, 1) := by decide +kernel
theorem dX0_areConfused_40 : decode cX0_areConfused 40 = .ok (.iload_n 2, 1) := by decide +kernel
theorem dX0_areConfused_41 : decode cX0_areConfused 41 = .ok (.invokevirtual 29, 3) := by decide +kernel
theorem dX0_areConfused_44 : decode cX0_areConfused 44 = .ok (.invokestatic 32, 3) := by decide +kernel
theorem dX0_areConfused_47 : decode cX0_areConfused 47 = .ok (.iconst 1, 1) := by decide +kernel
theorem dX0_areConfused_48 : decode cX0_areConfused 48 = .ok (.if_icmp .ne 7, 3) := by decide +kernel
theorem dX0_areConfused_51 : decode cX0_areConfused 51 = .ok (.iconst 1, 1) := by decide +kernel
theorem dX0_areConfused_52 : decode cX0_areConfused 52 = .ok (.goto 4, 3) := by decide +kernel
theorem dX0_areConfused_55 : decode cX0_areConfused 55 = .ok (.iconst 0, 1) := by decide +kernel
theorem dX0_areConfused_56 : decode cX0_areConfused 56 = .ok (.ireturn, 1) := by decide +kernel
theorem dX0_mostStepsFromFounder_0 : decode cX0_mostStepsFromFounder 0 = .ok (.iconst 0, 1) := by decide +kernel
theorem dX0_mostStepsFromFounder_1 : decode cX0_mostStepsFromFounder 1 = .ok (.istore_n 1, 1) := by decide +kernel
theorem dX0_mostStepsFromFounder_2 : decode cX0_mostStepsFromFounder 2 = .ok (.iconst 0, 1) := by decide +kernel
theorem dX0_mostStepsFromFounder_3 : decode cX0_mostStepsFromFounder 3 = .ok (.istore_n 2, 1) := by decide +kernel
theorem dX0_mostStepsFromFounder_4 : decode cX0_mostStepsFromFounder 4 = .ok (.iload_n 2, 1) := by decide +kernel
theorem dX0_mostStepsFromFounder_5 : decode cX0_mostStepsFromFounder 5 = .ok (.aload_n 0, 1) := by decide +kernel
theorem dX0_mostStepsFromFounder_6 : decode cX0_mostStepsFromFounder 6 = .ok (.invokevirtual 9, 3) := by decide +kernel
theorem dX0_mostStepsFromFounder_9 : decode cX0_mostStepsFromFounder 9 = .ok (.if_icmp .ge 19, 3) := by decide +kernel
theorem dX0_mostStepsFromFounder_12 : decode cX0_mostStepsFromFounder 12 = .ok (.iload_n 1, 1) := by decide +kernel
theorem dX0_mostStepsFromFounder_13 : decode cX0_mostStepsFromFounder 13 = .ok (.aload_n 0, 1) := by decide +kernel
theorem dX0_mostStepsFromFounder_14 : decode cX0_mostStepsFromFounder 14 = .ok (.iload_n 2, 1) := by decide +kernel
theorem dX0_mostStepsFromFounder_15 : decode cX0_mostStepsFromFounder 15 = .ok (.invokestatic 38, 3) := by decide +kernel
theorem dX0_mostStepsFromFounder_18 : decode cX0_mostStepsFromFounder 18 = .ok (.invokestatic 44, 3) := by decide +kernel
theorem dX0_mostStepsFromFounder_21 : decode cX0_mostStepsFromFounder 21 = .ok (.istore_n 1, 1) := by decide +kernel
theorem dX0_mostStepsFromFounder_22 : decode cX0_mostStepsFromFounder 22 = .ok (.iinc 2 1, 3) := by decide +kernel
theorem dX0_mostStepsFromFounder_25 : decode cX0_mostStepsFromFounder 25 = .ok (.goto (-21), 3) := by decide +kernel
theorem dX0_mostStepsFromFounder_28 : decode cX0_mostStepsFromFounder 28 = .ok (.iload_n 1, 1) := by decide +kernel
theorem dX0_mostStepsFromFounder_29 : decode cX0_mostStepsFromFounder 29 = .ok (.ireturn, 1) := by decide +kernel
theorem dX0_differentShields_0 : decode cX0_differentShields 0 = .ok (.iconst 0, 1) := by decide +kernel
theorem dX0_differentShields_1 : decode cX0_differentShields 1 = .ok (.istore_n 1, 1) := by decide +kernel
theorem dX0_differentShields_2 : decode cX0_differentShields 2 = .ok (.iconst 0, 1) := by decide +kernel
theorem dX0_differentShields_3 : decode cX0_differentShields 3 = .ok (.istore_n 2, 1) := by decide +kernel
theorem dX0_differentShields_4 : decode cX0_differentShields 4 = .ok (.iload_n 2, 1) := by decide +kernel
theorem dX0_differentShields_5 : decode cX0_differentShields 5 = .ok (.aload_n 0, 1) := by decide +kernel
theorem dX0_differentShields_6 : decode cX0_differentShields 6 = .ok (.invokevirtual 9, 3) := by decide +kernel
theorem dX0_differentShields_9 : decode cX0_differentShields 9 = .ok (.if_icmp .ge 20, 3) := by decide +kernel
theorem dX0_differentShields_12 : decode cX0_differentShields 12 = .ok (.aload_n 0, 1) := by decide +kernel
theorem dX0_differentShields_13 : decode cX0_differentShields 13 = .ok (.iload_n 2, 1) := by decide +kernel
theorem dX0_differentShields_14 : decode cX0_differentShields 14 = .ok (.invokestatic 49, 3) := by decide +kernel
theorem dX0_differentShields_17 : decode cX0_differentShields 17 = .ok (.ifCond .eq 6, 3) := by decide +kernel
theorem dX0_differentShields_20 : decode cX0_differentShields 20 = .ok (.iinc 1 1, 3) := by decide +kernel
theorem dX0_differentShields_23 : decode cX0_differentShields 23 = .ok (.iinc 2 1, 3) := by decide +kernel
theorem dX0_differentShields_26 : decode cX0_differentShields 26 = .ok (.goto (-22), 3) := by decide +kernel
theorem dX0_differentShields_29 : decode cX0_differentShields 29 = .ok (.iload_n 1, 1) := by decide +kernel
theorem dX0_differentShields_30 : decode cX0_differentShields 30 = .ok (.ireturn, 1) := by decide +kernel
theorem dX0_isFirstWithItsShield_0 : decode cX0_isFirstWithItsShield 0 = .ok (.iconst 0, 1) := by decide +kernel
theorem dX0_isFirstWithItsShield_1 : decode cX0_isFirstWithItsShield 1 = .ok (.istore_n 2, 1) := by decide +kernel
theorem dX0_isFirstWithItsShield_2 : decode cX0_isFirstWithItsShield 2 = .ok (.iload_n 2, 1) := by decide +kernel
theorem dX0_isFirstWithItsShield_3 : decode cX0_isFirstWithItsShield 3 = .ok (.iload_n 1, 1) := by decide +kernel
theorem dX0_isFirstWithItsShield_4 : decode cX0_isFirstWithItsShield 4 = .ok (.if_icmp .ge 24, 3) := by decide +kernel
theorem dX0_isFirstWithItsShield_7 : decode cX0_isFirstWithItsShield 7 = .ok (.aload_n 0, 1) := by decide +kernel
theorem dX0_isFirstWithItsShield_8 : decode cX0_isFirstWithItsShield 8 = .ok (.iload_n 2, 1) := by decide +kernel
theorem dX0_isFirstWithItsShield_9 : decode cX0_isFirstWithItsShield 9 = .ok (.invokevirtual 29, 3) := by decide +kernel
theorem dX0_isFirstWithItsShield_12 : decode cX0_isFirstWithItsShield 12 = .ok (.aload_n 0, 1) := by decide +kernel
theorem dX0_isFirstWithItsShield_13 : decode cX0_isFirstWithItsShield 13 = .ok (.iload_n 1, 1) := by decide +kernel
theorem dX0_isFirstWithItsShield_14 : decode cX0_isFirstWithItsShield 14 = .ok (.invokevirtual 29, 3) := by decide +kernel
theorem dX0_isFirstWithItsShield_17 : decode cX0_isFirstWithItsShield 17 = .ok (.if_icmp .ne 5, 3) := by decide +kernel
theorem dX0_isFirstWithItsShield_20 : decode cX0_isFirstWithItsShield 20 = .ok (.iconst 0, 1) := by decide +kernel
theorem dX0_isFirstWithItsShield_21 : decode cX0_isFirstWithItsShield 21 = .ok (.ireturn, 1) := by decide +kernel
theorem dX0_isFirstWithItsShield_22 : decode cX0_isFirstWithItsShield 22 = .ok (.iinc 2 1, 3) := by decide +kernel
theorem dX0_isFirstWithItsShield_25 : decode cX0_isFirstWithItsShield 25 = .ok (.goto (-23), 3) := by decide +kernel
theorem dX0_isFirstWithItsShield_28 : decode cX0_isFirstWithItsShield 28 = .ok (.iconst 1, 1) := by decide +kernel
theorem dX0_isFirstWithItsShield_29 : decode cX0_isFirstWithItsShield 29 = .ok (.ireturn, 1) := by decide +kernel
theorem dX0_farFromFather_0 : decode cX0_farFromFather 0 = .ok (.iconst 0, 1) := by decide +kernel
theorem dX0_farFromFather_1 : decode cX0_farFromFather 1 = .ok (.istore_n 1, 1) := by decide +kernel
theorem dX0_farFromFather_2 : decode cX0_farFromFather 2 = .ok (.iconst 0, 1) := by decide +kernel
theorem dX0_farFromFather_3 : decode cX0_farFromFather 3 = .ok (.istore_n 2, 1) := by decide +kernel
theorem dX0_farFromFather_4 : decode cX0_farFromFather 4 = .ok (.iload_n 2, 1) := by decide +kernel
theorem dX0_farFromFather_5 : decode cX0_farFromFather 5 = .ok (.aload_n 0, 1) := by decide +kernel
theorem dX0_farFromFather_6 : decode cX0_farFromFather 6 = .ok (.invokevirtual 9, 3) := by decide +kernel
theorem dX0_farFromFather_9 : decode cX0_farFromFather 9 = .ok (.if_icmp .ge 29, 3) := by decide +kernel
theorem dX0_farFromFather_12 : decode cX0_farFromFather 12 = .ok (.aload_n 0, 1) := by decide +kernel
theorem dX0_farFromFather_13 : decode cX0_farFromFather 13 = .ok (.iload_n 2, 1) := by decide +kernel
theorem dX0_farFromFather_14 : decode cX0_farFromFather 14 = .ok (.invokevirtual 25, 3) := by decide +kernel
theorem dX0_farFromFather_17 : decode cX0_farFromFather 17 = .ok (.ifCond .eq 15, 3) := by decide +kernel
theorem dX0_farFromFather_20 : decode cX0_farFromFather 20 = .ok (.aload_n 0, 1) := by decide +kernel
theorem dX0_farFromFather_21 : decode cX0_farFromFather 21 = .ok (.iload_n 2, 1) := by decide +kernel
theorem dX0_farFromFather_22 : decode cX0_farFromFather 22 = .ok (.invokestatic 53, 3) := by decide +kernel
theorem dX0_farFromFather_25 : decode cX0_farFromFather 25 = .ok (.iconst 1, 1) := by decide +kernel
theorem dX0_farFromFather_26 : decode cX0_farFromFather 26 = .ok (.if_icmp .le 6, 3) := by decide +kernel
theorem dX0_farFromFather_29 : decode cX0_farFromFather 29 = .ok (.iinc 1 1, 3) := by decide +kernel
theorem dX0_farFromFather_32 : decode cX0_farFromFather 32 = .ok (.iinc 2 1, 3) := by decide +kernel
theorem dX0_farFromFather_35 : decode cX0_farFromFather 35 = .ok (.goto (-31), 3) := by decide +kernel
theorem dX0_farFromFather_38 : decode cX0_farFromFather 38 = .ok (.iload_n 1, 1) := by decide +kernel
theorem dX0_farFromFather_39 : decode cX0_farFromFather 39 = .ok (.ireturn, 1) := by decide +kernel
theorem dX0_livingSonless_0 : decode cX0_livingSonless 0 = .ok (.iconst 0, 1) := by decide +kernel
theorem dX0_livingSonless_1 : decode cX0_livingSonless 1 = .ok (.istore_n 1, 1) := by decide +kernel
theorem dX0_livingSonless_2 : decode cX0_livingSonless 2 = .ok (.iconst 0, 1) := by decide +kernel
theorem dX0_livingSonless_3 : decode cX0_livingSonless 3 = .ok (.istore_n 2, 1) := by decide +kernel
theorem dX0_livingSonless_4 : decode cX0_livingSonless 4 = .ok (.iload_n 2, 1) := by decide +kernel
theorem dX0_livingSonless_5 : decode cX0_livingSonless 5 = .ok (.aload_n 0, 1) := by decide +kernel
theorem dX0_livingSonless_6 : decode cX0_livingSonless 6 = .ok (.invokevirtual 9, 3) := by decide +kernel
theorem dX0_livingSonless_9 : decode cX0_livingSonless 9 = .ok (.if_icmp .ge 28, 3) := by decide +kernel
theorem dX0_livingSonless_12 : decode cX0_livingSonless 12 = .ok (.aload_n 0, 1) := by decide +kernel
theorem dX0_livingSonless_13 : decode cX0_livingSonless 13 = .ok (.iload_n 2, 1) := by decide +kernel
theorem dX0_livingSonless_14 : decode cX0_livingSonless 14 = .ok (.invokevirtual 25, 3) := by decide +kernel
theorem dX0_livingSonless_17 : decode cX0_livingSonless 17 = .ok (.ifCond .eq 14, 3) := by decide +kernel
theorem dX0_livingSonless_20 : decode cX0_livingSonless 20 = .ok (.aload_n 0, 1) := by decide +kernel
theorem dX0_livingSonless_21 : decode cX0_livingSonless 21 = .ok (.iload_n 2, 1) := by decide +kernel
theorem dX0_livingSonless_22 : decode cX0_livingSonless 22 = .ok (.invokevirtual 56, 3) := by decide +kernel
theorem dX0_livingSonless_25 : decode cX0_livingSonless 25 = .ok (.ifCond .ne 6, 3) := by decide +kernel
theorem dX0_livingSonless_28 : decode cX0_livingSonless 28 = .ok (.iinc 1 1, 3) := by decide +kernel
theorem dX0_livingSonless_31 : decode cX0_livingSonless 31 = .ok (.iinc 2 1, 3) := by decide +kernel
theorem dX0_livingSonless_34 : decode cX0_livingSonless 34 = .ok (.goto (-30), 3) := by decide +kernel
theorem dX0_livingSonless_37 : decode cX0_livingSonless 37 = .ok (.iload_n 1, 1) := by decide +kernel
theorem dX0_livingSonless_38 : decode cX0_livingSonless 38 = .ok (.ireturn, 1) := by decide +kernel
theorem dX0_livingWithMark_0 : decode cX0_livingWithMark 0 = .ok (.iconst 0, 1) := by decide +kernel
theorem dX0_livingWithMark_1 : decode cX0_livingWithMark 1 = .ok (.istore_n 3, 1) := by decide +kernel
theorem dX0_livingWithMark_2 : decode cX0_livingWithMark 2 = .ok (.iconst 0, 1) := by decide +kernel
theorem dX0_livingWithMark_3 : decode cX0_livingWithMark 3 = .ok (.istore 4, 2) := by decide +kernel
theorem dX0_livingWithMark_5 : decode cX0_livingWithMark 5 = .ok (.iload 4, 2) := by decide +kernel
theorem dX0_livingWithMark_7 : decode cX0_livingWithMark 7 = .ok (.aload_n 0, 1) := by decide +kernel
theorem dX0_livingWithMark_8 : decode cX0_livingWithMark 8 = .ok (.invokevirtual 9, 3) := by decide +kernel
theorem dX0_livingWithMark_11 : decode cX0_livingWithMark 11 = .ok (.if_icmp .ge 35, 3) := by decide +kernel
theorem dX0_livingWithMark_14 : decode cX0_livingWithMark 14 = .ok (.aload_n 0, 1) := by decide +kernel
theorem dX0_livingWithMark_15 : decode cX0_livingWithMark 15 = .ok (.iload 4, 2) := by decide +kernel
theorem dX0_livingWithMark_17 : decode cX0_livingWithMark 17 = .ok (.invokevirtual 25, 3) := by decide +kernel
theorem dX0_livingWithMark_20 : decode cX0_livingWithMark 20 = .ok (.ifCond .eq 20, 3) := by decide +kernel
theorem dX0_livingWithMark_23 : decode cX0_livingWithMark 23 = .ok (.aload_n 0, 1) := by decide +kernel
theorem dX0_livingWithMark_24 : decode cX0_livingWithMark 24 = .ok (.iload 4, 2) := by decide +kernel
theorem dX0_livingWithMark_26 : decode cX0_livingWithMark 26 = .ok (.invokevirtual 29, 3) := by decide +kernel
theorem dX0_livingWithMark_29 : decode cX0_livingWithMark 29 = .ok (.iload_n 1, 1) := by decide +kernel
theorem dX0_livingWithMark_30 : decode cX0_livingWithMark 30 = .ok (.invokestatic 59, 3) := by decide +kernel
theorem dX0_livingWithMark_33 : decode cX0_livingWithMark 33 = .ok (.iload_n 2, 1) := by decide +kernel
theorem dX0_livingWithMark_34 : decode cX0_livingWithMark 34 = .ok (.if_icmp .ne 6, 3) := by decide +kernel
theorem dX0_livingWithMark_37 : decode cX0_livingWithMark 37 = .ok (.iinc 3 1, 3) := by decide +kernel
theorem dX0_livingWithMark_40 : decode cX0_livingWithMark 40 = .ok (.iinc 4 1, 3) := by decide +kernel
theorem dX0_livingWithMark_43 : decode cX0_livingWithMark 43 = .ok (.goto (-38), 3) := by decide +kernel
theorem dX0_livingWithMark_46 : decode cX0_livingWithMark 46 = .ok (.iload_n 3, 1) := by decide +kernel
theorem dX0_livingWithMark_47 : decode cX0_livingWithMark 47 = .ok (.ireturn, 1) := by decide +kernel
theorem dX0_meanApart_0 : decode cX0_meanApart 0 = .ok (.iconst 0, 1) := by decide +kernel
theorem dX0_meanApart_1 : decode cX0_meanApart 1 = .ok (.istore_n 1, 1) := by decide +kernel
theorem dX0_meanApart_2 : decode cX0_meanApart 2 = .ok (.iconst 0, 1) := by decide +kernel
theorem dX0_meanApart_3 : decode cX0_meanApart 3 = .ok (.istore_n 2, 1) := by decide +kernel
theorem dX0_meanApart_4 : decode cX0_meanApart 4 = .ok (.iconst 0, 1) := by decide +kernel
theorem dX0_meanApart_5 : decode cX0_meanApart 5 = .ok (.istore_n 3, 1) := by decide +kernel
theorem dX0_meanApart_6 : decode cX0_meanApart 6 = .ok (.iload_n 3, 1) := by decide +kernel
theorem dX0_meanApart_7 : decode cX0_meanApart 7 = .ok (.aload_n 0, 1) := by decide +kernel
theorem dX0_meanApart_8 : decode cX0_meanApart 8 = .ok (.invokevirtual 9, 3) := by decide +kernel
theorem dX0_meanApart_11 : decode cX0_meanApart 11 = .ok (.if_icmp .ge 66, 3) := by decide +kernel
theorem dX0_meanApart_14 : decode cX0_meanApart 14 = .ok (.iload_n 3, 1) := by decide +kernel
theorem dX0_meanApart_15 : decode cX0_meanApart 15 = .ok (.iconst 1, 1) := by decide +kernel
theorem dX0_meanApart_16 : decode cX0_meanApart 16 = .ok (.iadd, 1) := by decide +kernel
theorem dX0_meanApart_17 : decode cX0_meanApart 17 = .ok (.istore 4, 2) := by decide +kernel
theorem dX0_meanApart_19 : decode cX0_meanApart 19 = .ok (.iload 4, 2) := by decide +kernel
theorem dX0_meanApart_21 : decode cX0_meanApart 21 = .ok (.aload_n 0, 1) := by decide +kernel
theorem dX0_meanApart_22 : decode cX0_meanApart 22 = .ok (.invokevirtual 9, 3) := by decide +kernel
theorem dX0_meanApart_25 : decode cX0_meanApart 25 = .ok (.if_icmp .ge 46, 3) := by decide +kernel
theorem dX0_meanApart_28 : decode cX0_meanApart 28 = .ok (.aload_n 0, 1) := by decide +kernel
theorem dX0_meanApart_29 : decode cX0_meanApart 29 = .ok (.iload_n 3, 1) := by decide +kernel
theorem dX0_meanApart_30 : decode cX0_meanApart 30 = .ok (.invokevirtual 25, 3) := by decide +kernel
theorem dX0_meanApart_33 : decode cX0_meanApart 33 = .ok (.ifCond .eq 32, 3) := by decide +kernel
theorem dX0_meanApart_36 : decode cX0_meanApart 36 = .ok (.aload_n 0, 1) := by decide +kernel
theorem dX0_meanApart_37 : decode cX0_meanApart 37 = .ok (.iload 4, 2) := by decide +kernel
theorem dX0_meanApart_39 : decode cX0_meanApart 39 = .ok (.invokevirtual 25, 3) := by decide +kernel
theorem dX0_meanApart_42 : decode cX0_meanApart 42 = .ok (.ifCond .eq 23, 3) := by decide +kernel
theorem dX0_meanApart_45 : decode cX0_meanApart 45 = .ok (.iload_n 1, 1) := by decide +kernel
theorem dX0_meanApart_46 : decode cX0_meanApart 46 = .ok (.aload_n 0, 1) := by decide +kernel
theorem dX0_meanApart_47 : decode cX0_meanApart 47 = .ok (.iload_n 3, 1) := by decide +kernel
theorem dX0_meanApart_48 : decode cX0_meanApart 48 = .ok (.invokevirtual 29, 3) := by decide +kernel
theorem dX0_meanApart_51 : decode cX0_meanApart 51 = .ok (.aload_n 0, 1) := by decide +kernel
theorem dX0_meanApart_52 : decode cX0_meanApart 52 = .ok (.iload 4, 2) := by decide +kernel
theorem dX0_meanApart_54 : decode cX0_meanApart 54 = .ok (.invokevirtual 29, 3) := by decide +kernel
theorem dX0_meanApart_57 : decode cX0_meanApart 57 = .ok (.invokestatic 32, 3) := by decide +kernel
theorem dX0_meanApart_60 : decode cX0_meanApart 60 = .ok (.iadd, 1) := by decide +kernel
theorem dX0_meanApart_61 : decode cX0_meanApart 61 = .ok (.istore_n 1, 1) := by decide +kernel
theorem dX0_meanApart_62 : decode cX0_meanApart 62 = .ok (.iinc 2 1, 3) := by decide +kernel
theorem dX0_meanApart_65 : decode cX0_meanApart 65 = .ok (.iinc 4 1, 3) := by decide +kernel
theorem dX0_meanApart_68 : decode cX0_meanApart 68 = .ok (.goto (-49), 3) := by decide +kernel
theorem dX0_meanApart_71 : decode cX0_meanApart 71 = .ok (.iinc 3 1, 3) := by decide +kernel
theorem dX0_meanApart_74 : decode cX0_meanApart 74 = .ok (.goto (-68), 3) := by decide +kernel
theorem dX0_meanApart_77 : decode cX0_meanApart 77 = .ok (.iload_n 2, 1) := by decide +kernel
theorem dX0_meanApart_78 : decode cX0_meanApart 78 = .ok (.ifCond .ne 7, 3) := by decide +kernel
theorem dX0_meanApart_81 : decode cX0_meanApart 81 = .ok (.dconst 0, 1) := by decide +kernel
theorem dX0_meanApart_82 : decode cX0_meanApart 82 = .ok (.goto 8, 3) := by decide +kernel
theorem dX0_meanApart_85 : decode cX0_meanApart 85 = .ok (.iload_n 1, 1) := by decide +kernel
theorem dX0_meanApart_86 : decode cX0_meanApart 86 = .ok (.i2d, 1) := by decide +kernel
theorem dX0_meanApart_87 : decode cX0_meanApart 87 = .ok (.iload_n 2, 1) := by decide +kernel
theorem dX0_meanApart_88 : decode cX0_meanApart 88 = .ok (.i2d, 1) := by decide +kernel
theorem dX0_meanApart_89 : decode cX0_meanApart 89 = .ok (.ddiv, 1) := by decide +kernel
theorem dX0_meanApart_90 : decode cX0_meanApart 90 = .ok (.dreturn, 1) := by decide +kernel
theorem dX1_leftByTrying_0 : decode cX1_leftByTrying 0 = .ok (.iconst 0, 1) := by decide +kernel
theorem dX1_leftByTrying_1 : decode cX1_leftByTrying 1 = .ok (.istore_n 2, 1) := by decide +kernel
theorem dX1_leftByTrying_2 : decode cX1_leftByTrying 2 = .ok (.iconst 0, 1) := by decide +kernel
theorem dX1_leftByTrying_3 : decode cX1_leftByTrying 3 = .ok (.istore_n 3, 1) := by decide +kernel
theorem dX1_leftByTrying_4 : decode cX1_leftByTrying 4 = .ok (.iload_n 3, 1) := by decide +kernel
theorem dX1_leftByTrying_5 : decode cX1_leftByTrying 5 = .ok (.bipush 6, 2) := by decide +kernel
theorem dX1_leftByTrying_7 : decode cX1_leftByTrying 7 = .ok (.if_icmp .ge 38, 3) := by decide +kernel
theorem dX1_leftByTrying_10 : decode cX1_leftByTrying 10 = .ok (.iconst 0, 1) := by decide +kernel
theorem dX1_leftByTrying_11 : decode cX1_leftByTrying 11 = .ok (.istore 4, 2) := by decide +kernel
theorem dX1_leftByTrying_13 : decode cX1_leftByTrying 13 = .ok (.iload 4, 2) := by decide +kernel
theorem dX1_leftByTrying_15 : decode cX1_leftByTrying 15 = .ok (.iconst 5, 1) := by decide +kernel
theorem dX1_leftByTrying_16 : decode cX1_leftByTrying 16 = .ok (.if_icmp .ge 23, 3) := by decide +kernel
theorem dX1_leftByTrying_19 : decode cX1_leftByTrying 19 = .ok (.aload_n 0, 1) := by decide +kernel
theorem dX1_leftByTrying_20 : decode cX1_leftByTrying 20 = .ok (.iload_n 1, 1) := by decide +kernel
theorem dX1_leftByTrying_21 : decode cX1_leftByTrying 21 = .ok (.iload_n 3, 1) := by decide +kernel
theorem dX1_leftByTrying_22 : decode cX1_leftByTrying 22 = .ok (.iload 4, 2) := by decide +kernel
theorem dX1_leftByTrying_24 : decode cX1_leftByTrying 24 = .ok (.invokevirtual 9, 3) := by decide +kernel
theorem dX1_leftByTrying_27 : decode cX1_leftByTrying 27 = .ok (.ifCond .ne 6, 3) := by decide +kernel
theorem dX1_leftByTrying_30 : decode cX1_leftByTrying 30 = .ok (.iinc 2 1, 3) := by decide +kernel
theorem dX1_leftByTrying_33 : decode cX1_leftByTrying 33 = .ok (.iinc 4 1, 3) := by decide +kernel
theorem dX1_leftByTrying_36 : decode cX1_leftByTrying 36 = .ok (.goto (-23), 3) := by decide +kernel
theorem dX1_leftByTrying_39 : decode cX1_leftByTrying 39 = .ok (.iinc 3 1, 3) := by decide +kernel
theorem dX1_leftByTrying_42 : decode cX1_leftByTrying 42 = .ok (.goto (-38), 3) := by decide +kernel
theorem dX1_leftByTrying_45 : decode cX1_leftByTrying 45 = .ok (.iload_n 2, 1) := by decide +kernel
theorem dX1_leftByTrying_46 : decode cX1_leftByTrying 46 = .ok (.ireturn, 1) := by decide +kernel
theorem dX1_leftByPlaces_0 : decode cX1_leftByPlaces 0 = .ok (.aload_n 0, 1) := by decide +kernel
theorem dX1_leftByPlaces_1 : decode cX1_leftByPlaces 1 = .ok (.iload_n 1, 1) := by decide +kernel
theorem dX1_leftByPlaces_2 : decode cX1_leftByPlaces 2 = .ok (.invokevirtual 15, 3) := by decide +kernel
theorem dX1_leftByPlaces_5 : decode cX1_leftByPlaces 5 = .ok (.ifCond .eq 12, 3) := by decide +kernel
theorem dX1_leftByPlaces_8 : decode cX1_leftByPlaces 8 = .ok (.aload_n 0, 1) := by decide +kernel
theorem dX1_leftByPlaces_9 : decode cX1_leftByPlaces 9 = .ok (.iload_n 1, 1) := by decide +kernel
theorem dX1_leftByPlaces_10 : decode cX1_leftByPlaces 10 = .ok (.invokevirtual 19, 3) := by decide +kernel
theorem dX1_leftByPlaces_13 : decode cX1_leftByPlaces 13 = .ok (.iconst 4, 1) := by decide +kernel
theorem dX1_leftByPlaces_14 : decode cX1_leftByPlaces 14 = .ok (.if_icmp .lt 5, 3) := by decide +kernel
theorem dX1_leftByPlaces_17 : decode cX1_leftByPlaces 17 = .ok (.iconst 0, 1) := by decide +kernel
theorem dX1_leftByPlaces_18 : decode cX1_leftByPlaces 18 = .ok (.ireturn, 1) := by decide +kernel
theorem dX1_leftByPlaces_19 : decode cX1_leftByPlaces 19 = .ok (.iconst 0, 1) := by decide +kernel
theorem dX1_leftByPlaces_20 : decode cX1_leftByPlaces 20 = .ok (.istore_n 2, 1) := by decide +kernel
theorem dX1_leftByPlaces_21 : decode cX1_leftByPlaces 21 = .ok (.iconst 0, 1) := by decide +kernel
theorem dX1_leftByPlaces_22 : decode cX1_leftByPlaces 22 = .ok (.istore_n 3, 1) := by decide +kernel
theorem dX1_leftByPlaces_23 : decode cX1_leftByPlaces 23 = .ok (.iload_n 3, 1) := by decide +kernel
theorem dX1_leftByPlaces_24 : decode cX1_leftByPlaces 24 = .ok (.bipush 6, 2) := by decide +kernel
theorem dX1_leftByPlaces_26 : decode cX1_leftByPlaces 26 = .ok (.if_icmp .ge 29, 3) := by decide +kernel
theorem dX1_leftByPlaces_29 : decode cX1_leftByPlaces 29 = .ok (.aload_n 0, 1) := by decide +kernel
theorem dX1_leftByPlaces_30 : decode cX1_leftByPlaces 30 = .ok (.iload_n 1, 1) := by decide +kernel
theorem dX1_leftByPlaces_31 : decode cX1_leftByPlaces 31 = .ok (.iload_n 3, 1) := by decide +kernel
theorem dX1_leftByPlaces_32 : decode cX1_leftByPlaces 32 = .ok (.invokevirtual 23, 3) := by decide +kernel
theorem dX1_leftByPlaces_35 : decode cX1_leftByPlaces 35 = .ok (.ifCond .ne 14, 3) := by decide +kernel
theorem dX1_leftByPlaces_38 : decode cX1_leftByPlaces 38 = .ok (.iload_n 2, 1) := by decide +kernel
theorem dX1_leftByPlaces_39 : decode cX1_leftByPlaces 39 = .ok (.iconst 4, 1) := by decide +kernel
theorem dX1_leftByPlaces_40 : decode cX1_leftByPlaces 40 = .ok (.aload_n 0, 1) := by decide +kernel
theorem dX1_leftByPlaces_41 : decode cX1_leftByPlaces 41 = .ok (.iload_n 1, 1) := by decide +kernel
theorem dX1_leftByPlaces_42 : decode cX1_leftByPlaces 42 = .ok (.iload_n 3, 1) := by decide +kernel
theorem dX1_leftByPlaces_43 : decode cX1_leftByPlaces 43 = .ok (.invokestatic 27, 3) := by decide +kernel
theorem dX1_leftByPlaces_46 : decode cX1_leftByPlaces 46 = .ok (.isub, 1) := by decide +kernel
theorem dX1_leftByPlaces_47 : decode cX1_leftByPlaces 47 = .ok (.iadd, 1) := by decide +kernel
theorem dX1_leftByPlaces_48 : decode cX1_leftByPlaces 48 = .ok (.istore_n 2, 1) := by decide +kernel
theorem dX1_leftByPlaces_49 : decode cX1_leftByPlaces 49 = .ok (.iinc 3 1, 3) := by decide +kernel
theorem dX1_leftByPlaces_52 : decode cX1_leftByPlaces 52 = .ok (.goto (-29), 3) := by decide +kernel
theorem dX1_leftByPlaces_55 : decode cX1_leftByPlaces 55 = .ok (.iload_n 2, 1) := by decide +kernel
theorem dX1_leftByPlaces_56 : decode cX1_leftByPlaces 56 = .ok (.ireturn, 1) := by decide +kernel
theorem dX1_livingApartAt_0 : decode cX1_livingApartAt 0 = .ok (.aload_n 0, 1) := by decide +kernel
theorem dX1_livingApartAt_1 : decode cX1_livingApartAt 1 = .ok (.iload_n 1, 1) := by decide +kernel
theorem dX1_livingApartAt_2 : decode cX1_livingApartAt 2 = .ok (.invokevirtual 33, 3) := by decide +kernel
theorem dX1_livingApartAt_5 : decode cX1_livingApartAt 5 = .ok (.istore_n 3, 1) := by decide +kernel
theorem dX1_livingApartAt_6 : decode cX1_livingApartAt 6 = .ok (.iload_n 3, 1) := by decide +kernel
theorem dX1_livingApartAt_7 : decode cX1_livingApartAt 7 = .ok (.iload_n 2, 1) := by decide +kernel
theorem dX1_livingApartAt_8 : decode cX1_livingApartAt 8 = .ok (.invokestatic 36, 3) := by decide +kernel
theorem dX1_livingApartAt_11 : decode cX1_livingApartAt 11 = .ok (.istore 4, 2) := by decide +kernel
theorem dX1_livingApartAt_13 : decode cX1_livingApartAt 13 = .ok (.iconst 0, 1) := by decide +kernel
theorem dX1_livingApartAt_14 : decode cX1_livingApartAt 14 = .ok (.istore 5, 2) := by decide +kernel
theorem dX1_livingApartAt_16 : decode cX1_livingApartAt 16 = .ok (.iconst 0, 1) := by decide +kernel
theorem dX1_livingApartAt_17 : decode cX1_livingApartAt 17 = .ok (.istore 6, 2) := by decide +kernel
theorem dX1_livingApartAt_19 : decode cX1_livingApartAt 19 = .ok (.iload 6, 2) := by decide +kernel
theorem dX1_livingApartAt_21 : decode cX1_livingApartAt 21 = .ok (.aload_n 0, 1) := by decide +kernel
theorem dX1_livingApartAt_22 : decode cX1_livingApartAt 22 = .ok (.invokevirtual 42, 3) := by decide +kernel
theorem dX1_livingApartAt_25 : decode cX1_livingApartAt 25 = .ok (.if_icmp .ge 50, 3) := by decide +kernel
theorem dX1_livingApartAt_28 : decode cX1_livingApartAt 28 = .ok (.aload_n 0, 1) := by decide +kernel
theorem dX1_livingApartAt_29 : decode cX1_livingApartAt 29 = .ok (.iload 6, 2) := by decide +kernel
theorem dX1_livingApartAt_31 : decode cX1_livingApartAt 31 = .ok (.invokevirtual 33, 3) := by decide +kernel
theorem dX1_livingApartAt_34 : decode cX1_livingApartAt 34 = .ok (.istore 7, 2) := by decide +kernel
theorem dX1_livingApartAt_36 : decode cX1_livingApartAt 36 = .ok (.aload_n 0, 1) := by decide +kernel
theorem dX1_livingApartAt_37 : decode cX1_livingApartAt 37 = .ok (.iload 6, 2) := by decide +kernel
theorem dX1_livingApartAt_39 : decode cX1_livingApartAt 39 = .ok (.invokevirtual 15, 3) := by decide +kernel
theorem dX1_livingApartAt_42 : decode cX1_livingApartAt 42 = .ok (.ifCond .eq 27, 3) := by decide +kernel
theorem dX1_livingApartAt_45 : decode cX1_livingApartAt 45 = .ok (.iload_n 3, 1) := by decide +kernel
theorem dX1_livingApartAt_46 : decode cX1_livingApartAt 46 = .ok (.iload 7, 2) := by decide +kernel
theorem dX1_livingApartAt_48 : decode cX1_livingApartAt 48 = .ok (.invokestatic 46, 3) := by decide +kernel
theorem dX1_livingApartAt_51 : decode cX1_livingApartAt 51 = .ok (.iconst 1, 1) := by decide +kernel
theorem dX1_livingApartAt_52 : decode cX1_livingApartAt 52 = .ok (.if_icmp .ne 17, 3) := by decide +kernel
theorem dX1_livingApartAt_55 : decode cX1_livingApartAt 55 = .ok (.iload 7, 2) := by decide +kernel
theorem dX1_livingApartAt_57 : decode cX1_livingApartAt 57 = .ok (.iload_n 2, 1) := by decide +kernel
theorem dX1_livingApartAt_58 : decode cX1_livingApartAt 58 = .ok (.invokestatic 36, 3) := by decide +kernel
theorem dX1_livingApartAt_61 : decode cX1_livingApartAt 61 = .ok (.iload 4, 2) := by decide +kernel
theorem dX1_livingApartAt_63 : decode cX1_livingApartAt 63 = .ok (.if_icmp .eq 6, 3) := by decide +kernel
theorem dX1_livingApartAt_66 : decode cX1_livingApartAt 66 = .ok (.iinc 5 1, 3) := by decide +kernel
theorem dX1_livingApartAt_69 : decode cX1_livingApartAt 69 = .ok (.iinc 6 1, 3) := by decide +kernel
theorem dX1_livingApartAt_72 : decode cX1_livingApartAt 72 = .ok (.goto (-53), 3) := by decide +kernel
theorem dX1_livingApartAt_75 : decode cX1_livingApartAt 75 = .ok (.iload 5, 2) := by decide +kernel
theorem dX1_livingApartAt_77 : decode cX1_livingApartAt 77 = .ok (.ireturn, 1) := by decide +kernel
theorem dX1_leftToAll_0 : decode cX1_leftToAll 0 = .ok (.iconst 0, 1) := by decide +kernel
theorem dX1_leftToAll_1 : decode cX1_leftToAll 1 = .ok (.istore_n 1, 1) := by decide +kernel
theorem dX1_leftToAll_2 : decode cX1_leftToAll 2 = .ok (.iconst 0, 1) := by decide +kernel
theorem dX1_leftToAll_3 : decode cX1_leftToAll 3 = .ok (.istore_n 2, 1) := by decide +kernel
theorem dX1_leftToAll_4 : decode cX1_leftToAll 4 = .ok (.iload_n 2, 1) := by decide +kernel
theorem dX1_leftToAll_5 : decode cX1_leftToAll 5 = .ok (.aload_n 0, 1) := by decide +kernel
theorem dX1_leftToAll_6 : decode cX1_leftToAll 6 = .ok (.invokevirtual 42, 3) := by decide +kernel
theorem dX1_leftToAll_9 : decode cX1_leftToAll 9 = .ok (.if_icmp .ge 17, 3) := by decide +kernel
theorem dX1_leftToAll_12 : decode cX1_leftToAll 12 = .ok (.iload_n 1, 1) := by decide +kernel
theorem dX1_leftToAll_13 : decode cX1_leftToAll 13 = .ok (.aload_n 0, 1) := by decide +kernel
theorem dX1_leftToAll_14 : decode cX1_leftToAll 14 = .ok (.iload_n 2, 1) := by decide +kernel
theorem dX1_leftToAll_15 : decode cX1_leftToAll 15 = .ok (.invokestatic 49, 3) := by decide +kernel
theorem dX1_leftToAll_18 : decode cX1_leftToAll 18 = .ok (.iadd, 1) := by decide +kernel
theorem dX1_leftToAll_19 : decode cX1_leftToAll 19 = .ok (.istore_n 1, 1) := by decide +kernel
theorem dX1_leftToAll_20 : decode cX1_leftToAll 20 = .ok (.iinc 2 1, 3) := by decide +kernel
theorem dX1_leftToAll_23 : decode cX1_leftToAll 23 = .ok (.goto (-19), 3) := by decide +kernel
theorem dX1_leftToAll_26 : decode cX1_leftToAll 26 = .ok (.iload_n 1, 1) := by decide +kernel
theorem dX1_leftToAll_27 : decode cX1_leftToAll 27 = .ok (.ireturn, 1) := by decide +kernel
theorem dX1_farthest_0 : decode cX1_farthest 0 = .ok (.bipush (-4), 2) := by decide +kernel
theorem dX1_farthest_2 : decode cX1_farthest 2 = .ok (.istore_n 2, 1) := by decide +kernel
theorem dX1_farthest_3 : decode cX1_farthest 3 = .ok (.iconst (-1), 1) := by decide +kernel
theorem dX1_farthest_4 : decode cX1_farthest 4 = .ok (.istore_n 3, 1) := by decide +kernel
theorem dX1_farthest_5 : decode cX1_farthest 5 = .ok (.iconst 0, 1) := by decide +kernel
theorem dX1_farthest_6 : decode cX1_farthest 6 = .ok (.istore 4, 2) := by decide +kernel
theorem dX1_farthest_8 : decode cX1_farthest 8 = .ok (.iload 4, 2) := by decide +kernel
theorem dX1_farthest_10 : decode cX1_farthest 10 = .ok (.bipush 30, 2) := by decide +kernel
theorem dX1_farthest_12 : decode cX1_farthest 12 = .ok (.if_icmp .ge 67, 3) := by decide +kernel
theorem dX1_farthest_15 : decode cX1_farthest 15 = .ok (.iload 4, 2) := by decide +kernel
theorem dX1_farthest_17 : decode cX1_farthest 17 = .ok (.iconst 5, 1) := by decide +kernel
theorem dX1_farthest_18 : decode cX1_farthest 18 = .ok (.idiv, 1) := by decide +kernel
theorem dX1_farthest_19 : decode cX1_farthest 19 = .ok (.istore 5, 2) := by decide +kernel
theorem dX1_farthest_21 : decode cX1_farthest 21 = .ok (.iload 4, 2) := by decide +kernel
theorem dX1_farthest_23 : decode cX1_farthest 23 = .ok (.iconst 5, 1) := by decide +kernel
theorem dX1_farthest_24 : decode cX1_farthest 24 = .ok (.irem, 1) := by decide +kernel
theorem dX1_farthest_25 : decode cX1_farthest 25 = .ok (.istore 6, 2) := by decide +kernel
theorem dX1_farthest_27 : decode cX1_farthest 27 = .ok (.aload_n 0, 1) := by decide +kernel
theorem dX1_farthest_28 : decode cX1_farthest 28 = .ok (.iload_n 1, 1) := by decide +kernel
theorem dX1_farthest_29 : decode cX1_farthest 29 = .ok (.iload 5, 2) := by decide +kernel
theorem dX1_farthest_31 : decode cX1_farthest 31 = .ok (.iload 6, 2) := by decide +kernel
theorem dX1_farthest_33 : decode cX1_farthest 33 = .ok (.invokevirtual 9, 3) := by decide +kernel
theorem dX1_farthest_36 : decode cX1_farthest 36 = .ok (.ifCond .eq 6, 3) := by decide +kernel
theorem dX1_farthest_39 : decode cX1_farthest 39 = .ok (.goto 34, 3) := by decide +kernel
theorem dX1_farthest_42 : decode cX1_farthest 42 = .ok (.aload_n 0, 1) := by decide +kernel
theorem dX1_farthest_43 : decode cX1_farthest 43 = .ok (.aload_n 0, 1) := by decide +kernel
theorem dX1_farthest_44 : decode cX1_farthest 44 = .ok (.iload_n 1, 1) := by decide +kernel
theorem dX1_farthest_45 : decode cX1_farthest 45 = .ok (.invokevirtual 33, 3) := by decide +kernel
theorem dX1_farthest_48 : decode cX1_farthest 48 = .ok (.iload 5, 2) := by decide +kernel
theorem dX1_farthest_50 : decode cX1_farthest 50 = .ok (.iload 6, 2) := by decide +kernel
theorem dX1_farthest_52 : decode cX1_farthest 52 = .ok (.invokestatic 53, 3) := by decide +kernel
theorem dX1_farthest_55 : decode cX1_farthest 55 = .ok (.iload_n 1, 1) := by decide +kernel
theorem dX1_farthest_56 : decode cX1_farthest 56 = .ok (.invokestatic 56, 3) := by decide +kernel
theorem dX1_farthest_59 : decode cX1_farthest 59 = .ok (.istore 7, 2) := by decide +kernel
theorem dX1_farthest_61 : decode cX1_farthest 61 = .ok (.iload 7, 2) := by decide +kernel
theorem dX1_farthest_63 : decode cX1_farthest 63 = .ok (.iload_n 3, 1) := by decide +kernel
theorem dX1_farthest_64 : decode cX1_farthest 64 = .ok (.if_icmp .le 9, 3) := by decide +kernel
theorem dX1_farthest_67 : decode cX1_farthest 67 = .ok (.iload 4, 2) := by decide +kernel
theorem dX1_farthest_69 : decode cX1_farthest 69 = .ok (.istore_n 2, 1) := by decide +kernel
theorem dX1_farthest_70 : decode cX1_farthest 70 = .ok (.iload 7, 2) := by decide +kernel
theorem dX1_farthest_72 : decode cX1_farthest 72 = .ok (.istore_n 3, 1) := by decide +kernel
theorem dX1_farthest_73 : decode cX1_farthest 73 = .ok (.iinc 4 1, 3) := by decide +kernel
theorem dX1_farthest_76 : decode cX1_farthest 76 = .ok (.goto (-68), 3) := by decide +kernel
theorem dX1_farthest_79 : decode cX1_farthest 79 = .ok (.iload_n 2, 1) := by decide +kernel
theorem dX1_farthest_80 : decode cX1_farthest 80 = .ok (.ireturn, 1) := by decide +kernel
theorem dX1_leastApart_0 : decode cX1_leastApart 0 = .ok (.bipush 6, 2) := by decide +kernel
theorem dX1_leastApart_2 : decode cX1_leastApart 2 = .ok (.istore_n 3, 1) := by decide +kernel
theorem dX1_leastApart_3 : decode cX1_leastApart 3 = .ok (.iconst 0, 1) := by decide +kernel
theorem dX1_leastApart_4 : decode cX1_leastApart 4 = .ok (.istore 4, 2) := by decide +kernel
theorem dX1_leastApart_6 : decode cX1_leastApart 6 = .ok (.iload 4, 2) := by decide +kernel
theorem dX1_leastApart_8 : decode cX1_leastApart 8 = .ok (.aload_n 0, 1) := by decide +kernel
theorem dX1_leastApart_9 : decode cX1_leastApart 9 = .ok (.invokevirtual 42, 3) := by decide +kernel
theorem dX1_leastApart_12 : decode cX1_leastApart 12 = .ok (.if_icmp .ge 39, 3) := by decide +kernel
theorem dX1_leastApart_15 : decode cX1_leastApart 15 = .ok (.aload_n 0, 1) := by decide +kernel
theorem dX1_leastApart_16 : decode cX1_leastApart 16 = .ok (.iload 4, 2) := by decide +kernel
theorem dX1_leastApart_18 : decode cX1_leastApart 18 = .ok (.invokevirtual 15, 3) := by decide +kernel
theorem dX1_leastApart_21 : decode cX1_leastApart 21 = .ok (.ifCond .eq 24, 3) := by decide +kernel
theorem dX1_leastApart_24 : decode cX1_leastApart 24 = .ok (.iload 4, 2) := by decide +kernel
theorem dX1_leastApart_26 : decode cX1_leastApart 26 = .ok (.iload_n 2, 1) := by decide +kernel
theorem dX1_leastApart_27 : decode cX1_leastApart 27 = .ok (.if_icmp .eq 18, 3) := by decide +kernel
theorem dX1_leastApart_30 : decode cX1_leastApart 30 = .ok (.iload_n 3, 1) := by decide +kernel
theorem dX1_leastApart_31 : decode cX1_leastApart 31 = .ok (.iload_n 1, 1) := by decide +kernel
theorem dX1_leastApart_32 : decode cX1_leastApart 32 = .ok (.aload_n 0, 1) := by decide +kernel
theorem dX1_leastApart_33 : decode cX1_leastApart 33 = .ok (.iload 4, 2) := by decide +kernel
theorem dX1_leastApart_35 : decode cX1_leastApart 35 = .ok (.invokevirtual 33, 3) := by decide +kernel
theorem dX1_leastApart_38 : decode cX1_leastApart 38 = .ok (.invokestatic 46, 3) := by decide +kernel
theorem dX1_leastApart_41 : decode cX1_leastApart 41 = .ok (.invokestatic 59, 3) := by decide +kernel
theorem dX1_leastApart_44 : decode cX1_leastApart 44 = .ok (.istore_n 3, 1) := by decide +kernel
theorem dX1_leastApart_45 : decode cX1_leastApart 45 = .ok (.iinc 4 1, 3) := by decide +kernel
theorem dX1_leastApart_48 : decode cX1_leastApart 48 = .ok (.goto (-42), 3) := by decide +kernel
theorem dX1_leastApart_51 : decode cX1_leastApart 51 = .ok (.iload_n 3, 1) := by decide +kernel
theorem dX1_leastApart_52 : decode cX1_leastApart 52 = .ok (.ireturn, 1) := by decide +kernel
theorem dX2_init_0 : decode cX2_init 0 = .ok (.aload_n 0, 1) := by decide +kernel
theorem dX2_init_1 : decode cX2_init 1 = .ok (.invokespecial 3, 3) := by decide +kernel
theorem dX2_init_4 : decode cX2_init 4 = .ok (.aload_n 0, 1) := by decide +kernel
theorem dX2_init_5 : decode cX2_init 5 = .ok (.iconst 5, 1) := by decide +kernel
theorem dX2_init_6 : decode cX2_init 6 = .ok (.anewarray 9, 3) := by decide +kernel
theorem dX2_init_9 : decode cX2_init 9 = .ok (.putfield 11, 3) := by decide +kernel
theorem dX2_init_12 : decode cX2_init 12 = .ok (.aload_n 0, 1) := by decide +kernel
theorem dX2_init_13 : decode cX2_init 13 = .ok (.iconst 0, 1) := by decide +kernel
theorem dX2_init_14 : decode cX2_init 14 = .ok (.putfield 17, 3) := by decide +kernel
theorem dX2_init_17 : decode cX2_init 17 = .ok (.iconst 0, 1) := by decide +kernel
theorem dX2_init_18 : decode cX2_init 18 = .ok (.istore_n 1, 1) := by decide +kernel
theorem dX2_init_19 : decode cX2_init 19 = .ok (.iload_n 1, 1) := by decide +kernel
theorem dX2_init_20 : decode cX2_init 20 = .ok (.aload_n 0, 1) := by decide +kernel
theorem dX2_init_21 : decode cX2_init 21 = .ok (.getfield 11, 3) := by decide +kernel
theorem dX2_init_24 : decode cX2_init 24 = .ok (.arraylength, 1) := by decide +kernel
theorem dX2_init_25 : decode cX2_init 25 = .ok (.if_icmp .ge 22, 3) := by decide +kernel
theorem dX2_init_28 : decode cX2_init 28 = .ok (.aload_n 0, 1) := by decide +kernel
theorem dX2_init_29 : decode cX2_init 29 = .ok (.getfield 11, 3) := by decide +kernel
theorem dX2_init_32 : decode cX2_init 32 = .ok (.iload_n 1, 1) := by decide +kernel
theorem dX2_init_33 : decode cX2_init 33 = .ok (.new 9, 3) := by decide +kernel
theorem dX2_init_36 : decode cX2_init 36 = .ok (.dup, 1) := by decide +kernel
theorem dX2_init_37 : decode cX2_init 37 = .ok (.invokespecial 21, 3) := by decide +kernel
theorem dX2_init_40 : decode cX2_init 40 = .ok (.aastore, 1) := by decide +kernel
theorem dX2_init_41 : decode cX2_init 41 = .ok (.iinc 1 1, 3) := by decide +kernel
theorem dX2_init_44 : decode cX2_init 44 = .ok (.goto (-25), 3) := by decide +kernel
theorem dX2_init_47 : decode cX2_init 47 = .ok (.return_, 1) := by decide +kernel
theorem dX2_size_0 : decode cX2_size 0 = .ok (.aload_n 0, 1) := by decide +kernel
theorem dX2_size_1 : decode cX2_size 1 = .ok (.getfield 17, 3) := by decide +kernel
theorem dX2_size_4 : decode cX2_size 4 = .ok (.ireturn, 1) := by decide +kernel
theorem dX2_stateAt_0 : decode cX2_stateAt 0 = .ok (.iload_n 1, 1) := by decide +kernel
theorem dX2_stateAt_1 : decode cX2_stateAt 1 = .ok (.ifCond .lt 21, 3) := by decide +kernel
theorem dX2_stateAt_4 : decode cX2_stateAt 4 = .ok (.iload_n 1, 1) := by decide +kernel
theorem dX2_stateAt_5 : decode cX2_stateAt 5 = .ok (.aload_n 0, 1) := by decide +kernel
theorem dX2_stateAt_6 : decode cX2_stateAt 6 = .ok (.getfield 11, 3) := by decide +kernel
theorem dX2_stateAt_9 : decode cX2_stateAt 9 = .ok (.arraylength, 1) := by decide +kernel
theorem dX2_stateAt_10 : decode cX2_stateAt 10 = .ok (.if_icmp .ge 12, 3) := by decide +kernel
theorem dX2_stateAt_13 : decode cX2_stateAt 13 = .ok (.aload_n 0, 1) := by decide +kernel
theorem dX2_stateAt_14 : decode cX2_stateAt 14 = .ok (.getfield 11, 3) := by decide +kernel
theorem dX2_stateAt_17 : decode cX2_stateAt 17 = .ok (.iload_n 1, 1) := by decide +kernel
theorem dX2_stateAt_18 : decode cX2_stateAt 18 = .ok (.aaload, 1) := by decide +kernel
theorem dX2_stateAt_19 : decode cX2_stateAt 19 = .ok (.goto 4, 3) := by decide +kernel
theorem dX2_stateAt_22 : decode cX2_stateAt 22 = .ok (.aconst_null, 1) := by decide +kernel
theorem dX2_stateAt_23 : decode cX2_stateAt 23 = .ok (.areturn, 1) := by decide +kernel
theorem dX2_note_0 : decode cX2_note 0 = .ok (.aload_n 0, 1) := by decide +kernel
theorem dX2_note_1 : decode cX2_note 1 = .ok (.aload_n 0, 1) := by decide +kernel
theorem dX2_note_2 : decode cX2_note 2 = .ok (.getfield 17, 3) := by decide +kernel
theorem dX2_note_5 : decode cX2_note 5 = .ok (.invokevirtual 22, 3) := by decide +kernel
theorem dX2_note_8 : decode cX2_note 8 = .ok (.astore_n 2, 1) := by decide +kernel
theorem dX2_note_9 : decode cX2_note 9 = .ok (.aload_n 2, 1) := by decide +kernel
theorem dX2_note_10 : decode cX2_note 10 = .ok (.ifnull 8, 3) := by decide +kernel
theorem dX2_note_13 : decode cX2_note 13 = .ok (.aload_n 2, 1) := by decide +kernel
theorem dX2_note_14 : decode cX2_note 14 = .ok (.aload_n 1, 1) := by decide +kernel
theorem dX2_note_15 : decode cX2_note 15 = .ok (.invokevirtual 26, 3) := by decide +kernel
theorem dX2_note_18 : decode cX2_note 18 = .ok (.return_, 1) := by decide +kernel
theorem dX2_keepNoted_0 : decode cX2_keepNoted 0 = .ok (.aload_n 0, 1) := by decide +kernel
theorem dX2_keepNoted_1 : decode cX2_keepNoted 1 = .ok (.getfield 17, 3) := by decide +kernel
theorem dX2_keepNoted_4 : decode cX2_keepNoted 4 = .ok (.iconst 4, 1) := by decide +kernel
theorem dX2_keepNoted_5 : decode cX2_keepNoted 5 = .ok (.if_icmp .ge 14, 3) := by decide +kernel
theorem dX2_keepNoted_8 : decode cX2_keepNoted 8 = .ok (.aload_n 0, 1) := by decide +kernel
theorem dX2_keepNoted_9 : decode cX2_keepNoted 9 = .ok (.dup, 1) := by decide +kernel
theorem dX2_keepNoted_10 : decode cX2_keepNoted 10 = .ok (.getfield 17, 3) := by decide +kernel
theorem dX2_keepNoted_13 : decode cX2_keepNoted 13 = .ok (.iconst 1, 1) := by decide +kernel
theorem dX2_keepNoted_14 : decode cX2_keepNoted 14 = .ok (.iadd, 1) := by decide +kernel
theorem dX2_keepNoted_15 : decode cX2_keepNoted 15 = .ok (.putfield 17, 3) := by decide +kernel
theorem dX2_keepNoted_18 : decode cX2_keepNoted 18 = .ok (.return_, 1) := by decide +kernel
theorem dX2_keepNoted_19 : decode cX2_keepNoted 19 = .ok (.aload_n 0, 1) := by decide +kernel
theorem dX2_keepNoted_20 : decode cX2_keepNoted 20 = .ok (.getfield 11, 3) := by decide +kernel
theorem dX2_keepNoted_23 : decode cX2_keepNoted 23 = .ok (.iconst 0, 1) := by decide +kernel
theorem dX2_keepNoted_24 : decode cX2_keepNoted 24 = .ok (.aaload, 1) := by decide +kernel
theorem dX2_keepNoted_25 : decode cX2_keepNoted 25 = .ok (.astore_n 1, 1) := by decide +kernel
theorem dX2_keepNoted_26 : decode cX2_keepNoted 26 = .ok (.iconst 0, 1) := by decide +kernel
theorem dX2_keepNoted_27 : decode cX2_keepNoted 27 = .ok (.istore_n 2, 1) := by decide +kernel
theorem dX2_keepNoted_28 : decode cX2_keepNoted 28 = .ok (.iload_n 2, 1) := by decide +kernel
theorem dX2_keepNoted_29 : decode cX2_keepNoted 29 = .ok (.iconst 4, 1) := by decide +kernel
theorem dX2_keepNoted_30 : decode cX2_keepNoted 30 = .ok (.if_icmp .ge 23, 3) := by decide +kernel
theorem dX2_keepNoted_33 : decode cX2_keepNoted 33 = .ok (.aload_n 0, 1) := by decide +kernel
theorem dX2_keepNoted_34 : decode cX2_keepNoted 34 = .ok (.getfield 11, 3) := by decide +kernel
theorem dX2_keepNoted_37 : decode cX2_keepNoted 37 = .ok (.iload_n 2, 1) := by decide +kernel
theorem dX2_keepNoted_38 : decode cX2_keepNoted 38 = .ok (.aload_n 0, 1) := by decide +kernel
theorem dX2_keepNoted_39 : decode cX2_keepNoted 39 = .ok (.getfield 11, 3) := by decide +kernel
theorem dX2_keepNoted_42 : decode cX2_keepNoted 42 = .ok (.iload_n 2, 1) := by decide +kernel
theorem dX2_keepNoted_43 : decode cX2_keepNoted 43 = .ok (.iconst 1, 1) := by decide +kernel
theorem dX2_keepNoted_44 : decode cX2_keepNoted 44 = .ok (.iadd, 1) := by decide +kernel
theorem dX2_keepNoted_45 : decode cX2_keepNoted 45 = .ok (.aaload, 1) := by decide +kernel
theorem dX2_keepNoted_46 : decode cX2_keepNoted 46 = .ok (.aastore, 1) := by decide +kernel
theorem dX2_keepNoted_47 : decode cX2_keepNoted 47 = .ok (.iinc 2 1, 3) := by decide +kernel
theorem dX2_keepNoted_50 : decode cX2_keepNoted 50 = .ok (.goto (-22), 3) := by decide +kernel
theorem dX2_keepNoted_53 : decode cX2_keepNoted 53 = .ok (.aload_n 0, 1) := by decide +kernel
theorem dX2_keepNoted_54 : decode cX2_keepNoted 54 = .ok (.getfield 11, 3) := by decide +kernel
theorem dX2_keepNoted_57 : decode cX2_keepNoted 57 = .ok (.iconst 4, 1) := by decide +kernel
theorem dX2_keepNoted_58 : decode cX2_keepNoted 58 = .ok (.aload_n 1, 1) := by decide +kernel
theorem dX2_keepNoted_59 : decode cX2_keepNoted 59 = .ok (.aastore, 1) := by decide +kernel
theorem dX2_keepNoted_60 : decode cX2_keepNoted 60 = .ok (.return_, 1) := by decide +kernel
theorem dX2_takeBack_0 : decode cX2_takeBack 0 = .ok (.aload_n 0, 1) := by decide +kernel
theorem dX2_takeBack_1 : decode cX2_takeBack 1 = .ok (.aload_n 0, 1) := by decide +kernel
theorem dX2_takeBack_2 : decode cX2_takeBack 2 = .ok (.getfield 17, 3) := by decide +kernel
theorem dX2_takeBack_5 : decode cX2_takeBack 5 = .ok (.iconst 1, 1) := by decide +kernel
theorem dX2_takeBack_6 : decode cX2_takeBack 6 = .ok (.isub, 1) := by decide +kernel
theorem dX2_takeBack_7 : decode cX2_takeBack 7 = .ok (.invokevirtual 22, 3) := by decide +kernel
theorem dX2_takeBack_10 : decode cX2_takeBack 10 = .ok (.astore_n 2, 1) := by decide +kernel
theorem dX2_takeBack_11 : decode cX2_takeBack 11 = .ok (.aload_n 2, 1) := by decide +kernel
theorem dX2_takeBack_12 : decode cX2_takeBack 12 = .ok (.ifnull 18, 3) := by decide +kernel
theorem dX2_takeBack_15 : decode cX2_takeBack 15 = .ok (.aload_n 1, 1) := by decide +kernel
theorem dX2_takeBack_16 : decode cX2_takeBack 16 = .ok (.aload_n 2, 1) := by decide +kernel
theorem dX2_takeBack_17 : decode cX2_takeBack 17 = .ok (.invokevirtual 26, 3) := by decide +kernel
theorem dX2_takeBack_20 : decode cX2_takeBack 20 = .ok (.aload_n 0, 1) := by decide +kernel
theorem dX2_takeBack_21 : decode cX2_takeBack 21 = .ok (.dup, 1) := by decide +kernel
theorem dX2_takeBack_22 : decode cX2_takeBack 22 = .ok (.getfield 17, 3) := by decide +kernel
theorem dX2_takeBack_25 : decode cX2_takeBack 25 = .ok (.iconst 1, 1) := by decide +kernel
theorem dX2_takeBack_26 : decode cX2_takeBack 26 = .ok (.isub, 1) := by decide +kernel
theorem dX2_takeBack_27 : decode cX2_takeBack 27 = .ok (.putfield 17, 3) := by decide +kernel
theorem dX2_takeBack_30 : decode cX2_takeBack 30 = .ok (.return_, 1) := by decide +kernel
theorem dX3_livingSons_0 : decode cX3_livingSons 0 = .ok (.iconst 0, 1) := by decide +kernel
theorem dX3_livingSons_1 : decode cX3_livingSons 1 = .ok (.istore_n 2, 1) := by decide +kernel
theorem dX3_livingSons_2 : decode cX3_livingSons 2 = .ok (.iconst 0, 1) := by decide +kernel
theorem dX3_livingSons_3 : decode cX3_livingSons 3 = .ok (.istore_n 3, 1) := by decide +kernel
theorem dX3_livingSons_4 : decode cX3_livingSons 4 = .ok (.iload_n 3, 1) := by decide +kernel
theorem dX3_livingSons_5 : decode cX3_livingSons 5 = .ok (.aload_n 0, 1) := by decide +kernel
theorem dX3_livingSons_6 : decode cX3_livingSons 6 = .ok (.invokevirtual 9, 3) := by decide +kernel
theorem dX3_livingSons_9 : decode cX3_livingSons 9 = .ok (.if_icmp .ge 29, 3) := by decide +kernel
theorem dX3_livingSons_12 : decode cX3_livingSons 12 = .ok (.aload_n 0, 1) := by decide +kernel
theorem dX3_livingSons_13 : decode cX3_livingSons 13 = .ok (.iload_n 3, 1) := by decide +kernel
theorem dX3_livingSons_14 : decode cX3_livingSons 14 = .ok (.invokevirtual 15, 3) := by decide +kernel
theorem dX3_livingSons_17 : decode cX3_livingSons 17 = .ok (.ifCond .eq 15, 3) := by decide +kernel
theorem dX3_livingSons_20 : decode cX3_livingSons 20 = .ok (.aload_n 0, 1) := by decide +kernel
theorem dX3_livingSons_21 : decode cX3_livingSons 21 = .ok (.iload_n 3, 1) := by decide +kernel
theorem dX3_livingSons_22 : decode cX3_livingSons 22 = .ok (.invokevirtual 19, 3) := by decide +kernel
theorem dX3_livingSons_25 : decode cX3_livingSons 25 = .ok (.iload_n 1, 1) := by decide +kernel
theorem dX3_livingSons_26 : decode cX3_livingSons 26 = .ok (.if_icmp .ne 6, 3) := by decide +kernel
theorem dX3_livingSons_29 : decode cX3_livingSons 29 = .ok (.iinc 2 1, 3) := by decide +kernel
theorem dX3_livingSons_32 : decode cX3_livingSons 32 = .ok (.iinc 3 1, 3) := by decide +kernel
theorem dX3_livingSons_35 : decode cX3_livingSons 35 = .ok (.goto (-31), 3) := by decide +kernel
theorem dX3_livingSons_38 : decode cX3_livingSons 38 = .ok (.iload_n 2, 1) := by decide +kernel
theorem dX3_livingSons_39 : decode cX3_livingSons 39 = .ok (.ireturn, 1) := by decide +kernel
theorem dX3_livingBrothers_0 : decode cX3_livingBrothers 0 = .ok (.iconst 0, 1) := by decide +kernel
theorem dX3_livingBrothers_1 : decode cX3_livingBrothers 1 = .ok (.istore_n 2, 1) := by decide +kernel
theorem dX3_livingBrothers_2 : decode cX3_livingBrothers 2 = .ok (.iconst 0, 1) := by decide +kernel
theorem dX3_livingBrothers_3 : decode cX3_livingBrothers 3 = .ok (.istore_n 3, 1) := by decide +kernel
theorem dX3_livingBrothers_4 : decode cX3_livingBrothers 4 = .ok (.iload_n 3, 1) := by decide +kernel
theorem dX3_livingBrothers_5 : decode cX3_livingBrothers 5 = .ok (.aload_n 0, 1) := by decide +kernel
theorem dX3_livingBrothers_6 : decode cX3_livingBrothers 6 = .ok (.invokevirtual 9, 3) := by decide +kernel
theorem dX3_livingBrothers_9 : decode cX3_livingBrothers 9 = .ok (.if_icmp .ge 29, 3) := by decide +kernel
theorem dX3_livingBrothers_12 : decode cX3_livingBrothers 12 = .ok (.aload_n 0, 1) := by decide +kernel
theorem dX3_livingBrothers_13 : decode cX3_livingBrothers 13 = .ok (.iload_n 3, 1) := by decide +kernel
theorem dX3_livingBrothers_14 : decode cX3_livingBrothers 14 = .ok (.invokevirtual 15, 3) := by decide +kernel
theorem dX3_livingBrothers_17 : decode cX3_livingBrothers 17 = .ok (.ifCond .eq 15, 3) := by decide +kernel
theorem dX3_livingBrothers_20 : decode cX3_livingBrothers 20 = .ok (.aload_n 0, 1) := by decide +kernel
theorem dX3_livingBrothers_21 : decode cX3_livingBrothers 21 = .ok (.iload_n 3, 1) := by decide +kernel
theorem dX3_livingBrothers_22 : decode cX3_livingBrothers 22 = .ok (.iload_n 1, 1) := by decide +kernel
theorem dX3_livingBrothers_23 : decode cX3_livingBrothers 23 = .ok (.invokevirtual 23, 3) := by decide +kernel
theorem dX3_livingBrothers_26 : decode cX3_livingBrothers 26 = .ok (.ifCond .eq 6, 3) := by decide +kernel
theorem dX3_livingBrothers_29 : decode cX3_livingBrothers 29 = .ok (.iinc 2 1, 3) := by decide +kernel
theorem dX3_livingBrothers_32 : decode cX3_livingBrothers 32 = .ok (.iinc 3 1, 3) := by decide +kernel
theorem dX3_livingBrothers_35 : decode cX3_livingBrothers 35 = .ok (.goto (-31), 3) := by decide +kernel
theorem dX3_livingBrothers_38 : decode cX3_livingBrothers 38 = .ok (.iload_n 2, 1) := by decide +kernel
theorem dX3_livingBrothers_39 : decode cX3_livingBrothers 39 = .ok (.ireturn, 1) := by decide +kernel
theorem dX3_livingCousins_0 : decode cX3_livingCousins 0 = .ok (.iconst 0, 1) := by decide +kernel
theorem dX3_livingCousins_1 : decode cX3_livingCousins 1 = .ok (.istore_n 2, 1) := by decide +kernel
theorem dX3_livingCousins_2 : decode cX3_livingCousins 2 = .ok (.iconst 0, 1) := by decide +kernel
theorem dX3_livingCousins_3 : decode cX3_livingCousins 3 = .ok (.istore_n 3, 1) := by decide +kernel
theorem dX3_livingCousins_4 : decode cX3_livingCousins 4 = .ok (.iload_n 3, 1) := by decide +kernel
theorem dX3_livingCousins_5 : decode cX3_livingCousins 5 = .ok (.aload_n 0, 1) := by decide +kernel
theorem dX3_livingCousins_6 : decode cX3_livingCousins 6 = .ok (.invokevirtual 9, 3) := by decide +kernel
theorem dX3_livingCousins_9 : decode cX3_livingCousins 9 = .ok (.if_icmp .ge 37, 3) := by decide +kernel
theorem dX3_livingCousins_12 : decode cX3_livingCousins 12 = .ok (.aload_n 0, 1) := by decide +kernel
theorem dX3_livingCousins_13 : decode cX3_livingCousins 13 = .ok (.iload_n 3, 1) := by decide +kernel
theorem dX3_livingCousins_14 : decode cX3_livingCousins 14 = .ok (.invokevirtual 15, 3) := by decide +kernel
theorem dX3_livingCousins_17 : decode cX3_livingCousins 17 = .ok (.ifCond .eq 23, 3) := by decide +kernel
theorem dX3_livingCousins_20 : decode cX3_livingCousins 20 = .ok (.aload_n 0, 1) := by decide +kernel
theorem dX3_livingCousins_21 : decode cX3_livingCousins 21 = .ok (.aload_n 0, 1) := by decide +kernel
theorem dX3_livingCousins_22 : decode cX3_livingCousins 22 = .ok (.iload_n 3, 1) := by decide +kernel
theorem dX3_livingCousins_23 : decode cX3_livingCousins 23 = .ok (.invokevirtual 19, 3) := by decide +kernel
theorem dX3_livingCousins_26 : decode cX3_livingCousins 26 = .ok (.aload_n 0, 1) := by decide +kernel
theorem dX3_livingCousins_27 : decode cX3_livingCousins 27 = .ok (.iload_n 1, 1) := by decide +kernel
theorem dX3_livingCousins_28 : decode cX3_livingCousins 28 = .ok (.invokevirtual 19, 3) := by decide +kernel
theorem dX3_livingCousins_31 : decode cX3_livingCousins 31 = .ok (.invokevirtual 23, 3) := by decide +kernel
theorem dX3_livingCousins_34 : decode cX3_livingCousins 34 = .ok (.ifCond .eq 6, 3) := by decide +kernel
theorem dX3_livingCousins_37 : decode cX3_livingCousins 37 = .ok (.iinc 2 1, 3) := by decide +kernel
theorem dX3_livingCousins_40 : decode cX3_livingCousins 40 = .ok (.iinc 3 1, 3) := by decide +kernel
theorem dX3_livingCousins_43 : decode cX3_livingCousins 43 = .ok (.goto (-39), 3) := by decide +kernel
theorem dX3_livingCousins_46 : decode cX3_livingCousins 46 = .ok (.iload_n 2, 1) := by decide +kernel
theorem dX3_livingCousins_47 : decode cX3_livingCousins 47 = .ok (.ireturn, 1) := by decide +kernel
theorem dX3_descendants_0 : decode cX3_descendants 0 = .ok (.iconst 0, 1) := by decide +kernel
theorem dX3_descendants_1 : decode cX3_descendants 1 = .ok (.istore_n 2, 1) := by decide +kernel
theorem dX3_descendants_2 : decode cX3_descendants 2 = .ok (.iload_n 1, 1) := by decide +kernel
theorem dX3_descendants_3 : decode cX3_descendants 3 = .ok (.iconst 1, 1) := by decide +kernel
theorem dX3_descendants_4 : decode cX3_descendants 4 = .ok (.iadd, 1) := by decide +kernel
theorem dX3_descendants_5 : decode cX3_descendants 5 = .ok (.istore_n 3, 1) := by decide +kernel
theorem dX3_descendants_6 : decode cX3_descendants 6 = .ok (.iload_n 3, 1) := by decide +kernel
theorem dX3_descendants_7 : decode cX3_descendants 7 = .ok (.aload_n 0, 1) := by decide +kernel
theorem dX3_descendants_8 : decode cX3_descendants 8 = .ok (.invokevirtual 9, 3) := by decide +kernel
theorem dX3_descendants_11 : decode cX3_descendants 11 = .ok (.if_icmp .ge 21, 3) := by decide +kernel
theorem dX3_descendants_14 : decode cX3_descendants 14 = .ok (.aload_n 0, 1) := by decide +kernel
theorem dX3_descendants_15 : decode cX3_descendants 15 = .ok (.iload_n 3, 1) := by decide +kernel
theorem dX3_descendants_16 : decode cX3_descendants 16 = .ok (.iload_n 1, 1) := by decide +kernel
theorem dX3_descendants_17 : decode cX3_descendants 17 = .ok (.invokestatic 27, 3) := by decide +kernel
theorem dX3_descendants_20 : decode cX3_descendants 20 = .ok (.ifCond .eq 6, 3) := by decide +kernel
theorem dX3_descendants_23 : decode cX3_descendants 23 = .ok (.iinc 2 1, 3) := by decide +kernel
theorem dX3_descendants_26 : decode cX3_descendants 26 = .ok (.iinc 3 1, 3) := by decide +kernel
theorem dX3_descendants_29 : decode cX3_descendants 29 = .ok (.goto (-23), 3) := by decide +kernel
theorem dX3_descendants_32 : decode cX3_descendants 32 = .ok (.iload_n 2, 1) := by decide +kernel
theorem dX3_descendants_33 : decode cX3_descendants 33 = .ok (.ireturn, 1) := by decide +kernel
theorem dX3_comesFrom_0 : decode cX3_comesFrom 0 = .ok (.iload_n 1, 1) := by decide +kernel
theorem dX3_comesFrom_1 : decode cX3_comesFrom 1 = .ok (.istore_n 3, 1) := by decide +kernel
theorem dX3_comesFrom_2 : decode cX3_comesFrom 2 = .ok (.iconst 0, 1) := by decide +kernel
theorem dX3_comesFrom_3 : decode cX3_comesFrom 3 = .ok (.istore 4, 2) := by decide +kernel
theorem dX3_comesFrom_5 : decode cX3_comesFrom 5 = .ok (.iload 4, 2) := by decide +kernel
theorem dX3_comesFrom_7 : decode cX3_comesFrom 7 = .ok (.bipush 20, 2) := by decide +kernel
theorem dX3_comesFrom_9 : decode cX3_comesFrom 9 = .ok (.if_icmp .ge 20, 3) := by decide +kernel
theorem dX3_comesFrom_12 : decode cX3_comesFrom 12 = .ok (.iload_n 3, 1) := by decide +kernel
theorem dX3_comesFrom_13 : decode cX3_comesFrom 13 = .ok (.iload_n 2, 1) := by decide +kernel
theorem dX3_comesFrom_14 : decode cX3_comesFrom 14 = .ok (.if_icmp .le 15, 3) := by decide +kernel
theorem dX3_comesFrom_17 : decode cX3_comesFrom 17 = .ok (.aload_n 0, 1) := by decide +kernel
theorem dX3_comesFrom_18 : decode cX3_comesFrom 18 = .ok (.iload_n 3, 1) := by decide +kernel
theorem dX3_comesFrom_19 : decode cX3_comesFrom 19 = .ok (.invokevirtual 19, 3) := by decide +kernel
theorem dX3_comesFrom_22 : decode cX3_comesFrom 22 = .ok (.istore_n 3, 1) := by decide +kernel
theorem dX3_comesFrom_23 : decode cX3_comesFrom 23 = .ok (.iinc 4 1, 3) := by decide +kernel
theorem dX3_comesFrom_26 : decode cX3_comesFrom 26 = .ok (.goto (-21), 3) := by decide +kernel
theorem dX3_comesFrom_29 : decode cX3_comesFrom 29 = .ok (.iload_n 3, 1) := by decide +kernel
theorem dX3_comesFrom_30 : decode cX3_comesFrom 30 = .ok (.iload_n 2, 1) := by decide +kernel
theorem dX3_comesFrom_31 : decode cX3_comesFrom 31 = .ok (.if_icmp .ne 7, 3) := by decide +kernel
theorem dX3_comesFrom_34 : decode cX3_comesFrom 34 = .ok (.iconst 1, 1) := by decide +kernel
theorem dX3_comesFrom_35 : decode cX3_comesFrom 35 = .ok (.goto 4, 3) := by decide +kernel
theorem dX3_comesFrom_38 : decode cX3_comesFrom 38 = .ok (.iconst 0, 1) := by decide +kernel
theorem dX3_comesFrom_39 : decode cX3_comesFrom 39 = .ok (.ireturn, 1) := by decide +kernel
theorem dX3_stepsFromFounder_0 : decode cX3_stepsFromFounder 0 = .ok (.iload_n 1, 1) := by decide +kernel
theorem dX3_stepsFromFounder_1 : decode cX3_stepsFromFounder 1 = .ok (.istore_n 2, 1) := by decide +kernel
theorem dX3_stepsFromFounder_2 : decode cX3_stepsFromFounder 2 = .ok (.iconst 0, 1) := by decide +kernel
theorem dX3_stepsFromFounder_3 : decode cX3_stepsFromFounder 3 = .ok (.istore_n 3, 1) := by decide +kernel
theorem dX3_stepsFromFounder_4 : decode cX3_stepsFromFounder 4 = .ok (.iload_n 3, 1) := by decide +kernel
theorem dX3_stepsFromFounder_5 : decode cX3_stepsFromFounder 5 = .ok (.bipush 20, 2) := by decide +kernel
theorem dX3_stepsFromFounder_7 : decode cX3_stepsFromFounder 7 = .ok (.if_icmp .ge 24, 3) := by decide +kernel
theorem dX3_stepsFromFounder_10 : decode cX3_stepsFromFounder 10 = .ok (.aload_n 0, 1) := by decide +kernel
theorem dX3_stepsFromFounder_11 : decode cX3_stepsFromFounder 11 = .ok (.iload_n 2, 1) := by decide +kernel
theorem dX3_stepsFromFounder_12 : decode cX3_stepsFromFounder 12 = .ok (.invokevirtual 19, 3) := by decide +kernel
theorem dX3_stepsFromFounder_15 : decode cX3_stepsFromFounder 15 = .ok (.iconst (-1), 1) := by decide +kernel
theorem dX3_stepsFromFounder_16 : decode cX3_stepsFromFounder 16 = .ok (.if_icmp .eq 15, 3) := by decide +kernel
theorem dX3_stepsFromFounder_19 : decode cX3_stepsFromFounder 19 = .ok (.aload_n 0, 1) := by decide +kernel
theorem dX3_stepsFromFounder_20 : decode cX3_stepsFromFounder 20 = .ok (.iload_n 2, 1) := by decide +kernel
theorem dX3_stepsFromFounder_21 : decode cX3_stepsFromFounder 21 = .ok (.invokevirtual 19, 3) := by decide +kernel
theorem dX3_stepsFromFounder_24 : decode cX3_stepsFromFounder 24 = .ok (.istore_n 2, 1) := by decide +kernel
theorem dX3_stepsFromFounder_25 : decode cX3_stepsFromFounder 25 = .ok (.iinc 3 1, 3) := by decide +kernel
theorem dX3_stepsFromFounder_28 : decode cX3_stepsFromFounder 28 = .ok (.goto (-24), 3) := by decide +kernel
theorem dX3_stepsFromFounder_31 : decode cX3_stepsFromFounder 31 = .ok (.iload_n 3, 1) := by decide +kernel
theorem dX3_stepsFromFounder_32 : decode cX3_stepsFromFounder 32 = .ok (.ireturn, 1) := by decide +kernel
theorem dX3_placesFromFather_0 : decode cX3_placesFromFather 0 = .ok (.aload_n 0, 1) := by decide +kernel
theorem dX3_placesFromFather_1 : decode cX3_placesFromFather 1 = .ok (.iload_n 1, 1) := by decide +kernel
theorem dX3_placesFromFather_2 : decode cX3_placesFromFather 2 = .ok (.invokevirtual 19, 3) := by decide +kernel
theorem dX3_placesFromFather_5 : decode cX3_placesFromFather 5 = .ok (.istore_n 2, 1) := by decide +kernel
theorem dX3_placesFromFather_6 : decode cX3_placesFromFather 6 = .ok (.iload_n 2, 1) := by decide +kernel
theorem dX3_placesFromFather_7 : decode cX3_placesFromFather 7 = .ok (.iconst (-1), 1) := by decide +kernel
theorem dX3_placesFromFather_8 : decode cX3_placesFromFather 8 = .ok (.if_icmp .ne 6, 3) := by decide +kernel
theorem dX3_placesFromFather_11 : decode cX3_placesFromFather 11 = .ok (.bipush (-4), 2) := by decide +kernel
theorem dX3_placesFromFather_13 : decode cX3_placesFromFather 13 = .ok (.ireturn, 1) := by decide +kernel
theorem dX3_placesFromFather_14 : decode cX3_placesFromFather 14 = .ok (.aload_n 0, 1) := by decide +kernel
theorem dX3_placesFromFather_15 : decode cX3_placesFromFather 15 = .ok (.iload_n 1, 1) := by decide +kernel
theorem dX3_placesFromFather_16 : decode cX3_placesFromFather 16 = .ok (.invokevirtual 33, 3) := by decide +kernel
theorem dX3_placesFromFather_19 : decode cX3_placesFromFather 19 = .ok (.aload_n 0, 1) := by decide +kernel
theorem dX3_placesFromFather_20 : decode cX3_placesFromFather 20 = .ok (.iload_n 2, 1) := by decide +kernel
theorem dX3_placesFromFather_21 : decode cX3_placesFromFather 21 = .ok (.invokevirtual 33, 3) := by decide +kernel
theorem dX3_placesFromFather_24 : decode cX3_placesFromFather 24 = .ok (.invokestatic 36, 3) := by decide +kernel
theorem dX3_placesFromFather_27 : decode cX3_placesFromFather 27 = .ok (.ireturn, 1) := by decide +kernel
theorem dX3_nearness_0 : decode cX3_nearness 0 = .ok (.iconst 0, 1) := by decide +kernel
theorem dX3_nearness_1 : decode cX3_nearness 1 = .ok (.istore_n 3, 1) := by decide +kernel
theorem dX3_nearness_2 : decode cX3_nearness 2 = .ok (.iload_n 3, 1) := by decide +kernel
theorem dX3_nearness_3 : decode cX3_nearness 3 = .ok (.bipush 40, 2) := by decide +kernel
theorem dX3_nearness_5 : decode cX3_nearness 5 = .ok (.if_icmp .ge 34, 3) := by decide +kernel
theorem dX3_nearness_8 : decode cX3_nearness 8 = .ok (.iload_n 1, 1) := by decide +kernel
theorem dX3_nearness_9 : decode cX3_nearness 9 = .ok (.iload_n 2, 1) := by decide +kernel
theorem dX3_nearness_10 : decode cX3_nearness 10 = .ok (.if_icmp .eq 29, 3) := by decide +kernel
theorem dX3_nearness_13 : decode cX3_nearness 13 = .ok (.iload_n 1, 1) := by decide +kernel
theorem dX3_nearness_14 : decode cX3_nearness 14 = .ok (.iload_n 2, 1) := by decide +kernel
theorem dX3_nearness_15 : decode cX3_nearness 15 = .ok (.if_icmp .le 12, 3) := by decide +kernel
theorem dX3_nearness_18 : decode cX3_nearness 18 = .ok (.aload_n 0, 1) := by decide +kernel
theorem dX3_nearness_19 : decode cX3_nearness 19 = .ok (.iload_n 1, 1) := by decide +kernel
theorem dX3_nearness_20 : decode cX3_nearness 20 = .ok (.invokevirtual 19, 3) := by decide +kernel
theorem dX3_nearness_23 : decode cX3_nearness 23 = .ok (.istore_n 1, 1) := by decide +kernel
theorem dX3_nearness_24 : decode cX3_nearness 24 = .ok (.goto 9, 3) := by decide +kernel
theorem dX3_nearness_27 : decode cX3_nearness 27 = .ok (.aload_n 0, 1) := by decide +kernel
theorem dX3_nearness_28 : decode cX3_nearness 28 = .ok (.iload_n 2, 1) := by decide +kernel
theorem dX3_nearness_29 : decode cX3_nearness 29 = .ok (.invokevirtual 19, 3) := by decide +kernel
theorem dX3_nearness_32 : decode cX3_nearness 32 = .ok (.istore_n 2, 1) := by decide +kernel
theorem dX3_nearness_33 : decode cX3_nearness 33 = .ok (.iinc 3 1, 3) := by decide +kernel
theorem dX3_nearness_36 : decode cX3_nearness 36 = .ok (.goto (-34), 3) := by decide +kernel
theorem dX3_nearness_39 : decode cX3_nearness 39 = .ok (.iload_n 1, 1) := by decide +kernel
theorem dX3_nearness_40 : decode cX3_nearness 40 = .ok (.iload_n 2, 1) := by decide +kernel
theorem dX3_nearness_41 : decode cX3_nearness 41 = .ok (.if_icmp .ne 12, 3) := by decide +kernel
theorem dX3_nearness_44 : decode cX3_nearness 44 = .ok (.iload_n 1, 1) := by decide +kernel
theorem dX3_nearness_45 : decode cX3_nearness 45 = .ok (.iconst (-1), 1) := by decide +kernel
theorem dX3_nearness_46 : decode cX3_nearness 46 = .ok (.if_icmp .eq 7, 3) := by decide +kernel
theorem dX3_nearness_49 : decode cX3_nearness 49 = .ok (.iload_n 3, 1) := by decide +kernel
theorem dX3_nearness_50 : decode cX3_nearness 50 = .ok (.goto 5, 3) := by decide +kernel
theorem dX3_nearness_53 : decode cX3_nearness 53 = .ok (.bipush (-4), 2) := by decide +kernel
theorem dX3_nearness_55 : decode cX3_nearness 55 = .ok (.ireturn, 1) := by decide +kernel
theorem dX3_heirOf_0 : decode cX3_heirOf 0 = .ok (.iconst 0, 1) := by decide +kernel
theorem dX3_heirOf_1 : decode cX3_heirOf 1 = .ok (.istore_n 2, 1) := by decide +kernel
theorem dX3_heirOf_2 : decode cX3_heirOf 2 = .ok (.iload_n 2, 1) := by decide +kernel
theorem dX3_heirOf_3 : decode cX3_heirOf 3 = .ok (.aload_n 0, 1) := by decide +kernel
theorem dX3_heirOf_4 : decode cX3_heirOf 4 = .ok (.invokevirtual 9, 3) := by decide +kernel
theorem dX3_heirOf_7 : decode cX3_heirOf 7 = .ok (.if_icmp .ge 36, 3) := by decide +kernel
theorem dX3_heirOf_10 : decode cX3_heirOf 10 = .ok (.aload_n 0, 1) := by decide +kernel
theorem dX3_heirOf_11 : decode cX3_heirOf 11 = .ok (.iload_n 2, 1) := by decide +kernel
theorem dX3_heirOf_12 : decode cX3_heirOf 12 = .ok (.invokevirtual 15, 3) := by decide +kernel
theorem dX3_heirOf_15 : decode cX3_heirOf 15 = .ok (.ifCond .eq 22, 3) := by decide +kernel
theorem dX3_heirOf_18 : decode cX3_heirOf 18 = .ok (.aload_n 0, 1) := by decide +kernel
theorem dX3_heirOf_19 : decode cX3_heirOf 19 = .ok (.iload_n 2, 1) := by decide +kernel
theorem dX3_heirOf_20 : decode cX3_heirOf 20 = .ok (.invokevirtual 19, 3) := by decide +kernel
theorem dX3_heirOf_23 : decode cX3_heirOf 23 = .ok (.iload_n 1, 1) := by decide +kernel
theorem dX3_heirOf_24 : decode cX3_heirOf 24 = .ok (.if_icmp .ne 13, 3) := by decide +kernel
theorem dX3_heirOf_27 : decode cX3_heirOf 27 = .ok (.aload_n 0, 1) := by decide +kernel
theorem dX3_heirOf_28 : decode cX3_heirOf 28 = .ok (.iload_n 2, 1) := by decide +kernel
theorem dX3_heirOf_29 : decode cX3_heirOf 29 = .ok (.invokevirtual 42, 3) := by decide +kernel
theorem dX3_heirOf_32 : decode cX3_heirOf 32 = .ok (.ifCond .ne 5, 3) := by decide +kernel
theorem dX3_heirOf_35 : decode cX3_heirOf 35 = .ok (.iload_n 2, 1) := by decide +kernel
theorem dX3_heirOf_36 : decode cX3_heirOf 36 = .ok (.ireturn, 1) := by decide +kernel
theorem dX3_heirOf_37 : decode cX3_heirOf 37 = .ok (.iinc 2 1, 3) := by decide +kernel
theorem dX3_heirOf_40 : decode cX3_heirOf 40 = .ok (.goto (-38), 3) := by decide +kernel
theorem dX3_heirOf_43 : decode cX3_heirOf 43 = .ok (.iconst (-1), 1) := by decide +kernel
theorem dX3_heirOf_44 : decode cX3_heirOf 44 = .ok (.ireturn, 1) := by decide +kernel
theorem dX4_init_0 : decode cX4_init 0 = .ok (.aload_n 0, 1) := by decide +kernel
theorem dX4_init_1 : decode cX4_init 1 = .ok (.invokespecial 3, 3) := by decide +kernel
theorem dX4_init_4 : decode cX4_init 4 = .ok (.aload_n 0, 1) := by decide +kernel
theorem dX4_init_5 : decode cX4_init 5 = .ok (.new 9, 3) := by decide +kernel
theorem dX4_init_8 : decode cX4_init 8 = .ok (.dup, 1) := by decide +kernel
theorem dX4_init_9 : decode cX4_init 9 = .ok (.invokespecial 11, 3) := by decide +kernel
theorem dX4_init_12 : decode cX4_init 12 = .ok (.putfield 12, 3) := by decide +kernel
theorem dX4_init_15 : decode cX4_init 15 = .ok (.aload_n 0, 1) := by decide +kernel
theorem dX4_init_16 : decode cX4_init 16 = .ok (.new 9, 3) := by decide +kernel
theorem dX4_init_19 : decode cX4_init 19 = .ok (.dup, 1) := by decide +kernel
theorem dX4_init_20 : decode cX4_init 20 = .ok (.invokespecial 11, 3) := by decide +kernel
theorem dX4_init_23 : decode cX4_init 23 = .ok (.putfield 18, 3) := by decide +kernel
theorem dX4_init_26 : decode cX4_init 26 = .ok (.aload_n 0, 1) := by decide +kernel
theorem dX4_init_27 : decode cX4_init 27 = .ok (.new 9, 3) := by decide +kernel
theorem dX4_init_30 : decode cX4_init 30 = .ok (.dup, 1) := by decide +kernel
theorem dX4_init_31 : decode cX4_init 31 = .ok (.invokespecial 11, 3) := by decide +kernel
theorem dX4_init_34 : decode cX4_init 34 = .ok (.putfield 21, 3) := by decide +kernel
theorem dX4_init_37 : decode cX4_init 37 = .ok (.return_, 1) := by decide +kernel
theorem dX4_fewest_0 : decode cX4_fewest 0 = .ok (.iload_n 2, 1) := by decide +kernel
theorem dX4_fewest_1 : decode cX4_fewest 1 = .ok (.iload_n 3, 1) := by decide +kernel
theorem dX4_fewest_2 : decode cX4_fewest 2 = .ok (.invokestatic 24, 3) := by decide +kernel
theorem dX4_fewest_5 : decode cX4_fewest 5 = .ok (.istore 4, 2) := by decide +kernel
theorem dX4_fewest_7 : decode cX4_fewest 7 = .ok (.iload 4, 2) := by decide +kernel
theorem dX4_fewest_9 : decode cX4_fewest 9 = .ok (.istore 5, 2) := by decide +kernel
theorem dX4_fewest_11 : decode cX4_fewest 11 = .ok (.iload 5, 2) := by decide +kernel
theorem dX4_fewest_13 : decode cX4_fewest 13 = .ok (.iload 4, 2) := by decide +kernel
theorem dX4_fewest_15 : decode cX4_fewest 15 = .ok (.iconst 2, 1) := by decide +kernel
theorem dX4_fewest_16 : decode cX4_fewest 16 = .ok (.iadd, 1) := by decide +kernel
theorem dX4_fewest_17 : decode cX4_fewest 17 = .ok (.if_icmp .gt 24, 3) := by decide +kernel
theorem dX4_fewest_20 : decode cX4_fewest 20 = .ok (.aload_n 0, 1) := by decide +kernel
theorem dX4_fewest_21 : decode cX4_fewest 21 = .ok (.aload_n 1, 1) := by decide +kernel
theorem dX4_fewest_22 : decode cX4_fewest 22 = .ok (.iload_n 2, 1) := by decide +kernel
theorem dX4_fewest_23 : decode cX4_fewest 23 = .ok (.iload_n 3, 1) := by decide +kernel
theorem dX4_fewest_24 : decode cX4_fewest 24 = .ok (.iload 5, 2) := by decide +kernel
theorem dX4_fewest_26 : decode cX4_fewest 26 = .ok (.invokevirtual 30, 3) := by decide +kernel
theorem dX4_fewest_29 : decode cX4_fewest 29 = .ok (.ifCond .eq 6, 3) := by decide +kernel
theorem dX4_fewest_32 : decode cX4_fewest 32 = .ok (.iload 5, 2) := by decide +kernel
theorem dX4_fewest_34 : decode cX4_fewest 34 = .ok (.ireturn, 1) := by decide +kernel
theorem dX4_fewest_35 : decode cX4_fewest 35 = .ok (.iinc 5 1, 3) := by decide +kernel
theorem dX4_fewest_38 : decode cX4_fewest 38 = .ok (.goto (-27), 3) := by decide +kernel
theorem dX4_fewest_41 : decode cX4_fewest 41 = .ok (.bipush (-4), 2) := by decide +kernel
theorem dX4_fewest_43 : decode cX4_fewest 43 = .ok (.ireturn, 1) := by decide +kernel
theorem dX4_reaches_0 : decode cX4_reaches 0 = .ok (.aload_n 0, 1) := by decide +kernel
theorem dX4_reaches_1 : decode cX4_reaches 1 = .ok (.getfield 12, 3) := by decide +kernel
theorem dX4_reaches_4 : decode cX4_reaches 4 = .ok (.invokevirtual 34, 3) := by decide +kernel
theorem dX4_reaches_7 : decode cX4_reaches 7 = .ok (.aload_n 0, 1) := by decide +kernel
theorem dX4_reaches_8 : decode cX4_reaches 8 = .ok (.getfield 18, 3) := by decide +kernel
theorem dX4_reaches_11 : decode cX4_reaches 11 = .ok (.invokevirtual 34, 3) := by decide +kernel
theorem dX4_reaches_14 : decode cX4_reaches 14 = .ok (.aload_n 0, 1) := by decide +kernel
theorem dX4_reaches_15 : decode cX4_reaches 15 = .ok (.getfield 12, 3) := by decide +kernel
theorem dX4_reaches_18 : decode cX4_reaches 18 = .ok (.iload_n 2, 1) := by decide +kernel
theorem dX4_reaches_19 : decode cX4_reaches 19 = .ok (.invokevirtual 37, 3) := by decide +kernel
theorem dX4_reaches_22 : decode cX4_reaches 22 = .ok (.aload_n 0, 1) := by decide +kernel
theorem dX4_reaches_23 : decode cX4_reaches 23 = .ok (.getfield 18, 3) := by decide +kernel
theorem dX4_reaches_26 : decode cX4_reaches 26 = .ok (.iload_n 2, 1) := by decide +kernel
theorem dX4_reaches_27 : decode cX4_reaches 27 = .ok (.invokevirtual 37, 3) := by decide +kernel
theorem dX4_reaches_30 : decode cX4_reaches 30 = .ok (.iconst 1, 1) := by decide +kernel
theorem dX4_reaches_31 : decode cX4_reaches 31 = .ok (.istore 5, 2) := by decide +kernel
theorem dX4_reaches_33 : decode cX4_reaches 33 = .ok (.iload 5, 2) := by decide +kernel
theorem dX4_reaches_35 : decode cX4_reaches 35 = .ok (.iload 4, 2) := by decide +kernel
theorem dX4_reaches_37 : decode cX4_reaches 37 = .ok (.if_icmp .gt 60, 3) := by decide +kernel
theorem dX4_reaches_40 : decode cX4_reaches 40 = .ok (.aload_n 0, 1) := by decide +kernel
theorem dX4_reaches_41 : decode cX4_reaches 41 = .ok (.getfield 21, 3) := by decide +kernel
theorem dX4_reaches_44 : decode cX4_reaches 44 = .ok (.invokevirtual 34, 3) := by decide +kernel
theorem dX4_reaches_47 : decode cX4_reaches 47 = .ok (.aload_n 0, 1) := by decide +kernel
theorem dX4_reaches_48 : decode cX4_reaches 48 = .ok (.aload_n 1, 1) := by decide +kernel
theorem dX4_reaches_49 : decode cX4_reaches 49 = .ok (.iload_n 3, 1) := by decide +kernel
theorem dX4_reaches_50 : decode cX4_reaches 50 = .ok (.iload 4, 2) := by decide +kernel
theorem dX4_reaches_52 : decode cX4_reaches 52 = .ok (.iload 5, 2) := by decide +kernel
theorem dX4_reaches_54 : decode cX4_reaches 54 = .ok (.isub, 1) := by decide +kernel
theorem dX4_reaches_55 : decode cX4_reaches 55 = .ok (.invokevirtual 41, 3) := by decide +kernel
theorem dX4_reaches_58 : decode cX4_reaches 58 = .ok (.aload_n 0, 1) := by decide +kernel
theorem dX4_reaches_59 : decode cX4_reaches 59 = .ok (.getfield 21, 3) := by decide +kernel
theorem dX4_reaches_62 : decode cX4_reaches 62 = .ok (.iload_n 3, 1) := by decide +kernel
theorem dX4_reaches_63 : decode cX4_reaches 63 = .ok (.invokevirtual 45, 3) := by decide +kernel
theorem dX4_reaches_66 : decode cX4_reaches 66 = .ok (.ifCond .eq 5, 3) := by decide +kernel
theorem dX4_reaches_69 : decode cX4_reaches 69 = .ok (.iconst 1, 1) := by decide +kernel
theorem dX4_reaches_70 : decode cX4_reaches 70 = .ok (.ireturn, 1) := by decide +kernel
theorem dX4_reaches_71 : decode cX4_reaches 71 = .ok (.aload_n 0, 1) := by decide +kernel
theorem dX4_reaches_72 : decode cX4_reaches 72 = .ok (.getfield 18, 3) := by decide +kernel
theorem dX4_reaches_75 : decode cX4_reaches 75 = .ok (.astore 6, 2) := by decide +kernel
theorem dX4_reaches_77 : decode cX4_reaches 77 = .ok (.aload_n 0, 1) := by decide +kernel
theorem dX4_reaches_78 : decode cX4_reaches 78 = .ok (.aload_n 0, 1) := by decide +kernel
theorem dX4_reaches_79 : decode cX4_reaches 79 = .ok (.getfield 21, 3) := by decide +kernel
theorem dX4_reaches_82 : decode cX4_reaches 82 = .ok (.putfield 18, 3) := by decide +kernel
theorem dX4_reaches_85 : decode cX4_reaches 85 = .ok (.aload_n 0, 1) := by decide +kernel
theorem dX4_reaches_86 : decode cX4_reaches 86 = .ok (.aload 6, 2) := by decide +kernel
theorem dX4_reaches_88 : decode cX4_reaches 88 = .ok (.putfield 21, 3) := by decide +kernel
theorem dX4_reaches_91 : decode cX4_reaches 91 = .ok (.iinc 5 1, 3) := by decide +kernel
theorem dX4_reaches_94 : decode cX4_reaches 94 = .ok (.goto (-61), 3) := by decide +kernel
theorem dX4_reaches_97 : decode cX4_reaches 97 = .ok (.iconst 0, 1) := by decide +kernel
theorem dX4_reaches_98 : decode cX4_reaches 98 = .ok (.ireturn, 1) := by decide +kernel
theorem dX4_goOn_0 : decode cX4_goOn 0 = .ok (.iconst 0, 1) := by decide +kernel
theorem dX4_goOn_1 : decode cX4_goOn 1 = .ok (.istore 4, 2) := by decide +kernel
theorem dX4_goOn_3 : decode cX4_goOn 3 = .ok (.iload 4, 2) := by decide +kernel
theorem dX4_goOn_5 : decode cX4_goOn 5 = .ok (.sipush 245, 3) := by decide +kernel
theorem dX4_goOn_8 : decode cX4_goOn 8 = .ok (.if_icmp .ge 71, 3) := by decide +kernel
theorem dX4_goOn_11 : decode cX4_goOn 11 = .ok (.aload_n 0, 1) := by decide +kernel
theorem dX4_goOn_12 : decode cX4_goOn 12 = .ok (.getfield 18, 3) := by decide +kernel
theorem dX4_goOn_15 : decode cX4_goOn 15 = .ok (.iload 4, 2) := by decide +kernel
theorem dX4_goOn_17 : decode cX4_goOn 17 = .ok (.invokevirtual 49, 3) := by decide +kernel
theorem dX4_goOn_20 : decode cX4_goOn 20 = .ok (.ifCond .eq 6, 3) := by decide +kernel
theorem dX4_goOn_23 : decode cX4_goOn 23 = .ok (.goto 50, 3) := by decide +kernel
theorem dX4_goOn_26 : decode cX4_goOn 26 = .ok (.iload 4, 2) := by decide +kernel
theorem dX4_goOn_28 : decode cX4_goOn 28 = .ok (.bipush 64, 2) := by decide +kernel
theorem dX4_goOn_30 : decode cX4_goOn 30 = .ok (.imul, 1) := by decide +kernel
theorem dX4_goOn_31 : decode cX4_goOn 31 = .ok (.istore 5, 2) := by decide +kernel
theorem dX4_goOn_33 : decode cX4_goOn 33 = .ok (.iload 5, 2) := by decide +kernel
theorem dX4_goOn_35 : decode cX4_goOn 35 = .ok (.iload 4, 2) := by decide +kernel
theorem dX4_goOn_37 : decode cX4_goOn 37 = .ok (.bipush 64, 2) := by decide +kernel
theorem dX4_goOn_39 : decode cX4_goOn 39 = .ok (.imul, 1) := by decide +kernel
theorem dX4_goOn_40 : decode cX4_goOn 40 = .ok (.bipush 64, 2) := by decide +kernel
theorem dX4_goOn_42 : decode cX4_goOn 42 = .ok (.iadd, 1) := by decide +kernel
theorem dX4_goOn_43 : decode cX4_goOn 43 = .ok (.if_icmp .ge 30, 3) := by decide +kernel
theorem dX4_goOn_46 : decode cX4_goOn 46 = .ok (.aload_n 0, 1) := by decide +kernel
theorem dX4_goOn_47 : decode cX4_goOn 47 = .ok (.getfield 18, 3) := by decide +kernel
theorem dX4_goOn_50 : decode cX4_goOn 50 = .ok (.iload 5, 2) := by decide +kernel
theorem dX4_goOn_52 : decode cX4_goOn 52 = .ok (.invokevirtual 45, 3) := by decide +kernel
theorem dX4_goOn_55 : decode cX4_goOn 55 = .ok (.ifCond .eq 12, 3) := by decide +kernel
theorem dX4_goOn_58 : decode cX4_goOn 58 = .ok (.aload_n 0, 1) := by decide +kernel
theorem dX4_goOn_59 : decode cX4_goOn 59 = .ok (.aload_n 1, 1) := by decide +kernel
theorem dX4_goOn_60 : decode cX4_goOn 60 = .ok (.iload 5, 2) := by decide +kernel
theorem dX4_goOn_62 : decode cX4_goOn 62 = .ok (.iload_n 2, 1) := by decide +kernel
theorem dX4_goOn_63 : decode cX4_goOn 63 = .ok (.iload_n 3, 1) := by decide +kernel
theorem dX4_goOn_64 : decode cX4_goOn 64 = .ok (.invokevirtual 52, 3) := by decide +kernel
theorem dX4_goOn_67 : decode cX4_goOn 67 = .ok (.iinc 5 1, 3) := by decide +kernel
theorem dX4_goOn_70 : decode cX4_goOn 70 = .ok (.goto (-37), 3) := by decide +kernel
theorem dX4_goOn_73 : decode cX4_goOn 73 = .ok (.iinc 4 1, 3) := by decide +kernel
theorem dX4_goOn_76 : decode cX4_goOn 76 = .ok (.goto (-73), 3) := by decide +kernel
theorem dX4_goOn_79 : decode cX4_goOn 79 = .ok (.return_, 1) := by decide +kernel
theorem dX4_goOnFrom_0 : decode cX4_goOnFrom 0 = .ok (.iconst 0, 1) := by decide +kernel
theorem dX4_goOnFrom_1 : decode cX4_goOnFrom 1 = .ok (.istore 5, 2) := by decide +kernel
theorem dX4_goOnFrom_3 : decode cX4_goOnFrom 3 = .ok (.iload 5, 2) := by decide +kernel
theorem dX4_goOnFrom_5 : decode cX4_goOnFrom 5 = .ok (.bipush 30, 2) := by decide +kernel
theorem dX4_goOnFrom_7 : decode cX4_goOnFrom 7 = .ok (.if_icmp .ge 83, 3) := by decide +kernel
theorem dX4_goOnFrom_10 : decode cX4_goOnFrom 10 = .ok (.iload_n 2, 1) := by decide +kernel
theorem dX4_goOnFrom_11 : decode cX4_goOnFrom 11 = .ok (.iload 5, 2) := by decide +kernel
theorem dX4_goOnFrom_13 : decode cX4_goOnFrom 13 = .ok (.iconst 5, 1) := by decide +kernel
theorem dX4_goOnFrom_14 : decode cX4_goOnFrom 14 = .ok (.idiv, 1) := by decide +kernel
theorem dX4_goOnFrom_15 : decode cX4_goOnFrom 15 = .ok (.iload 5, 2) := by decide +kernel
theorem dX4_goOnFrom_17 : decode cX4_goOnFrom 17 = .ok (.iconst 5, 1) := by decide +kernel
theorem dX4_goOnFrom_18 : decode cX4_goOnFrom 18 = .ok (.irem, 1) := by decide +kernel
theorem dX4_goOnFrom_19 : decode cX4_goOnFrom 19 = .ok (.invokestatic 56, 3) := by decide +kernel
theorem dX4_goOnFrom_22 : decode cX4_goOnFrom 22 = .ok (.istore 6, 2) := by decide +kernel
theorem dX4_goOnFrom_24 : decode cX4_goOnFrom 24 = .ok (.iload 6, 2) := by decide +kernel
theorem dX4_goOnFrom_26 : decode cX4_goOnFrom 26 = .ok (.iload_n 3, 1) := by decide +kernel
theorem dX4_goOnFrom_27 : decode cX4_goOnFrom 27 = .ok (.invokestatic 24, 3) := by decide +kernel
theorem dX4_goOnFrom_30 : decode cX4_goOnFrom 30 = .ok (.iload 4, 2) := by decide +kernel
theorem dX4_goOnFrom_32 : decode cX4_goOnFrom 32 = .ok (.if_icmp .gt 52, 3) := by decide +kernel
theorem dX4_goOnFrom_35 : decode cX4_goOnFrom 35 = .ok (.aload_n 0, 1) := by decide +kernel
theorem dX4_goOnFrom_36 : decode cX4_goOnFrom 36 = .ok (.getfield 12, 3) := by decide +kernel
theorem dX4_goOnFrom_39 : decode cX4_goOnFrom 39 = .ok (.iload 6, 2) := by decide +kernel
theorem dX4_goOnFrom_41 : decode cX4_goOnFrom 41 = .ok (.invokevirtual 45, 3) := by decide +kernel
theorem dX4_goOnFrom_44 : decode cX4_goOnFrom 44 = .ok (.ifCond .eq 6, 3) := by decide +kernel
theorem dX4_goOnFrom_47 : decode cX4_goOnFrom 47 = .ok (.goto 37, 3) := by decide +kernel
theorem dX4_goOnFrom_50 : decode cX4_goOnFrom 50 = .ok (.iload 6, 2) := by decide +kernel
theorem dX4_goOnFrom_52 : decode cX4_goOnFrom 52 = .ok (.iload_n 3, 1) := by decide +kernel
theorem dX4_goOnFrom_53 : decode cX4_goOnFrom 53 = .ok (.if_icmp .eq 13, 3) := by decide +kernel
theorem dX4_goOnFrom_56 : decode cX4_goOnFrom 56 = .ok (.aload_n 1, 1) := by decide +kernel
theorem dX4_goOnFrom_57 : decode cX4_goOnFrom 57 = .ok (.iload 6, 2) := by decide +kernel
theorem dX4_goOnFrom_59 : decode cX4_goOnFrom 59 = .ok (.invokevirtual 60, 3) := by decide +kernel
theorem dX4_goOnFrom_62 : decode cX4_goOnFrom 62 = .ok (.iconst (-1), 1) := by decide +kernel
theorem dX4_goOnFrom_63 : decode cX4_goOnFrom 63 = .ok (.if_icmp .ne 21, 3) := by decide +kernel
theorem dX4_goOnFrom_66 : decode cX4_goOnFrom 66 = .ok (.aload_n 0, 1) := by decide +kernel
theorem dX4_goOnFrom_67 : decode cX4_goOnFrom 67 = .ok (.getfield 12, 3) := by decide +kernel
theorem dX4_goOnFrom_70 : decode cX4_goOnFrom 70 = .ok (.iload 6, 2) := by decide +kernel
theorem dX4_goOnFrom_72 : decode cX4_goOnFrom 72 = .ok (.invokevirtual 37, 3) := by decide +kernel
theorem dX4_goOnFrom_75 : decode cX4_goOnFrom 75 = .ok (.aload_n 0, 1) := by decide +kernel
theorem dX4_goOnFrom_76 : decode cX4_goOnFrom 76 = .ok (.getfield 21, 3) := by decide +kernel
theorem dX4_goOnFrom_79 : decode cX4_goOnFrom 79 = .ok (.iload 6, 2) := by decide +kernel
theorem dX4_goOnFrom_81 : decode cX4_goOnFrom 81 = .ok (.invokevirtual 37, 3) := by decide +kernel
theorem dX4_goOnFrom_84 : decode cX4_goOnFrom 84 = .ok (.iinc 5 1, 3) := by decide +kernel
theorem dX4_goOnFrom_87 : decode cX4_goOnFrom 87 = .ok (.goto (-84), 3) := by decide +kernel
theorem dX4_goOnFrom_90 : decode cX4_goOnFrom 90 = .ok (.return_, 1) := by decide +kernel
theorem dX5_init_0 : decode cX5_init 0 = .ok (.aload_n 0, 1) := by decide +kernel
theorem dX5_init_1 : decode cX5_init 1 = .ok (.invokespecial 3, 3) := by decide +kernel
theorem dX5_init_4 : decode cX5_init 4 = .ok (.aload_n 0, 1) := by decide +kernel
theorem dX5_init_5 : decode cX5_init 5 = .ok (.bipush 60, 2) := by decide +kernel
theorem dX5_init_7 : decode cX5_init 7 = .ok (.newarray .int, 2) := by decide +kernel
theorem dX5_init_9 : decode cX5_init 9 = .ok (.putfield 11, 3) := by decide +kernel
theorem dX5_init_12 : decode cX5_init 12 = .ok (.aload_n 0, 1) := by decide +kernel
theorem dX5_init_13 : decode cX5_init 13 = .ok (.iconst 0, 1) := by decide +kernel
theorem dX5_init_14 : decode cX5_init 14 = .ok (.putfield 15, 3) := by decide +kernel
theorem dX5_init_17 : decode cX5_init 17 = .ok (.return_, 1) := by decide +kernel
theorem dX5_length_0 : decode cX5_length 0 = .ok (.aload_n 0, 1) := by decide +kernel
theorem dX5_length_1 : decode cX5_length 1 = .ok (.getfield 15, 3) := by decide +kernel
theorem dX5_length_4 : decode cX5_length 4 = .ok (.ireturn, 1) := by decide +kernel
theorem dX5_isFull_0 : decode cX5_isFull 0 = .ok (.aload_n 0, 1) := by decide +kernel
theorem dX5_isFull_1 : decode cX5_isFull 1 = .ok (.getfield 15, 3) := by decide +kernel
theorem dX5_isFull_4 : decode cX5_isFull 4 = .ok (.bipush 60, 2) := by decide +kernel
theorem dX5_isFull_6 : decode cX5_isFull 6 = .ok (.if_icmp .lt 7, 3) := by decide +kernel
theorem dX5_isFull_9 : decode cX5_isFull 9 = .ok (.iconst 1, 1) := by decide +kernel
theorem dX5_isFull_10 : decode cX5_isFull 10 = .ok (.goto 4, 3) := by decide +kernel
theorem dX5_isFull_13 : decode cX5_isFull 13 = .ok (.iconst 0, 1) := by decide +kernel
theorem dX5_isFull_14 : decode cX5_isFull 14 = .ok (.ireturn, 1) := by decide +kernel
theorem dX5_put_0 : decode cX5_put 0 = .ok (.aload_n 0, 1) := by decide +kernel
theorem dX5_put_1 : decode cX5_put 1 = .ok (.getfield 15, 3) := by decide +kernel
theorem dX5_put_4 : decode cX5_put 4 = .ok (.ifCond .lt 32, 3) := by decide +kernel
theorem dX5_put_7 : decode cX5_put 7 = .ok (.aload_n 0, 1) := by decide +kernel
theorem dX5_put_8 : decode cX5_put 8 = .ok (.getfield 15, 3) := by decide +kernel
theorem dX5_put_11 : decode cX5_put 11 = .ok (.bipush 60, 2) := by decide +kernel
theorem dX5_put_13 : decode cX5_put 13 = .ok (.if_icmp .ge 23, 3) := by decide +kernel
theorem dX5_put_16 : decode cX5_put 16 = .ok (.aload_n 0, 1) := by decide +kernel
theorem dX5_put_17 : decode cX5_put 17 = .ok (.getfield 11, 3) := by decide +kernel
theorem dX5_put_20 : decode cX5_put 20 = .ok (.aload_n 0, 1) := by decide +kernel
theorem dX5_put_21 : decode cX5_put 21 = .ok (.getfield 15, 3) := by decide +kernel
theorem dX5_put_24 : decode cX5_put 24 = .ok (.iload_n 1, 1) := by decide +kernel
theorem dX5_put_25 : decode cX5_put 25 = .ok (.iastore, 1) := by decide +kernel
theorem dX5_put_26 : decode cX5_put 26 = .ok (.aload_n 0, 1) := by decide +kernel
theorem dX5_put_27 : decode cX5_put 27 = .ok (.dup, 1) := by decide +kernel
theorem dX5_put_28 : decode cX5_put 28 = .ok (.getfield 15, 3) := by decide +kernel
theorem dX5_put_31 : decode cX5_put 31 = .ok (.iconst 1, 1) := by decide +kernel
theorem dX5_put_32 : decode cX5_put 32 = .ok (.iadd, 1) := by decide +kernel
theorem dX5_put_33 : decode cX5_put 33 = .ok (.putfield 15, 3) := by decide +kernel
theorem dX5_put_36 : decode cX5_put 36 = .ok (.return_, 1) := by decide +kernel
theorem dX5_empty_0 : decode cX5_empty 0 = .ok (.aload_n 0, 1) := by decide +kernel
theorem dX5_empty_1 : decode cX5_empty 1 = .ok (.iconst 0, 1) := by decide +kernel
theorem dX5_empty_2 : decode cX5_empty 2 = .ok (.putfield 15, 3) := by decide +kernel
theorem dX5_empty_5 : decode cX5_empty 5 = .ok (.return_, 1) := by decide +kernel
theorem dX5_signAt_0 : decode cX5_signAt 0 = .ok (.iload_n 1, 1) := by decide +kernel
theorem dX5_signAt_1 : decode cX5_signAt 1 = .ok (.ifCond .lt 26, 3) := by decide +kernel
theorem dX5_signAt_4 : decode cX5_signAt 4 = .ok (.iload_n 1, 1) := by decide +kernel
theorem dX5_signAt_5 : decode cX5_signAt 5 = .ok (.aload_n 0, 1) := by decide +kernel
theorem dX5_signAt_6 : decode cX5_signAt 6 = .ok (.getfield 15, 3) := by decide +kernel
theorem dX5_signAt_9 : decode cX5_signAt 9 = .ok (.if_icmp .ge 18, 3) := by decide +kernel
theorem dX5_signAt_12 : decode cX5_signAt 12 = .ok (.iload_n 1, 1) := by decide +kernel
theorem dX5_signAt_13 : decode cX5_signAt 13 = .ok (.bipush 60, 2) := by decide +kernel
theorem dX5_signAt_15 : decode cX5_signAt 15 = .ok (.if_icmp .ge 12, 3) := by decide +kernel
theorem dX5_signAt_18 : decode cX5_signAt 18 = .ok (.aload_n 0, 1) := by decide +kernel
theorem dX5_signAt_19 : decode cX5_signAt 19 = .ok (.getfield 11, 3) := by decide +kernel
theorem dX5_signAt_22 : decode cX5_signAt 22 = .ok (.iload_n 1, 1) := by decide +kernel
theorem dX5_signAt_23 : decode cX5_signAt 23 = .ok (.iaload, 1) := by decide +kernel
theorem dX5_signAt_24 : decode cX5_signAt 24 = .ok (.goto 4, 3) := by decide +kernel
theorem dX5_signAt_27 : decode cX5_signAt 27 = .ok (.iconst 0, 1) := by decide +kernel
theorem dX5_signAt_28 : decode cX5_signAt 28 = .ok (.ireturn, 1) := by decide +kernel
theorem dX5_startsDeed_0 : decode cX5_startsDeed 0 = .ok (.iload_n 1, 1) := by decide +kernel
theorem dX5_startsDeed_1 : decode cX5_startsDeed 1 = .ok (.ifCond .eq 15, 3) := by decide +kernel
theorem dX5_startsDeed_4 : decode cX5_startsDeed 4 = .ok (.aload_n 0, 1) := by decide +kernel
theorem dX5_startsDeed_5 : decode cX5_startsDeed 5 = .ok (.iload_n 1, 1) := by decide +kernel
theorem dX5_startsDeed_6 : decode cX5_startsDeed 6 = .ok (.iconst 1, 1) := by decide +kernel
theorem dX5_startsDeed_7 : decode cX5_startsDeed 7 = .ok (.isub, 1) := by decide +kernel
theorem dX5_startsDeed_8 : decode cX5_startsDeed 8 = .ok (.invokevirtual 19, 3) := by decide +kernel
theorem dX5_startsDeed_11 : decode cX5_startsDeed 11 = .ok (.bipush 59, 2) := by decide +kernel
theorem dX5_startsDeed_13 : decode cX5_startsDeed 13 = .ok (.if_icmp .ne 7, 3) := by decide +kernel
theorem dX5_startsDeed_16 : decode cX5_startsDeed 16 = .ok (.iconst 1, 1) := by decide +kernel
theorem dX5_startsDeed_17 : decode cX5_startsDeed 17 = .ok (.goto 4, 3) := by decide +kernel
theorem dX5_startsDeed_20 : decode cX5_startsDeed 20 = .ok (.iconst 0, 1) := by decide +kernel
theorem dX5_startsDeed_21 : decode cX5_startsDeed 21 = .ok (.ireturn, 1) := by decide +kernel
end
section
theorem dX5_digitAt_0 : decode cX5_digitAt 0 = .ok (.aload_n 0, 1) := by decide +kernel
theorem dX5_digitAt_1 : decode cX5_digitAt 1 = .ok (.iload_n 1, 1) := by decide +kernel
theorem dX5_digitAt_2 : decode cX5_digitAt 2 = .ok (.invokevirtual 19, 3) := by decide +kernel
theorem dX5_digitAt_5 : decode cX5_digitAt 5 = .ok (.bipush 48, 2) := by decide +kernel
theorem dX5_digitAt_7 : decode cX5_digitAt 7 = .ok (.isub, 1) := by decide +kernel
theorem dX5_digitAt_8 : decode cX5_digitAt 8 = .ok (.ireturn, 1) := by decide +kernel
theorem dX5_afterNumber_0 : decode cX5_afterNumber 0 = .ok (.aload_n 0, 1) := by decide +kernel
theorem dX5_afterNumber_1 : decode cX5_afterNumber 1 = .ok (.iload_n 1, 1) := by decide +kernel
theorem dX5_afterNumber_2 : decode cX5_afterNumber 2 = .ok (.iconst 1, 1) := by decide +kernel
theorem dX5_afterNumber_3 : decode cX5_afterNumber 3 = .ok (.iadd, 1) := by decide +kernel
theorem dX5_afterNumber_4 : decode cX5_afterNumber 4 = .ok (.invokevirtual 19, 3) := by decide +kernel
theorem dX5_afterNumber_7 : decode cX5_afterNumber 7 = .ok (.bipush 48, 2) := by decide +kernel
theorem dX5_afterNumber_9 : decode cX5_afterNumber 9 = .ok (.bipush 57, 2) := by decide +kernel
theorem dX5_afterNumber_11 : decode cX5_afterNumber 11 = .ok (.invokestatic 23, 3) := by decide +kernel
theorem dX5_afterNumber_14 : decode cX5_afterNumber 14 = .ok (.ifCond .eq 9, 3) := by decide +kernel
theorem dX5_afterNumber_17 : decode cX5_afterNumber 17 = .ok (.iload_n 1, 1) := by decide +kernel
theorem dX5_afterNumber_18 : decode cX5_afterNumber 18 = .ok (.iconst 2, 1) := by decide +kernel
theorem dX5_afterNumber_19 : decode cX5_afterNumber 19 = .ok (.iadd, 1) := by decide +kernel
theorem dX5_afterNumber_20 : decode cX5_afterNumber 20 = .ok (.goto 6, 3) := by decide +kernel
theorem dX5_afterNumber_23 : decode cX5_afterNumber 23 = .ok (.iload_n 1, 1) := by decide +kernel
theorem dX5_afterNumber_24 : decode cX5_afterNumber 24 = .ok (.iconst 1, 1) := by decide +kernel
theorem dX5_afterNumber_25 : decode cX5_afterNumber 25 = .ok (.iadd, 1) := by decide +kernel
theorem dX5_afterNumber_26 : decode cX5_afterNumber 26 = .ok (.ireturn, 1) := by decide +kernel
theorem dX5_numberAt_0 : decode cX5_numberAt 0 = .ok (.aload_n 0, 1) := by decide +kernel
theorem dX5_numberAt_1 : decode cX5_numberAt 1 = .ok (.iload_n 1, 1) := by decide +kernel
theorem dX5_numberAt_2 : decode cX5_numberAt 2 = .ok (.iconst 1, 1) := by decide +kernel
theorem dX5_numberAt_3 : decode cX5_numberAt 3 = .ok (.iadd, 1) := by decide +kernel
theorem dX5_numberAt_4 : decode cX5_numberAt 4 = .ok (.invokevirtual 19, 3) := by decide +kernel
theorem dX5_numberAt_7 : decode cX5_numberAt 7 = .ok (.bipush 48, 2) := by decide +kernel
theorem dX5_numberAt_9 : decode cX5_numberAt 9 = .ok (.bipush 57, 2) := by decide +kernel
theorem dX5_numberAt_11 : decode cX5_numberAt 11 = .ok (.invokestatic 23, 3) := by decide +kernel
theorem dX5_numberAt_14 : decode cX5_numberAt 14 = .ok (.ifCond .eq 22, 3) := by decide +kernel
theorem dX5_numberAt_17 : decode cX5_numberAt 17 = .ok (.bipush 10, 2) := by decide +kernel
theorem dX5_numberAt_19 : decode cX5_numberAt 19 = .ok (.aload_n 0, 1) := by decide +kernel
theorem dX5_numberAt_20 : decode cX5_numberAt 20 = .ok (.iload_n 1, 1) := by decide +kernel
theorem dX5_numberAt_21 : decode cX5_numberAt 21 = .ok (.invokevirtual 27, 3) := by decide +kernel
theorem dX5_numberAt_24 : decode cX5_numberAt 24 = .ok (.imul, 1) := by decide +kernel
theorem dX5_numberAt_25 : decode cX5_numberAt 25 = .ok (.aload_n 0, 1) := by decide +kernel
theorem dX5_numberAt_26 : decode cX5_numberAt 26 = .ok (.iload_n 1, 1) := by decide +kernel
theorem dX5_numberAt_27 : decode cX5_numberAt 27 = .ok (.iconst 1, 1) := by decide +kernel
theorem dX5_numberAt_28 : decode cX5_numberAt 28 = .ok (.iadd, 1) := by decide +kernel
theorem dX5_numberAt_29 : decode cX5_numberAt 29 = .ok (.invokevirtual 27, 3) := by decide +kernel
theorem dX5_numberAt_32 : decode cX5_numberAt 32 = .ok (.iadd, 1) := by decide +kernel
theorem dX5_numberAt_33 : decode cX5_numberAt 33 = .ok (.goto 8, 3) := by decide +kernel
theorem dX5_numberAt_36 : decode cX5_numberAt 36 = .ok (.aload_n 0, 1) := by decide +kernel
theorem dX5_numberAt_37 : decode cX5_numberAt 37 = .ok (.iload_n 1, 1) := by decide +kernel
theorem dX5_numberAt_38 : decode cX5_numberAt 38 = .ok (.invokevirtual 27, 3) := by decide +kernel
theorem dX5_numberAt_41 : decode cX5_numberAt 41 = .ok (.ireturn, 1) := by decide +kernel
theorem dX5_shieldAt_0 : decode cX5_shieldAt 0 = .ok (.iconst 0, 1) := by decide +kernel
theorem dX5_shieldAt_1 : decode cX5_shieldAt 1 = .ok (.istore_n 2, 1) := by decide +kernel
theorem dX5_shieldAt_2 : decode cX5_shieldAt 2 = .ok (.iconst 0, 1) := by decide +kernel
theorem dX5_shieldAt_3 : decode cX5_shieldAt 3 = .ok (.istore_n 3, 1) := by decide +kernel
theorem dX5_shieldAt_4 : decode cX5_shieldAt 4 = .ok (.iload_n 3, 1) := by decide +kernel
theorem dX5_shieldAt_5 : decode cX5_shieldAt 5 = .ok (.bipush 6, 2) := by decide +kernel
theorem dX5_shieldAt_7 : decode cX5_shieldAt 7 = .ok (.if_icmp .ge 24, 3) := by decide +kernel
theorem dX5_shieldAt_10 : decode cX5_shieldAt 10 = .ok (.iload_n 2, 1) := by decide +kernel
theorem dX5_shieldAt_11 : decode cX5_shieldAt 11 = .ok (.aload_n 0, 1) := by decide +kernel
theorem dX5_shieldAt_12 : decode cX5_shieldAt 12 = .ok (.iload_n 1, 1) := by decide +kernel
theorem dX5_shieldAt_13 : decode cX5_shieldAt 13 = .ok (.iload_n 3, 1) := by decide +kernel
theorem dX5_shieldAt_14 : decode cX5_shieldAt 14 = .ok (.iadd, 1) := by decide +kernel
theorem dX5_shieldAt_15 : decode cX5_shieldAt 15 = .ok (.invokevirtual 27, 3) := by decide +kernel
theorem dX5_shieldAt_18 : decode cX5_shieldAt 18 = .ok (.iload_n 3, 1) := by decide +kernel
theorem dX5_shieldAt_19 : decode cX5_shieldAt 19 = .ok (.invokestatic 30, 3) := by decide +kernel
theorem dX5_shieldAt_22 : decode cX5_shieldAt 22 = .ok (.imul, 1) := by decide +kernel
theorem dX5_shieldAt_23 : decode cX5_shieldAt 23 = .ok (.iadd, 1) := by decide +kernel
theorem dX5_shieldAt_24 : decode cX5_shieldAt 24 = .ok (.istore_n 2, 1) := by decide +kernel
theorem dX5_shieldAt_25 : decode cX5_shieldAt 25 = .ok (.iinc 3 1, 3) := by decide +kernel
theorem dX5_shieldAt_28 : decode cX5_shieldAt 28 = .ok (.goto (-24), 3) := by decide +kernel
theorem dX5_shieldAt_31 : decode cX5_shieldAt 31 = .ok (.iload_n 2, 1) := by decide +kernel
theorem dX5_shieldAt_32 : decode cX5_shieldAt 32 = .ok (.ireturn, 1) := by decide +kernel
theorem dX5_firstFault_0 : decode cX5_firstFault 0 = .ok (.bipush 7, 2) := by decide +kernel
theorem dX5_firstFault_2 : decode cX5_firstFault 2 = .ok (.istore_n 1, 1) := by decide +kernel
theorem dX5_firstFault_3 : decode cX5_firstFault 3 = .ok (.iconst 0, 1) := by decide +kernel
theorem dX5_firstFault_4 : decode cX5_firstFault 4 = .ok (.istore_n 2, 1) := by decide +kernel
theorem dX5_firstFault_5 : decode cX5_firstFault 5 = .ok (.iload_n 2, 1) := by decide +kernel
theorem dX5_firstFault_6 : decode cX5_firstFault 6 = .ok (.aload_n 0, 1) := by decide +kernel
theorem dX5_firstFault_7 : decode cX5_firstFault 7 = .ok (.getfield 15, 3) := by decide +kernel
theorem dX5_firstFault_10 : decode cX5_firstFault 10 = .ok (.if_icmp .ge 26, 3) := by decide +kernel
theorem dX5_firstFault_13 : decode cX5_firstFault 13 = .ok (.iload_n 1, 1) := by decide +kernel
theorem dX5_firstFault_14 : decode cX5_firstFault 14 = .ok (.aload_n 0, 1) := by decide +kernel
theorem dX5_firstFault_15 : decode cX5_firstFault 15 = .ok (.iload_n 2, 1) := by decide +kernel
theorem dX5_firstFault_16 : decode cX5_firstFault 16 = .ok (.invokevirtual 19, 3) := by decide +kernel
theorem dX5_firstFault_19 : decode cX5_firstFault 19 = .ok (.invokestatic 35, 3) := by decide +kernel
theorem dX5_firstFault_22 : decode cX5_firstFault 22 = .ok (.istore_n 1, 1) := by decide +kernel
theorem dX5_firstFault_23 : decode cX5_firstFault 23 = .ok (.iload_n 1, 1) := by decide +kernel
theorem dX5_firstFault_24 : decode cX5_firstFault 24 = .ok (.iconst (-1), 1) := by decide +kernel
theorem dX5_firstFault_25 : decode cX5_firstFault 25 = .ok (.if_icmp .ne 5, 3) := by decide +kernel
theorem dX5_firstFault_28 : decode cX5_firstFault 28 = .ok (.iload_n 2, 1) := by decide +kernel
theorem dX5_firstFault_29 : decode cX5_firstFault 29 = .ok (.ireturn, 1) := by decide +kernel
theorem dX5_firstFault_30 : decode cX5_firstFault 30 = .ok (.iinc 2 1, 3) := by decide +kernel
theorem dX5_firstFault_33 : decode cX5_firstFault 33 = .ok (.goto (-28), 3) := by decide +kernel
theorem dX5_firstFault_36 : decode cX5_firstFault 36 = .ok (.iload_n 1, 1) := by decide +kernel
theorem dX5_firstFault_37 : decode cX5_firstFault 37 = .ok (.ifCond .eq 9, 3) := by decide +kernel
theorem dX5_firstFault_40 : decode cX5_firstFault 40 = .ok (.iload_n 1, 1) := by decide +kernel
theorem dX5_firstFault_41 : decode cX5_firstFault 41 = .ok (.bipush 14, 2) := by decide +kernel
theorem dX5_firstFault_43 : decode cX5_firstFault 43 = .ok (.if_icmp .ne 8, 3) := by decide +kernel
theorem dX5_firstFault_46 : decode cX5_firstFault 46 = .ok (.bipush (-4), 2) := by decide +kernel
theorem dX5_firstFault_48 : decode cX5_firstFault 48 = .ok (.goto 7, 3) := by decide +kernel
theorem dX5_firstFault_51 : decode cX5_firstFault 51 = .ok (.aload_n 0, 1) := by decide +kernel
theorem dX5_firstFault_52 : decode cX5_firstFault 52 = .ok (.getfield 15, 3) := by decide +kernel
theorem dX5_firstFault_55 : decode cX5_firstFault 55 = .ok (.ireturn, 1) := by decide +kernel
theorem dX5_stateAfter_0 : decode cX5_stateAfter 0 = .ok (.iload_n 0, 1) := by decide +kernel
theorem dX5_stateAfter_1 : decode cX5_stateAfter 1 = .ok (.tableswitch 178 0 14 #[75, 178, 178, 178, 178, 178, 178, 80, 85, 94, 115, 120, 138, 150, 158], 75) := by decide +kernel
theorem dX5_stateAfter_76 : decode cX5_stateAfter 76 = .ok (.iload_n 1, 1) := by decide +kernel
theorem dX5_stateAfter_77 : decode cX5_stateAfter 77 = .ok (.invokestatic 39, 3) := by decide +kernel
theorem dX5_stateAfter_80 : decode cX5_stateAfter 80 = .ok (.ireturn, 1) := by decide +kernel
theorem dX5_stateAfter_81 : decode cX5_stateAfter 81 = .ok (.iload_n 1, 1) := by decide +kernel
theorem dX5_stateAfter_82 : decode cX5_stateAfter 82 = .ok (.invokestatic 42, 3) := by decide +kernel
theorem dX5_stateAfter_85 : decode cX5_stateAfter 85 = .ok (.ireturn, 1) := by decide +kernel
theorem dX5_stateAfter_86 : decode cX5_stateAfter 86 = .ok (.iload_n 1, 1) := by decide +kernel
theorem dX5_stateAfter_87 : decode cX5_stateAfter 87 = .ok (.bipush 9, 2) := by decide +kernel
theorem dX5_stateAfter_89 : decode cX5_stateAfter 89 = .ok (.bipush 10, 2) := by decide +kernel
theorem dX5_stateAfter_91 : decode cX5_stateAfter 91 = .ok (.invokestatic 45, 3) := by decide +kernel
theorem dX5_stateAfter_94 : decode cX5_stateAfter 94 = .ok (.ireturn, 1) := by decide +kernel
theorem dX5_stateAfter_95 : decode cX5_stateAfter 95 = .ok (.iload_n 1, 1) := by decide +kernel
theorem dX5_stateAfter_96 : decode cX5_stateAfter 96 = .ok (.bipush 48, 2) := by decide +kernel
theorem dX5_stateAfter_98 : decode cX5_stateAfter 98 = .ok (.bipush 57, 2) := by decide +kernel
theorem dX5_stateAfter_100 : decode cX5_stateAfter 100 = .ok (.invokestatic 23, 3) := by decide +kernel
theorem dX5_stateAfter_103 : decode cX5_stateAfter 103 = .ok (.ifCond .eq 8, 3) := by decide +kernel
theorem dX5_stateAfter_106 : decode cX5_stateAfter 106 = .ok (.bipush 10, 2) := by decide +kernel
theorem dX5_stateAfter_108 : decode cX5_stateAfter 108 = .ok (.goto 7, 3) := by decide +kernel
theorem dX5_stateAfter_111 : decode cX5_stateAfter 111 = .ok (.iload_n 1, 1) := by decide +kernel
theorem dX5_stateAfter_112 : decode cX5_stateAfter 112 = .ok (.invokestatic 49, 3) := by decide +kernel
theorem dX5_stateAfter_115 : decode cX5_stateAfter 115 = .ok (.ireturn, 1) := by decide +kernel
theorem dX5_stateAfter_116 : decode cX5_stateAfter 116 = .ok (.iload_n 1, 1) := by decide +kernel
theorem dX5_stateAfter_117 : decode cX5_stateAfter 117 = .ok (.invokestatic 49, 3) := by decide +kernel
theorem dX5_stateAfter_120 : decode cX5_stateAfter 120 = .ok (.ireturn, 1) := by decide +kernel
theorem dX5_stateAfter_121 : decode cX5_stateAfter 121 = .ok (.iload_n 1, 1) := by decide +kernel
theorem dX5_stateAfter_122 : decode cX5_stateAfter 122 = .ok (.bipush 48, 2) := by decide +kernel
theorem dX5_stateAfter_124 : decode cX5_stateAfter 124 = .ok (.bipush 53, 2) := by decide +kernel
theorem dX5_stateAfter_126 : decode cX5_stateAfter 126 = .ok (.invokestatic 23, 3) := by decide +kernel
theorem dX5_stateAfter_129 : decode cX5_stateAfter 129 = .ok (.ifCond .eq 8, 3) := by decide +kernel
theorem dX5_stateAfter_132 : decode cX5_stateAfter 132 = .ok (.bipush 12, 2) := by decide +kernel
theorem dX5_stateAfter_134 : decode cX5_stateAfter 134 = .ok (.goto 4, 3) := by decide +kernel
theorem dX5_stateAfter_137 : decode cX5_stateAfter 137 = .ok (.iconst (-1), 1) := by decide +kernel
theorem dX5_stateAfter_138 : decode cX5_stateAfter 138 = .ok (.ireturn, 1) := by decide +kernel
theorem dX5_stateAfter_139 : decode cX5_stateAfter 139 = .ok (.iload_n 1, 1) := by decide +kernel
theorem dX5_stateAfter_140 : decode cX5_stateAfter 140 = .ok (.bipush 61, 2) := by decide +kernel
theorem dX5_stateAfter_142 : decode cX5_stateAfter 142 = .ok (.if_icmp .ne 7, 3) := by decide +kernel
theorem dX5_stateAfter_145 : decode cX5_stateAfter 145 = .ok (.iconst 1, 1) := by decide +kernel
theorem dX5_stateAfter_146 : decode cX5_stateAfter 146 = .ok (.goto 4, 3) := by decide +kernel
theorem dX5_stateAfter_149 : decode cX5_stateAfter 149 = .ok (.iconst (-1), 1) := by decide +kernel
theorem dX5_stateAfter_150 : decode cX5_stateAfter 150 = .ok (.ireturn, 1) := by decide +kernel
theorem dX5_stateAfter_151 : decode cX5_stateAfter 151 = .ok (.iload_n 1, 1) := by decide +kernel
theorem dX5_stateAfter_152 : decode cX5_stateAfter 152 = .ok (.bipush 14, 2) := by decide +kernel
theorem dX5_stateAfter_154 : decode cX5_stateAfter 154 = .ok (.iconst 0, 1) := by decide +kernel
theorem dX5_stateAfter_155 : decode cX5_stateAfter 155 = .ok (.invokestatic 45, 3) := by decide +kernel
theorem dX5_stateAfter_158 : decode cX5_stateAfter 158 = .ok (.ireturn, 1) := by decide +kernel
theorem dX5_stateAfter_159 : decode cX5_stateAfter 159 = .ok (.iload_n 1, 1) := by decide +kernel
theorem dX5_stateAfter_160 : decode cX5_stateAfter 160 = .ok (.bipush 48, 2) := by decide +kernel
theorem dX5_stateAfter_162 : decode cX5_stateAfter 162 = .ok (.bipush 57, 2) := by decide +kernel
theorem dX5_stateAfter_164 : decode cX5_stateAfter 164 = .ok (.invokestatic 23, 3) := by decide +kernel
theorem dX5_stateAfter_167 : decode cX5_stateAfter 167 = .ok (.ifCond .eq 7, 3) := by decide +kernel
theorem dX5_stateAfter_170 : decode cX5_stateAfter 170 = .ok (.iconst 0, 1) := by decide +kernel
theorem dX5_stateAfter_171 : decode cX5_stateAfter 171 = .ok (.goto 7, 3) := by decide +kernel
theorem dX5_stateAfter_174 : decode cX5_stateAfter 174 = .ok (.iload_n 1, 1) := by decide +kernel
theorem dX5_stateAfter_175 : decode cX5_stateAfter 175 = .ok (.invokestatic 39, 3) := by decide +kernel
theorem dX5_stateAfter_178 : decode cX5_stateAfter 178 = .ok (.ireturn, 1) := by decide +kernel
theorem dX5_stateAfter_179 : decode cX5_stateAfter 179 = .ok (.iload_n 1, 1) := by decide +kernel
theorem dX5_stateAfter_180 : decode cX5_stateAfter 180 = .ok (.bipush 48, 2) := by decide +kernel
theorem dX5_stateAfter_182 : decode cX5_stateAfter 182 = .ok (.bipush 52, 2) := by decide +kernel
theorem dX5_stateAfter_184 : decode cX5_stateAfter 184 = .ok (.invokestatic 23, 3) := by decide +kernel
theorem dX5_stateAfter_187 : decode cX5_stateAfter 187 = .ok (.ifCond .eq 9, 3) := by decide +kernel
theorem dX5_stateAfter_190 : decode cX5_stateAfter 190 = .ok (.iload_n 0, 1) := by decide +kernel
theorem dX5_stateAfter_191 : decode cX5_stateAfter 191 = .ok (.iconst 1, 1) := by decide +kernel
theorem dX5_stateAfter_192 : decode cX5_stateAfter 192 = .ok (.isub, 1) := by decide +kernel
theorem dX5_stateAfter_193 : decode cX5_stateAfter 193 = .ok (.goto 4, 3) := by decide +kernel
theorem dX5_stateAfter_196 : decode cX5_stateAfter 196 = .ok (.iconst (-1), 1) := by decide +kernel
theorem dX5_stateAfter_197 : decode cX5_stateAfter 197 = .ok (.ireturn, 1) := by decide +kernel
theorem dX5_stateAfterLetter_0 : decode cX5_stateAfterLetter 0 = .ok (.iload_n 0, 1) := by decide +kernel
theorem dX5_stateAfterLetter_1 : decode cX5_stateAfterLetter 1 = .ok (.lookupswitch 52 #[(100, 49), (102, 43), (104, 49), (115, 46)], 43) := by decide +kernel
theorem dX5_stateAfterLetter_44 : decode cX5_stateAfterLetter 44 = .ok (.bipush 6, 2) := by decide +kernel
theorem dX5_stateAfterLetter_46 : decode cX5_stateAfterLetter 46 = .ok (.ireturn, 1) := by decide +kernel
theorem dX5_stateAfterLetter_47 : decode cX5_stateAfterLetter 47 = .ok (.bipush 8, 2) := by decide +kernel
theorem dX5_stateAfterLetter_49 : decode cX5_stateAfterLetter 49 = .ok (.ireturn, 1) := by decide +kernel
theorem dX5_stateAfterLetter_50 : decode cX5_stateAfterLetter 50 = .ok (.bipush 13, 2) := by decide +kernel
theorem dX5_stateAfterLetter_52 : decode cX5_stateAfterLetter 52 = .ok (.ireturn, 1) := by decide +kernel
theorem dX5_stateAfterLetter_53 : decode cX5_stateAfterLetter 53 = .ok (.iconst (-1), 1) := by decide +kernel
theorem dX5_stateAfterLetter_54 : decode cX5_stateAfterLetter 54 = .ok (.ireturn, 1) := by decide +kernel
theorem dX5_stateAfterFather_0 : decode cX5_stateAfterFather 0 = .ok (.iload_n 0, 1) := by decide +kernel
theorem dX5_stateAfterFather_1 : decode cX5_stateAfterFather 1 = .ok (.bipush 46, 2) := by decide +kernel
theorem dX5_stateAfterFather_3 : decode cX5_stateAfterFather 3 = .ok (.if_icmp .ne 8, 3) := by decide +kernel
theorem dX5_stateAfterFather_6 : decode cX5_stateAfterFather 6 = .ok (.bipush 11, 2) := by decide +kernel
theorem dX5_stateAfterFather_8 : decode cX5_stateAfterFather 8 = .ok (.goto 4, 3) := by decide +kernel
theorem dX5_stateAfterFather_11 : decode cX5_stateAfterFather 11 = .ok (.iconst (-1), 1) := by decide +kernel
theorem dX5_stateAfterFather_12 : decode cX5_stateAfterFather 12 = .ok (.ireturn, 1) := by decide +kernel
theorem dX5_stateAfterDeed_0 : decode cX5_stateAfterDeed 0 = .ok (.iload_n 0, 1) := by decide +kernel
theorem dX5_stateAfterDeed_1 : decode cX5_stateAfterDeed 1 = .ok (.bipush 59, 2) := by decide +kernel
theorem dX5_stateAfterDeed_3 : decode cX5_stateAfterDeed 3 = .ok (.if_icmp .ne 8, 3) := by decide +kernel
theorem dX5_stateAfterDeed_6 : decode cX5_stateAfterDeed 6 = .ok (.bipush 7, 2) := by decide +kernel
theorem dX5_stateAfterDeed_8 : decode cX5_stateAfterDeed 8 = .ok (.goto 4, 3) := by decide +kernel
theorem dX5_stateAfterDeed_11 : decode cX5_stateAfterDeed 11 = .ok (.iconst (-1), 1) := by decide +kernel
theorem dX5_stateAfterDeed_12 : decode cX5_stateAfterDeed 12 = .ok (.ireturn, 1) := by decide +kernel
theorem dX5_stateAfterDigit_0 : decode cX5_stateAfterDigit 0 = .ok (.iload_n 0, 1) := by decide +kernel
theorem dX5_stateAfterDigit_1 : decode cX5_stateAfterDigit 1 = .ok (.bipush 48, 2) := by decide +kernel
theorem dX5_stateAfterDigit_3 : decode cX5_stateAfterDigit 3 = .ok (.bipush 57, 2) := by decide +kernel
theorem dX5_stateAfterDigit_5 : decode cX5_stateAfterDigit 5 = .ok (.invokestatic 23, 3) := by decide +kernel
theorem dX5_stateAfterDigit_8 : decode cX5_stateAfterDigit 8 = .ok (.ifCond .ne 5, 3) := by decide +kernel
theorem dX5_stateAfterDigit_11 : decode cX5_stateAfterDigit 11 = .ok (.iconst (-1), 1) := by decide +kernel
theorem dX5_stateAfterDigit_12 : decode cX5_stateAfterDigit 12 = .ok (.ireturn, 1) := by decide +kernel
theorem dX5_stateAfterDigit_13 : decode cX5_stateAfterDigit 13 = .ok (.iload_n 0, 1) := by decide +kernel
theorem dX5_stateAfterDigit_14 : decode cX5_stateAfterDigit 14 = .ok (.bipush 49, 2) := by decide +kernel
theorem dX5_stateAfterDigit_16 : decode cX5_stateAfterDigit 16 = .ok (.if_icmp .ne 7, 3) := by decide +kernel
theorem dX5_stateAfterDigit_19 : decode cX5_stateAfterDigit 19 = .ok (.iload_n 1, 1) := by decide +kernel
theorem dX5_stateAfterDigit_20 : decode cX5_stateAfterDigit 20 = .ok (.goto 4, 3) := by decide +kernel
theorem dX5_stateAfterDigit_23 : decode cX5_stateAfterDigit 23 = .ok (.iload_n 2, 1) := by decide +kernel
theorem dX5_stateAfterDigit_24 : decode cX5_stateAfterDigit 24 = .ok (.ireturn, 1) := by decide +kernel
theorem dX5_isBetween_0 : decode cX5_isBetween 0 = .ok (.iload_n 0, 1) := by decide +kernel
theorem dX5_isBetween_1 : decode cX5_isBetween 1 = .ok (.iload_n 1, 1) := by decide +kernel
theorem dX5_isBetween_2 : decode cX5_isBetween 2 = .ok (.if_icmp .lt 12, 3) := by decide +kernel
theorem dX5_isBetween_5 : decode cX5_isBetween 5 = .ok (.iload_n 0, 1) := by decide +kernel
theorem dX5_isBetween_6 : decode cX5_isBetween 6 = .ok (.iload_n 2, 1) := by decide +kernel
theorem dX5_isBetween_7 : decode cX5_isBetween 7 = .ok (.if_icmp .gt 7, 3) := by decide +kernel
theorem dX5_isBetween_10 : decode cX5_isBetween 10 = .ok (.iconst 1, 1) := by decide +kernel
theorem dX5_isBetween_11 : decode cX5_isBetween 11 = .ok (.goto 4, 3) := by decide +kernel
theorem dX5_isBetween_14 : decode cX5_isBetween 14 = .ok (.iconst 0, 1) := by decide +kernel
theorem dX5_isBetween_15 : decode cX5_isBetween 15 = .ok (.ireturn, 1) := by decide +kernel
theorem dX6_init_0 : decode cX6_init 0 = .ok (.aload_n 0, 1) := by decide +kernel
theorem dX6_init_1 : decode cX6_init 1 = .ok (.invokespecial 3, 3) := by decide +kernel
theorem dX6_init_4 : decode cX6_init 4 = .ok (.aload_n 0, 1) := by decide +kernel
theorem dX6_init_5 : decode cX6_init 5 = .ok (.bipush 20, 2) := by decide +kernel
theorem dX6_init_7 : decode cX6_init 7 = .ok (.newarray .int, 2) := by decide +kernel
theorem dX6_init_9 : decode cX6_init 9 = .ok (.putfield 9, 3) := by decide +kernel
theorem dX6_init_12 : decode cX6_init 12 = .ok (.aload_n 0, 1) := by decide +kernel
theorem dX6_init_13 : decode cX6_init 13 = .ok (.bipush 20, 2) := by decide +kernel
theorem dX6_init_15 : decode cX6_init 15 = .ok (.newarray .boolean, 2) := by decide +kernel
theorem dX6_init_17 : decode cX6_init 17 = .ok (.putfield 15, 3) := by decide +kernel
theorem dX6_init_20 : decode cX6_init 20 = .ok (.aload_n 0, 1) := by decide +kernel
theorem dX6_init_21 : decode cX6_init 21 = .ok (.bipush 20, 2) := by decide +kernel
theorem dX6_init_23 : decode cX6_init 23 = .ok (.newarray .int, 2) := by decide +kernel
theorem dX6_init_25 : decode cX6_init 25 = .ok (.putfield 19, 3) := by decide +kernel
theorem dX6_init_28 : decode cX6_init 28 = .ok (.aload_n 0, 1) := by decide +kernel
theorem dX6_init_29 : decode cX6_init 29 = .ok (.bipush 20, 2) := by decide +kernel
theorem dX6_init_31 : decode cX6_init 31 = .ok (.newarray .int, 2) := by decide +kernel
theorem dX6_init_33 : decode cX6_init 33 = .ok (.putfield 22, 3) := by decide +kernel
theorem dX6_init_36 : decode cX6_init 36 = .ok (.aload_n 0, 1) := by decide +kernel
theorem dX6_init_37 : decode cX6_init 37 = .ok (.bipush 20, 2) := by decide +kernel
theorem dX6_init_39 : decode cX6_init 39 = .ok (.newarray .int, 2) := by decide +kernel
theorem dX6_init_41 : decode cX6_init 41 = .ok (.putfield 25, 3) := by decide +kernel
theorem dX6_init_44 : decode cX6_init 44 = .ok (.aload_n 0, 1) := by decide +kernel
theorem dX6_init_45 : decode cX6_init 45 = .ok (.iconst 0, 1) := by decide +kernel
theorem dX6_init_46 : decode cX6_init 46 = .ok (.putfield 28, 3) := by decide +kernel
theorem dX6_init_49 : decode cX6_init 49 = .ok (.aload_n 0, 1) := by decide +kernel
theorem dX6_init_50 : decode cX6_init 50 = .ok (.iconst 0, 1) := by decide +kernel
theorem dX6_init_51 : decode cX6_init 51 = .ok (.putfield 32, 3) := by decide +kernel
theorem dX6_init_54 : decode cX6_init 54 = .ok (.aload_n 0, 1) := by decide +kernel
theorem dX6_init_55 : decode cX6_init 55 = .ok (.iconst 0, 1) := by decide +kernel
theorem dX6_init_56 : decode cX6_init 56 = .ok (.putfield 35, 3) := by decide +kernel
theorem dX6_init_59 : decode cX6_init 59 = .ok (.return_, 1) := by decide +kernel
theorem dX6_copyFrom_0 : decode cX6_copyFrom 0 = .ok (.iconst 0, 1) := by decide +kernel
theorem dX6_copyFrom_1 : decode cX6_copyFrom 1 = .ok (.istore_n 2, 1) := by decide +kernel
theorem dX6_copyFrom_2 : decode cX6_copyFrom 2 = .ok (.iload_n 2, 1) := by decide +kernel
theorem dX6_copyFrom_3 : decode cX6_copyFrom 3 = .ok (.bipush 20, 2) := by decide +kernel
theorem dX6_copyFrom_5 : decode cX6_copyFrom 5 = .ok (.if_icmp .ge 69, 3) := by decide +kernel
theorem dX6_copyFrom_8 : decode cX6_copyFrom 8 = .ok (.aload_n 0, 1) := by decide +kernel
theorem dX6_copyFrom_9 : decode cX6_copyFrom 9 = .ok (.getfield 9, 3) := by decide +kernel
theorem dX6_copyFrom_12 : decode cX6_copyFrom 12 = .ok (.iload_n 2, 1) := by decide +kernel
theorem dX6_copyFrom_13 : decode cX6_copyFrom 13 = .ok (.aload_n 1, 1) := by decide +kernel
theorem dX6_copyFrom_14 : decode cX6_copyFrom 14 = .ok (.getfield 9, 3) := by decide +kernel
theorem dX6_copyFrom_17 : decode cX6_copyFrom 17 = .ok (.iload_n 2, 1) := by decide +kernel
theorem dX6_copyFrom_18 : decode cX6_copyFrom 18 = .ok (.iaload, 1) := by decide +kernel
theorem dX6_copyFrom_19 : decode cX6_copyFrom 19 = .ok (.iastore, 1) := by decide +kernel
theorem dX6_copyFrom_20 : decode cX6_copyFrom 20 = .ok (.aload_n 0, 1) := by decide +kernel
theorem dX6_copyFrom_21 : decode cX6_copyFrom 21 = .ok (.getfield 15, 3) := by decide +kernel
theorem dX6_copyFrom_24 : decode cX6_copyFrom 24 = .ok (.iload_n 2, 1) := by decide +kernel
theorem dX6_copyFrom_25 : decode cX6_copyFrom 25 = .ok (.aload_n 1, 1) := by decide +kernel
theorem dX6_copyFrom_26 : decode cX6_copyFrom 26 = .ok (.getfield 15, 3) := by decide +kernel
theorem dX6_copyFrom_29 : decode cX6_copyFrom 29 = .ok (.iload_n 2, 1) := by decide +kernel
theorem dX6_copyFrom_30 : decode cX6_copyFrom 30 = .ok (.baload, 1) := by decide +kernel
theorem dX6_copyFrom_31 : decode cX6_copyFrom 31 = .ok (.bastore, 1) := by decide +kernel
theorem dX6_copyFrom_32 : decode cX6_copyFrom 32 = .ok (.aload_n 0, 1) := by decide +kernel
theorem dX6_copyFrom_33 : decode cX6_copyFrom 33 = .ok (.getfield 19, 3) := by decide +kernel
theorem dX6_copyFrom_36 : decode cX6_copyFrom 36 = .ok (.iload_n 2, 1) := by decide +kernel
theorem dX6_copyFrom_37 : decode cX6_copyFrom 37 = .ok (.aload_n 1, 1) := by decide +kernel
theorem dX6_copyFrom_38 : decode cX6_copyFrom 38 = .ok (.getfield 19, 3) := by decide +kernel
theorem dX6_copyFrom_41 : decode cX6_copyFrom 41 = .ok (.iload_n 2, 1) := by decide +kernel
theorem dX6_copyFrom_42 : decode cX6_copyFrom 42 = .ok (.iaload, 1) := by decide +kernel
theorem dX6_copyFrom_43 : decode cX6_copyFrom 43 = .ok (.iastore, 1) := by decide +kernel
theorem dX6_copyFrom_44 : decode cX6_copyFrom 44 = .ok (.aload_n 0, 1) := by decide +kernel
theorem dX6_copyFrom_45 : decode cX6_copyFrom 45 = .ok (.getfield 22, 3) := by decide +kernel
theorem dX6_copyFrom_48 : decode cX6_copyFrom 48 = .ok (.iload_n 2, 1) := by decide +kernel
theorem dX6_copyFrom_49 : decode cX6_copyFrom 49 = .ok (.aload_n 1, 1) := by decide +kernel
theorem dX6_copyFrom_50 : decode cX6_copyFrom 50 = .ok (.getfield 22, 3) := by decide +kernel
theorem dX6_copyFrom_53 : decode cX6_copyFrom 53 = .ok (.iload_n 2, 1) := by decide +kernel
theorem dX6_copyFrom_54 : decode cX6_copyFrom 54 = .ok (.iaload, 1) := by decide +kernel
theorem dX6_copyFrom_55 : decode cX6_copyFrom 55 = .ok (.iastore, 1) := by decide +kernel
theorem dX6_copyFrom_56 : decode cX6_copyFrom 56 = .ok (.aload_n 0, 1) := by decide +kernel
theorem dX6_copyFrom_57 : decode cX6_copyFrom 57 = .ok (.getfield 25, 3) := by decide +kernel
theorem dX6_copyFrom_60 : decode cX6_copyFrom 60 = .ok (.iload_n 2, 1) := by decide +kernel
theorem dX6_copyFrom_61 : decode cX6_copyFrom 61 = .ok (.aload_n 1, 1) := by decide +kernel
theorem dX6_copyFrom_62 : decode cX6_copyFrom 62 = .ok (.getfield 25, 3) := by decide +kernel
theorem dX6_copyFrom_65 : decode cX6_copyFrom 65 = .ok (.iload_n 2, 1) := by decide +kernel
theorem dX6_copyFrom_66 : decode cX6_copyFrom 66 = .ok (.iaload, 1) := by decide +kernel
theorem dX6_copyFrom_67 : decode cX6_copyFrom 67 = .ok (.iastore, 1) := by decide +kernel
theorem dX6_copyFrom_68 : decode cX6_copyFrom 68 = .ok (.iinc 2 1, 3) := by decide +kernel
theorem dX6_copyFrom_71 : decode cX6_copyFrom 71 = .ok (.goto (-69), 3) := by decide +kernel
theorem dX6_copyFrom_74 : decode cX6_copyFrom 74 = .ok (.aload_n 0, 1) := by decide +kernel
theorem dX6_copyFrom_75 : decode cX6_copyFrom 75 = .ok (.aload_n 1, 1) := by decide +kernel
theorem dX6_copyFrom_76 : decode cX6_copyFrom 76 = .ok (.getfield 28, 3) := by decide +kernel
theorem dX6_copyFrom_79 : decode cX6_copyFrom 79 = .ok (.putfield 28, 3) := by decide +kernel
theorem dX6_copyFrom_82 : decode cX6_copyFrom 82 = .ok (.aload_n 0, 1) := by decide +kernel
theorem dX6_copyFrom_83 : decode cX6_copyFrom 83 = .ok (.aload_n 1, 1) := by decide +kernel
theorem dX6_copyFrom_84 : decode cX6_copyFrom 84 = .ok (.getfield 32, 3) := by decide +kernel
theorem dX6_copyFrom_87 : decode cX6_copyFrom 87 = .ok (.putfield 32, 3) := by decide +kernel
theorem dX6_copyFrom_90 : decode cX6_copyFrom 90 = .ok (.aload_n 0, 1) := by decide +kernel
theorem dX6_copyFrom_91 : decode cX6_copyFrom 91 = .ok (.aload_n 1, 1) := by decide +kernel
theorem dX6_copyFrom_92 : decode cX6_copyFrom 92 = .ok (.getfield 35, 3) := by decide +kernel
theorem dX6_copyFrom_95 : decode cX6_copyFrom 95 = .ok (.putfield 35, 3) := by decide +kernel
theorem dX6_copyFrom_98 : decode cX6_copyFrom 98 = .ok (.return_, 1) := by decide +kernel
theorem dX6_size_0 : decode cX6_size 0 = .ok (.aload_n 0, 1) := by decide +kernel
theorem dX6_size_1 : decode cX6_size 1 = .ok (.getfield 28, 3) := by decide +kernel
theorem dX6_size_4 : decode cX6_size 4 = .ok (.ireturn, 1) := by decide +kernel
theorem dX6_heirs_0 : decode cX6_heirs 0 = .ok (.aload_n 0, 1) := by decide +kernel
theorem dX6_heirs_1 : decode cX6_heirs 1 = .ok (.getfield 32, 3) := by decide +kernel
theorem dX6_heirs_4 : decode cX6_heirs 4 = .ok (.ireturn, 1) := by decide +kernel
theorem dX6_refusals_0 : decode cX6_refusals 0 = .ok (.aload_n 0, 1) := by decide +kernel
theorem dX6_refusals_1 : decode cX6_refusals 1 = .ok (.getfield 35, 3) := by decide +kernel
theorem dX6_refusals_4 : decode cX6_refusals 4 = .ok (.ireturn, 1) := by decide +kernel
theorem dX6_has_0 : decode cX6_has 0 = .ok (.iload_n 1, 1) := by decide +kernel
theorem dX6_has_1 : decode cX6_has 1 = .ok (.ifCond .lt 21, 3) := by decide +kernel
theorem dX6_has_4 : decode cX6_has 4 = .ok (.iload_n 1, 1) := by decide +kernel
theorem dX6_has_5 : decode cX6_has 5 = .ok (.aload_n 0, 1) := by decide +kernel
theorem dX6_has_6 : decode cX6_has 6 = .ok (.getfield 28, 3) := by decide +kernel
theorem dX6_has_9 : decode cX6_has 9 = .ok (.if_icmp .ge 13, 3) := by decide +kernel
theorem dX6_has_12 : decode cX6_has 12 = .ok (.iload_n 1, 1) := by decide +kernel
theorem dX6_has_13 : decode cX6_has 13 = .ok (.bipush 20, 2) := by decide +kernel
theorem dX6_has_15 : decode cX6_has 15 = .ok (.if_icmp .ge 7, 3) := by decide +kernel
theorem dX6_has_18 : decode cX6_has 18 = .ok (.iconst 1, 1) := by decide +kernel
theorem dX6_has_19 : decode cX6_has 19 = .ok (.goto 4, 3) := by decide +kernel
theorem dX6_has_22 : decode cX6_has 22 = .ok (.iconst 0, 1) := by decide +kernel
theorem dX6_has_23 : decode cX6_has 23 = .ok (.ireturn, 1) := by decide +kernel
theorem dX6_shieldOf_0 : decode cX6_shieldOf 0 = .ok (.aload_n 0, 1) := by decide +kernel
theorem dX6_shieldOf_1 : decode cX6_shieldOf 1 = .ok (.iload_n 1, 1) := by decide +kernel
theorem dX6_shieldOf_2 : decode cX6_shieldOf 2 = .ok (.invokevirtual 38, 3) := by decide +kernel
theorem dX6_shieldOf_5 : decode cX6_shieldOf 5 = .ok (.ifCond .eq 12, 3) := by decide +kernel
theorem dX6_shieldOf_8 : decode cX6_shieldOf 8 = .ok (.aload_n 0, 1) := by decide +kernel
theorem dX6_shieldOf_9 : decode cX6_shieldOf 9 = .ok (.getfield 9, 3) := by decide +kernel
theorem dX6_shieldOf_12 : decode cX6_shieldOf 12 = .ok (.iload_n 1, 1) := by decide +kernel
theorem dX6_shieldOf_13 : decode cX6_shieldOf 13 = .ok (.iaload, 1) := by decide +kernel
theorem dX6_shieldOf_14 : decode cX6_shieldOf 14 = .ok (.goto 4, 3) := by decide +kernel
theorem dX6_shieldOf_17 : decode cX6_shieldOf 17 = .ok (.iconst 0, 1) := by decide +kernel
theorem dX6_shieldOf_18 : decode cX6_shieldOf 18 = .ok (.ireturn, 1) := by decide +kernel
theorem dX6_isAlive_0 : decode cX6_isAlive 0 = .ok (.aload_n 0, 1) := by decide +kernel
theorem dX6_isAlive_1 : decode cX6_isAlive 1 = .ok (.iload_n 1, 1) := by decide +kernel
theorem dX6_isAlive_2 : decode cX6_isAlive 2 = .ok (.invokevirtual 38, 3) := by decide +kernel
theorem dX6_isAlive_5 : decode cX6_isAlive 5 = .ok (.ifCond .eq 16, 3) := by decide +kernel
theorem dX6_isAlive_8 : decode cX6_isAlive 8 = .ok (.aload_n 0, 1) := by decide +kernel
theorem dX6_isAlive_9 : decode cX6_isAlive 9 = .ok (.getfield 15, 3) := by decide +kernel
theorem dX6_isAlive_12 : decode cX6_isAlive 12 = .ok (.iload_n 1, 1) := by decide +kernel
theorem dX6_isAlive_13 : decode cX6_isAlive 13 = .ok (.baload, 1) := by decide +kernel
theorem dX6_isAlive_14 : decode cX6_isAlive 14 = .ok (.ifCond .eq 7, 3) := by decide +kernel
theorem dX6_isAlive_17 : decode cX6_isAlive 17 = .ok (.iconst 1, 1) := by decide +kernel
theorem dX6_isAlive_18 : decode cX6_isAlive 18 = .ok (.goto 4, 3) := by decide +kernel
theorem dX6_isAlive_21 : decode cX6_isAlive 21 = .ok (.iconst 0, 1) := by decide +kernel
theorem dX6_isAlive_22 : decode cX6_isAlive 22 = .ok (.ireturn, 1) := by decide +kernel
theorem dX6_fatherOf_0 : decode cX6_fatherOf 0 = .ok (.aload_n 0, 1) := by decide +kernel
theorem dX6_fatherOf_1 : decode cX6_fatherOf 1 = .ok (.iload_n 1, 1) := by decide +kernel
theorem dX6_fatherOf_2 : decode cX6_fatherOf 2 = .ok (.invokevirtual 38, 3) := by decide +kernel
theorem dX6_fatherOf_5 : decode cX6_fatherOf 5 = .ok (.ifCond .eq 12, 3) := by decide +kernel
theorem dX6_fatherOf_8 : decode cX6_fatherOf 8 = .ok (.aload_n 0, 1) := by decide +kernel
theorem dX6_fatherOf_9 : decode cX6_fatherOf 9 = .ok (.getfield 19, 3) := by decide +kernel
theorem dX6_fatherOf_12 : decode cX6_fatherOf 12 = .ok (.iload_n 1, 1) := by decide +kernel
theorem dX6_fatherOf_13 : decode cX6_fatherOf 13 = .ok (.iaload, 1) := by decide +kernel
theorem dX6_fatherOf_14 : decode cX6_fatherOf 14 = .ok (.goto 4, 3) := by decide +kernel
theorem dX6_fatherOf_17 : decode cX6_fatherOf 17 = .ok (.iconst (-1), 1) := by decide +kernel
theorem dX6_fatherOf_18 : decode cX6_fatherOf 18 = .ok (.ireturn, 1) := by decide +kernel
theorem dX6_birthPlaceOf_0 : decode cX6_birthPlaceOf 0 = .ok (.aload_n 0, 1) := by decide +kernel
theorem dX6_birthPlaceOf_1 : decode cX6_birthPlaceOf 1 = .ok (.iload_n 1, 1) := by decide +kernel
theorem dX6_birthPlaceOf_2 : decode cX6_birthPlaceOf 2 = .ok (.invokevirtual 38, 3) := by decide +kernel
theorem dX6_birthPlaceOf_5 : decode cX6_birthPlaceOf 5 = .ok (.ifCond .eq 12, 3) := by decide +kernel
theorem dX6_birthPlaceOf_8 : decode cX6_birthPlaceOf 8 = .ok (.aload_n 0, 1) := by decide +kernel
theorem dX6_birthPlaceOf_9 : decode cX6_birthPlaceOf 9 = .ok (.getfield 22, 3) := by decide +kernel
theorem dX6_birthPlaceOf_12 : decode cX6_birthPlaceOf 12 = .ok (.iload_n 1, 1) := by decide +kernel
theorem dX6_birthPlaceOf_13 : decode cX6_birthPlaceOf 13 = .ok (.iaload, 1) := by decide +kernel
theorem dX6_birthPlaceOf_14 : decode cX6_birthPlaceOf 14 = .ok (.goto 4, 3) := by decide +kernel
theorem dX6_birthPlaceOf_17 : decode cX6_birthPlaceOf 17 = .ok (.iconst (-1), 1) := by decide +kernel
theorem dX6_birthPlaceOf_18 : decode cX6_birthPlaceOf 18 = .ok (.ireturn, 1) := by decide +kernel
theorem dX6_birthMarkOf_0 : decode cX6_birthMarkOf 0 = .ok (.aload_n 0, 1) := by decide +kernel
theorem dX6_birthMarkOf_1 : decode cX6_birthMarkOf 1 = .ok (.iload_n 1, 1) := by decide +kernel
theorem dX6_birthMarkOf_2 : decode cX6_birthMarkOf 2 = .ok (.invokevirtual 38, 3) := by decide +kernel
theorem dX6_birthMarkOf_5 : decode cX6_birthMarkOf 5 = .ok (.ifCond .eq 12, 3) := by decide +kernel
theorem dX6_birthMarkOf_8 : decode cX6_birthMarkOf 8 = .ok (.aload_n 0, 1) := by decide +kernel
theorem dX6_birthMarkOf_9 : decode cX6_birthMarkOf 9 = .ok (.getfield 25, 3) := by decide +kernel
theorem dX6_birthMarkOf_12 : decode cX6_birthMarkOf 12 = .ok (.iload_n 1, 1) := by decide +kernel
theorem dX6_birthMarkOf_13 : decode cX6_birthMarkOf 13 = .ok (.iaload, 1) := by decide +kernel
theorem dX6_birthMarkOf_14 : decode cX6_birthMarkOf 14 = .ok (.goto 4, 3) := by decide +kernel
theorem dX6_birthMarkOf_17 : decode cX6_birthMarkOf 17 = .ok (.iconst (-1), 1) := by decide +kernel
theorem dX6_birthMarkOf_18 : decode cX6_birthMarkOf 18 = .ok (.ireturn, 1) := by decide +kernel
theorem dX6_living_0 : decode cX6_living 0 = .ok (.iconst 0, 1) := by decide +kernel
theorem dX6_living_1 : decode cX6_living 1 = .ok (.istore_n 1, 1) := by decide +kernel
theorem dX6_living_2 : decode cX6_living 2 = .ok (.iconst 0, 1) := by decide +kernel
theorem dX6_living_3 : decode cX6_living 3 = .ok (.istore_n 2, 1) := by decide +kernel
theorem dX6_living_4 : decode cX6_living 4 = .ok (.iload_n 2, 1) := by decide +kernel
theorem dX6_living_5 : decode cX6_living 5 = .ok (.aload_n 0, 1) := by decide +kernel
theorem dX6_living_6 : decode cX6_living 6 = .ok (.getfield 28, 3) := by decide +kernel
theorem dX6_living_9 : decode cX6_living 9 = .ok (.if_icmp .ge 20, 3) := by decide +kernel
theorem dX6_living_12 : decode cX6_living 12 = .ok (.aload_n 0, 1) := by decide +kernel
theorem dX6_living_13 : decode cX6_living 13 = .ok (.iload_n 2, 1) := by decide +kernel
theorem dX6_living_14 : decode cX6_living 14 = .ok (.invokevirtual 42, 3) := by decide +kernel
theorem dX6_living_17 : decode cX6_living 17 = .ok (.ifCond .eq 6, 3) := by decide +kernel
theorem dX6_living_20 : decode cX6_living 20 = .ok (.iinc 1 1, 3) := by decide +kernel
theorem dX6_living_23 : decode cX6_living 23 = .ok (.iinc 2 1, 3) := by decide +kernel
theorem dX6_living_26 : decode cX6_living 26 = .ok (.goto (-22), 3) := by decide +kernel
theorem dX6_living_29 : decode cX6_living 29 = .ok (.iload_n 1, 1) := by decide +kernel
theorem dX6_living_30 : decode cX6_living 30 = .ok (.ireturn, 1) := by decide +kernel
theorem dX6_livingWith_0 : decode cX6_livingWith 0 = .ok (.iconst 0, 1) := by decide +kernel
theorem dX6_livingWith_1 : decode cX6_livingWith 1 = .ok (.istore_n 2, 1) := by decide +kernel
theorem dX6_livingWith_2 : decode cX6_livingWith 2 = .ok (.iload_n 2, 1) := by decide +kernel
theorem dX6_livingWith_3 : decode cX6_livingWith 3 = .ok (.aload_n 0, 1) := by decide +kernel
theorem dX6_livingWith_4 : decode cX6_livingWith 4 = .ok (.getfield 28, 3) := by decide +kernel
theorem dX6_livingWith_7 : decode cX6_livingWith 7 = .ok (.if_icmp .ge 36, 3) := by decide +kernel
theorem dX6_livingWith_10 : decode cX6_livingWith 10 = .ok (.iload_n 2, 1) := by decide +kernel
theorem dX6_livingWith_11 : decode cX6_livingWith 11 = .ok (.bipush 20, 2) := by decide +kernel
theorem dX6_livingWith_13 : decode cX6_livingWith 13 = .ok (.if_icmp .ge 30, 3) := by decide +kernel
theorem dX6_livingWith_16 : decode cX6_livingWith 16 = .ok (.aload_n 0, 1) := by decide +kernel
theorem dX6_livingWith_17 : decode cX6_livingWith 17 = .ok (.getfield 15, 3) := by decide +kernel
theorem dX6_livingWith_20 : decode cX6_livingWith 20 = .ok (.iload_n 2, 1) := by decide +kernel
theorem dX6_livingWith_21 : decode cX6_livingWith 21 = .ok (.baload, 1) := by decide +kernel
theorem dX6_livingWith_22 : decode cX6_livingWith 22 = .ok (.ifCond .eq 15, 3) := by decide +kernel
theorem dX6_livingWith_25 : decode cX6_livingWith 25 = .ok (.aload_n 0, 1) := by decide +kernel
theorem dX6_livingWith_26 : decode cX6_livingWith 26 = .ok (.getfield 9, 3) := by decide +kernel
theorem dX6_livingWith_29 : decode cX6_livingWith 29 = .ok (.iload_n 2, 1) := by decide +kernel
theorem dX6_livingWith_30 : decode cX6_livingWith 30 = .ok (.iaload, 1) := by decide +kernel
theorem dX6_livingWith_31 : decode cX6_livingWith 31 = .ok (.iload_n 1, 1) := by decide +kernel
theorem dX6_livingWith_32 : decode cX6_livingWith 32 = .ok (.if_icmp .ne 5, 3) := by decide +kernel
theorem dX6_livingWith_35 : decode cX6_livingWith 35 = .ok (.iload_n 2, 1) := by decide +kernel
theorem dX6_livingWith_36 : decode cX6_livingWith 36 = .ok (.ireturn, 1) := by decide +kernel
theorem dX6_livingWith_37 : decode cX6_livingWith 37 = .ok (.iinc 2 1, 3) := by decide +kernel
theorem dX6_livingWith_40 : decode cX6_livingWith 40 = .ok (.goto (-38), 3) := by decide +kernel
theorem dX6_livingWith_43 : decode cX6_livingWith 43 = .ok (.iconst (-1), 1) := by decide +kernel
theorem dX6_livingWith_44 : decode cX6_livingWith 44 = .ok (.ireturn, 1) := by decide +kernel
theorem dX6_sonsOf_0 : decode cX6_sonsOf 0 = .ok (.iconst 0, 1) := by decide +kernel
theorem dX6_sonsOf_1 : decode cX6_sonsOf 1 = .ok (.istore_n 2, 1) := by decide +kernel
theorem dX6_sonsOf_2 : decode cX6_sonsOf 2 = .ok (.iconst 0, 1) := by decide +kernel
theorem dX6_sonsOf_3 : decode cX6_sonsOf 3 = .ok (.istore_n 3, 1) := by decide +kernel
theorem dX6_sonsOf_4 : decode cX6_sonsOf 4 = .ok (.iload_n 3, 1) := by decide +kernel
theorem dX6_sonsOf_5 : decode cX6_sonsOf 5 = .ok (.aload_n 0, 1) := by decide +kernel
theorem dX6_sonsOf_6 : decode cX6_sonsOf 6 = .ok (.getfield 28, 3) := by decide +kernel
theorem dX6_sonsOf_9 : decode cX6_sonsOf 9 = .ok (.if_icmp .ge 21, 3) := by decide +kernel
theorem dX6_sonsOf_12 : decode cX6_sonsOf 12 = .ok (.aload_n 0, 1) := by decide +kernel
theorem dX6_sonsOf_13 : decode cX6_sonsOf 13 = .ok (.iload_n 3, 1) := by decide +kernel
theorem dX6_sonsOf_14 : decode cX6_sonsOf 14 = .ok (.invokevirtual 45, 3) := by decide +kernel
theorem dX6_sonsOf_17 : decode cX6_sonsOf 17 = .ok (.iload_n 1, 1) := by decide +kernel
theorem dX6_sonsOf_18 : decode cX6_sonsOf 18 = .ok (.if_icmp .ne 6, 3) := by decide +kernel
theorem dX6_sonsOf_21 : decode cX6_sonsOf 21 = .ok (.iinc 2 1, 3) := by decide +kernel
theorem dX6_sonsOf_24 : decode cX6_sonsOf 24 = .ok (.iinc 3 1, 3) := by decide +kernel
theorem dX6_sonsOf_27 : decode cX6_sonsOf 27 = .ok (.goto (-23), 3) := by decide +kernel
theorem dX6_sonsOf_30 : decode cX6_sonsOf 30 = .ok (.iload_n 2, 1) := by decide +kernel
theorem dX6_sonsOf_31 : decode cX6_sonsOf 31 = .ok (.ireturn, 1) := by decide +kernel
theorem dX6_areBrothers_0 : decode cX6_areBrothers 0 = .ok (.aload_n 0, 1) := by decide +kernel
theorem dX6_areBrothers_1 : decode cX6_areBrothers 1 = .ok (.iload_n 1, 1) := by decide +kernel
theorem dX6_areBrothers_2 : decode cX6_areBrothers 2 = .ok (.invokevirtual 38, 3) := by decide +kernel
theorem dX6_areBrothers_5 : decode cX6_areBrothers 5 = .ok (.ifCond .eq 45, 3) := by decide +kernel
theorem dX6_areBrothers_8 : decode cX6_areBrothers 8 = .ok (.aload_n 0, 1) := by decide +kernel
theorem dX6_areBrothers_9 : decode cX6_areBrothers 9 = .ok (.iload_n 2, 1) := by decide +kernel
theorem dX6_areBrothers_10 : decode cX6_areBrothers 10 = .ok (.invokevirtual 38, 3) := by decide +kernel
theorem dX6_areBrothers_13 : decode cX6_areBrothers 13 = .ok (.ifCond .eq 37, 3) := by decide +kernel
theorem dX6_areBrothers_16 : decode cX6_areBrothers 16 = .ok (.iload_n 1, 1) := by decide +kernel
theorem dX6_areBrothers_17 : decode cX6_areBrothers 17 = .ok (.iload_n 2, 1) := by decide +kernel
theorem dX6_areBrothers_18 : decode cX6_areBrothers 18 = .ok (.if_icmp .eq 32, 3) := by decide +kernel
theorem dX6_areBrothers_21 : decode cX6_areBrothers 21 = .ok (.aload_n 0, 1) := by decide +kernel
theorem dX6_areBrothers_22 : decode cX6_areBrothers 22 = .ok (.getfield 19, 3) := by decide +kernel
theorem dX6_areBrothers_25 : decode cX6_areBrothers 25 = .ok (.iload_n 1, 1) := by decide +kernel
theorem dX6_areBrothers_26 : decode cX6_areBrothers 26 = .ok (.iaload, 1) := by decide +kernel
theorem dX6_areBrothers_27 : decode cX6_areBrothers 27 = .ok (.iconst (-1), 1) := by decide +kernel
theorem dX6_areBrothers_28 : decode cX6_areBrothers 28 = .ok (.if_icmp .eq 22, 3) := by decide +kernel
theorem dX6_areBrothers_31 : decode cX6_areBrothers 31 = .ok (.aload_n 0, 1) := by decide +kernel
theorem dX6_areBrothers_32 : decode cX6_areBrothers 32 = .ok (.getfield 19, 3) := by decide +kernel
theorem dX6_areBrothers_35 : decode cX6_areBrothers 35 = .ok (.iload_n 1, 1) := by decide +kernel
theorem dX6_areBrothers_36 : decode cX6_areBrothers 36 = .ok (.iaload, 1) := by decide +kernel
theorem dX6_areBrothers_37 : decode cX6_areBrothers 37 = .ok (.aload_n 0, 1) := by decide +kernel
theorem dX6_areBrothers_38 : decode cX6_areBrothers 38 = .ok (.getfield 19, 3) := by decide +kernel
theorem dX6_areBrothers_41 : decode cX6_areBrothers 41 = .ok (.iload_n 2, 1) := by decide +kernel
theorem dX6_areBrothers_42 : decode cX6_areBrothers 42 = .ok (.iaload, 1) := by decide +kernel
theorem dX6_areBrothers_43 : decode cX6_areBrothers 43 = .ok (.if_icmp .ne 7, 3) := by decide +kernel
theorem dX6_areBrothers_46 : decode cX6_areBrothers 46 = .ok (.iconst 1, 1) := by decide +kernel
theorem dX6_areBrothers_47 : decode cX6_areBrothers 47 = .ok (.goto 4, 3) := by decide +kernel
theorem dX6_areBrothers_50 : decode cX6_areBrothers 50 = .ok (.iconst 0, 1) := by decide +kernel
theorem dX6_areBrothers_51 : decode cX6_areBrothers 51 = .ok (.ireturn, 1) := by decide +kernel
theorem dX6_founderComes_0 : decode cX6_founderComes 0 = .ok (.iload_n 1, 1) := by decide +kernel
theorem dX6_founderComes_1 : decode cX6_founderComes 1 = .ok (.invokestatic 49, 3) := by decide +kernel
theorem dX6_founderComes_4 : decode cX6_founderComes 4 = .ok (.ifCond .ne 5, 3) := by decide +kernel
theorem dX6_founderComes_7 : decode cX6_founderComes 7 = .ok (.iconst (-1), 1) := by decide +kernel
theorem dX6_founderComes_8 : decode cX6_founderComes 8 = .ok (.ireturn, 1) := by decide +kernel
theorem dX6_founderComes_9 : decode cX6_founderComes 9 = .ok (.aload_n 0, 1) := by decide +kernel
theorem dX6_founderComes_10 : decode cX6_founderComes 10 = .ok (.getfield 28, 3) := by decide +kernel
theorem dX6_founderComes_13 : decode cX6_founderComes 13 = .ok (.bipush 20, 2) := by decide +kernel
theorem dX6_founderComes_15 : decode cX6_founderComes 15 = .ok (.if_icmp .lt 6, 3) := by decide +kernel
theorem dX6_founderComes_18 : decode cX6_founderComes 18 = .ok (.bipush (-3), 2) := by decide +kernel
theorem dX6_founderComes_20 : decode cX6_founderComes 20 = .ok (.ireturn, 1) := by decide +kernel
theorem dX6_founderComes_21 : decode cX6_founderComes 21 = .ok (.aload_n 0, 1) := by decide +kernel
theorem dX6_founderComes_22 : decode cX6_founderComes 22 = .ok (.iload_n 1, 1) := by decide +kernel
theorem dX6_founderComes_23 : decode cX6_founderComes 23 = .ok (.invokevirtual 54, 3) := by decide +kernel
theorem dX6_founderComes_26 : decode cX6_founderComes 26 = .ok (.iconst (-1), 1) := by decide +kernel
theorem dX6_founderComes_27 : decode cX6_founderComes 27 = .ok (.if_icmp .eq 9, 3) := by decide +kernel
theorem dX6_founderComes_30 : decode cX6_founderComes 30 = .ok (.aload_n 0, 1) := by decide +kernel
theorem dX6_founderComes_31 : decode cX6_founderComes 31 = .ok (.iconst 3, 1) := by decide +kernel
theorem dX6_founderComes_32 : decode cX6_founderComes 32 = .ok (.invokevirtual 57, 3) := by decide +kernel
theorem dX6_founderComes_35 : decode cX6_founderComes 35 = .ok (.ireturn, 1) := by decide +kernel
theorem dX6_founderComes_36 : decode cX6_founderComes 36 = .ok (.aload_n 0, 1) := by decide +kernel
theorem dX6_founderComes_37 : decode cX6_founderComes 37 = .ok (.iload_n 1, 1) := by decide +kernel
theorem dX6_founderComes_38 : decode cX6_founderComes 38 = .ok (.iconst (-1), 1) := by decide +kernel
theorem dX6_founderComes_39 : decode cX6_founderComes 39 = .ok (.iconst (-1), 1) := by decide +kernel
theorem dX6_founderComes_40 : decode cX6_founderComes 40 = .ok (.iconst (-1), 1) := by decide +kernel
theorem dX6_founderComes_41 : decode cX6_founderComes 41 = .ok (.invokevirtual 60, 3) := by decide +kernel
theorem dX6_founderComes_44 : decode cX6_founderComes 44 = .ok (.ireturn, 1) := by decide +kernel
theorem dX6_sonComes_0 : decode cX6_sonComes 0 = .ok (.aload_n 0, 1) := by decide +kernel
theorem dX6_sonComes_1 : decode cX6_sonComes 1 = .ok (.iload_n 1, 1) := by decide +kernel
theorem dX6_sonComes_2 : decode cX6_sonComes 2 = .ok (.invokevirtual 38, 3) := by decide +kernel
theorem dX6_sonComes_5 : decode cX6_sonComes 5 = .ok (.ifCond .eq 17, 3) := by decide +kernel
theorem dX6_sonComes_8 : decode cX6_sonComes 8 = .ok (.iload_n 2, 1) := by decide +kernel
theorem dX6_sonComes_9 : decode cX6_sonComes 9 = .ok (.invokestatic 64, 3) := by decide +kernel
theorem dX6_sonComes_12 : decode cX6_sonComes 12 = .ok (.ifCond .eq 10, 3) := by decide +kernel
theorem dX6_sonComes_15 : decode cX6_sonComes 15 = .ok (.iload_n 3, 1) := by decide +kernel
theorem dX6_sonComes_16 : decode cX6_sonComes 16 = .ok (.invokestatic 67, 3) := by decide +kernel
theorem dX6_sonComes_19 : decode cX6_sonComes 19 = .ok (.ifCond .ne 5, 3) := by decide +kernel
theorem dX6_sonComes_22 : decode cX6_sonComes 22 = .ok (.iconst (-1), 1) := by decide +kernel
theorem dX6_sonComes_23 : decode cX6_sonComes 23 = .ok (.ireturn, 1) := by decide +kernel
theorem dX6_sonComes_24 : decode cX6_sonComes 24 = .ok (.aload_n 0, 1) := by decide +kernel
theorem dX6_sonComes_25 : decode cX6_sonComes 25 = .ok (.getfield 28, 3) := by decide +kernel
theorem dX6_sonComes_28 : decode cX6_sonComes 28 = .ok (.bipush 20, 2) := by decide +kernel
theorem dX6_sonComes_30 : decode cX6_sonComes 30 = .ok (.if_icmp .lt 6, 3) := by decide +kernel
theorem dX6_sonComes_33 : decode cX6_sonComes 33 = .ok (.bipush (-3), 2) := by decide +kernel
theorem dX6_sonComes_35 : decode cX6_sonComes 35 = .ok (.ireturn, 1) := by decide +kernel
theorem dX6_sonComes_36 : decode cX6_sonComes 36 = .ok (.aload_n 0, 1) := by decide +kernel
theorem dX6_sonComes_37 : decode cX6_sonComes 37 = .ok (.iload_n 1, 1) := by decide +kernel
theorem dX6_sonComes_38 : decode cX6_sonComes 38 = .ok (.iload_n 2, 1) := by decide +kernel
theorem dX6_sonComes_39 : decode cX6_sonComes 39 = .ok (.iload_n 3, 1) := by decide +kernel
theorem dX6_sonComes_40 : decode cX6_sonComes 40 = .ok (.invokevirtual 70, 3) := by decide +kernel
theorem dX6_sonComes_43 : decode cX6_sonComes 43 = .ok (.istore 4, 2) := by decide +kernel
theorem dX6_sonComes_45 : decode cX6_sonComes 45 = .ok (.iload 4, 2) := by decide +kernel
theorem dX6_sonComes_47 : decode cX6_sonComes 47 = .ok (.ifCond .eq 10, 3) := by decide +kernel
theorem dX6_sonComes_50 : decode cX6_sonComes 50 = .ok (.aload_n 0, 1) := by decide +kernel
theorem dX6_sonComes_51 : decode cX6_sonComes 51 = .ok (.iload 4, 2) := by decide +kernel
theorem dX6_sonComes_53 : decode cX6_sonComes 53 = .ok (.invokevirtual 57, 3) := by decide +kernel
theorem dX6_sonComes_56 : decode cX6_sonComes 56 = .ok (.ireturn, 1) := by decide +kernel
theorem dX6_sonComes_57 : decode cX6_sonComes 57 = .ok (.aload_n 0, 1) := by decide +kernel
theorem dX6_sonComes_58 : decode cX6_sonComes 58 = .ok (.aload_n 0, 1) := by decide +kernel
theorem dX6_sonComes_59 : decode cX6_sonComes 59 = .ok (.iload_n 1, 1) := by decide +kernel
theorem dX6_sonComes_60 : decode cX6_sonComes 60 = .ok (.invokevirtual 74, 3) := by decide +kernel
theorem dX6_sonComes_63 : decode cX6_sonComes 63 = .ok (.iload_n 2, 1) := by decide +kernel
theorem dX6_sonComes_64 : decode cX6_sonComes 64 = .ok (.iload_n 3, 1) := by decide +kernel
theorem dX6_sonComes_65 : decode cX6_sonComes 65 = .ok (.invokestatic 77, 3) := by decide +kernel
theorem dX6_sonComes_68 : decode cX6_sonComes 68 = .ok (.iload_n 1, 1) := by decide +kernel
theorem dX6_sonComes_69 : decode cX6_sonComes 69 = .ok (.iload_n 2, 1) := by decide +kernel
theorem dX6_sonComes_70 : decode cX6_sonComes 70 = .ok (.iload_n 3, 1) := by decide +kernel
theorem dX6_sonComes_71 : decode cX6_sonComes 71 = .ok (.invokevirtual 60, 3) := by decide +kernel
theorem dX6_sonComes_74 : decode cX6_sonComes 74 = .ok (.ireturn, 1) := by decide +kernel
theorem dX6_goes_0 : decode cX6_goes 0 = .ok (.aload_n 0, 1) := by decide +kernel
theorem dX6_goes_1 : decode cX6_goes 1 = .ok (.iload_n 1, 1) := by decide +kernel
theorem dX6_goes_2 : decode cX6_goes 2 = .ok (.invokevirtual 38, 3) := by decide +kernel
theorem dX6_goes_5 : decode cX6_goes 5 = .ok (.ifCond .ne 5, 3) := by decide +kernel
theorem dX6_goes_8 : decode cX6_goes 8 = .ok (.iconst (-1), 1) := by decide +kernel
theorem dX6_goes_9 : decode cX6_goes 9 = .ok (.ireturn, 1) := by decide +kernel
theorem dX6_goes_10 : decode cX6_goes 10 = .ok (.aload_n 0, 1) := by decide +kernel
theorem dX6_goes_11 : decode cX6_goes 11 = .ok (.iload_n 1, 1) := by decide +kernel
theorem dX6_goes_12 : decode cX6_goes 12 = .ok (.invokevirtual 42, 3) := by decide +kernel
theorem dX6_goes_15 : decode cX6_goes 15 = .ok (.ifCond .ne 10, 3) := by decide +kernel
theorem dX6_goes_18 : decode cX6_goes 18 = .ok (.aload_n 0, 1) := by decide +kernel
theorem dX6_goes_19 : decode cX6_goes 19 = .ok (.bipush 6, 2) := by decide +kernel
theorem dX6_goes_21 : decode cX6_goes 21 = .ok (.invokevirtual 57, 3) := by decide +kernel
theorem dX6_goes_24 : decode cX6_goes 24 = .ok (.ireturn, 1) := by decide +kernel
theorem dX6_goes_25 : decode cX6_goes 25 = .ok (.aload_n 0, 1) := by decide +kernel
theorem dX6_goes_26 : decode cX6_goes 26 = .ok (.getfield 15, 3) := by decide +kernel
theorem dX6_goes_29 : decode cX6_goes 29 = .ok (.iload_n 1, 1) := by decide +kernel
theorem dX6_goes_30 : decode cX6_goes 30 = .ok (.iconst 0, 1) := by decide +kernel
theorem dX6_goes_31 : decode cX6_goes 31 = .ok (.bastore, 1) := by decide +kernel
theorem dX6_goes_32 : decode cX6_goes 32 = .ok (.bipush 10, 2) := by decide +kernel
theorem dX6_goes_34 : decode cX6_goes 34 = .ok (.aload_n 0, 1) := by decide +kernel
theorem dX6_goes_35 : decode cX6_goes 35 = .ok (.invokevirtual 80, 3) := by decide +kernel
theorem dX6_goes_38 : decode cX6_goes 38 = .ok (.iadd, 1) := by decide +kernel
theorem dX6_goes_39 : decode cX6_goes 39 = .ok (.ireturn, 1) := by decide +kernel
theorem dX6_becomesHeir_0 : decode cX6_becomesHeir 0 = .ok (.aload_n 0, 1) := by decide +kernel
theorem dX6_becomesHeir_1 : decode cX6_becomesHeir 1 = .ok (.iload_n 1, 1) := by decide +kernel
theorem dX6_becomesHeir_2 : decode cX6_becomesHeir 2 = .ok (.invokevirtual 38, 3) := by decide +kernel
theorem dX6_becomesHeir_5 : decode cX6_becomesHeir 5 = .ok (.ifCond .ne 5, 3) := by decide +kernel
theorem dX6_becomesHeir_8 : decode cX6_becomesHeir 8 = .ok (.iconst (-1), 1) := by decide +kernel
theorem dX6_becomesHeir_9 : decode cX6_becomesHeir 9 = .ok (.ireturn, 1) := by decide +kernel
theorem dX6_becomesHeir_10 : decode cX6_becomesHeir 10 = .ok (.aload_n 0, 1) := by decide +kernel
theorem dX6_becomesHeir_11 : decode cX6_becomesHeir 11 = .ok (.iload_n 1, 1) := by decide +kernel
theorem dX6_becomesHeir_12 : decode cX6_becomesHeir 12 = .ok (.invokevirtual 42, 3) := by decide +kernel
theorem dX6_becomesHeir_15 : decode cX6_becomesHeir 15 = .ok (.ifCond .ne 6, 3) := by decide +kernel
theorem dX6_becomesHeir_18 : decode cX6_becomesHeir 18 = .ok (.bipush (-2), 2) := by decide +kernel
theorem dX6_becomesHeir_20 : decode cX6_becomesHeir 20 = .ok (.ireturn, 1) := by decide +kernel
theorem dX6_becomesHeir_21 : decode cX6_becomesHeir 21 = .ok (.aload_n 0, 1) := by decide +kernel
theorem dX6_becomesHeir_22 : decode cX6_becomesHeir 22 = .ok (.iload_n 1, 1) := by decide +kernel
theorem dX6_becomesHeir_23 : decode cX6_becomesHeir 23 = .ok (.invokevirtual 84, 3) := by decide +kernel
theorem dX6_becomesHeir_26 : decode cX6_becomesHeir 26 = .ok (.istore_n 2, 1) := by decide +kernel
theorem dX6_becomesHeir_27 : decode cX6_becomesHeir 27 = .ok (.iload_n 2, 1) := by decide +kernel
theorem dX6_becomesHeir_28 : decode cX6_becomesHeir 28 = .ok (.ifCond .eq 9, 3) := by decide +kernel
theorem dX6_becomesHeir_31 : decode cX6_becomesHeir 31 = .ok (.aload_n 0, 1) := by decide +kernel
theorem dX6_becomesHeir_32 : decode cX6_becomesHeir 32 = .ok (.iload_n 2, 1) := by decide +kernel
theorem dX6_becomesHeir_33 : decode cX6_becomesHeir 33 = .ok (.invokevirtual 57, 3) := by decide +kernel
theorem dX6_becomesHeir_36 : decode cX6_becomesHeir 36 = .ok (.ireturn, 1) := by decide +kernel
theorem dX6_becomesHeir_37 : decode cX6_becomesHeir 37 = .ok (.aload_n 0, 1) := by decide +kernel
theorem dX6_becomesHeir_38 : decode cX6_becomesHeir 38 = .ok (.iload_n 1, 1) := by decide +kernel
theorem dX6_becomesHeir_39 : decode cX6_becomesHeir 39 = .ok (.invokevirtual 74, 3) := by decide +kernel
theorem dX6_becomesHeir_42 : decode cX6_becomesHeir 42 = .ok (.istore_n 3, 1) := by decide +kernel
theorem dX6_becomesHeir_43 : decode cX6_becomesHeir 43 = .ok (.aload_n 0, 1) := by decide +kernel
theorem dX6_becomesHeir_44 : decode cX6_becomesHeir 44 = .ok (.getfield 9, 3) := by decide +kernel
theorem dX6_becomesHeir_47 : decode cX6_becomesHeir 47 = .ok (.iload_n 1, 1) := by decide +kernel
theorem dX6_becomesHeir_48 : decode cX6_becomesHeir 48 = .ok (.aload_n 0, 1) := by decide +kernel
theorem dX6_becomesHeir_49 : decode cX6_becomesHeir 49 = .ok (.aload_n 0, 1) := by decide +kernel
theorem dX6_becomesHeir_50 : decode cX6_becomesHeir 50 = .ok (.iload_n 1, 1) := by decide +kernel
theorem dX6_becomesHeir_51 : decode cX6_becomesHeir 51 = .ok (.invokevirtual 45, 3) := by decide +kernel
theorem dX6_becomesHeir_54 : decode cX6_becomesHeir 54 = .ok (.invokevirtual 74, 3) := by decide +kernel
theorem dX6_becomesHeir_57 : decode cX6_becomesHeir 57 = .ok (.iastore, 1) := by decide +kernel
theorem dX6_becomesHeir_58 : decode cX6_becomesHeir 58 = .ok (.aload_n 0, 1) := by decide +kernel
theorem dX6_becomesHeir_59 : decode cX6_becomesHeir 59 = .ok (.dup, 1) := by decide +kernel
theorem dX6_becomesHeir_60 : decode cX6_becomesHeir 60 = .ok (.getfield 32, 3) := by decide +kernel
theorem dX6_becomesHeir_63 : decode cX6_becomesHeir 63 = .ok (.iconst 1, 1) := by decide +kernel
theorem dX6_becomesHeir_64 : decode cX6_becomesHeir 64 = .ok (.iadd, 1) := by decide +kernel
theorem dX6_becomesHeir_65 : decode cX6_becomesHeir 65 = .ok (.putfield 32, 3) := by decide +kernel
theorem dX6_becomesHeir_68 : decode cX6_becomesHeir 68 = .ok (.bipush 10, 2) := by decide +kernel
theorem dX6_becomesHeir_70 : decode cX6_becomesHeir 70 = .ok (.iload_n 3, 1) := by decide +kernel
theorem dX6_becomesHeir_71 : decode cX6_becomesHeir 71 = .ok (.aload_n 0, 1) := by decide +kernel
theorem dX6_becomesHeir_72 : decode cX6_becomesHeir 72 = .ok (.iload_n 1, 1) := by decide +kernel
theorem dX6_becomesHeir_73 : decode cX6_becomesHeir 73 = .ok (.invokevirtual 74, 3) := by decide +kernel
theorem dX6_becomesHeir_76 : decode cX6_becomesHeir 76 = .ok (.invokestatic 87, 3) := by decide +kernel
theorem dX6_becomesHeir_79 : decode cX6_becomesHeir 79 = .ok (.iadd, 1) := by decide +kernel
theorem dX6_becomesHeir_80 : decode cX6_becomesHeir 80 = .ok (.ireturn, 1) := by decide +kernel
theorem dX6_refuse_0 : decode cX6_refuse 0 = .ok (.aload_n 0, 1) := by decide +kernel
theorem dX6_refuse_1 : decode cX6_refuse 1 = .ok (.dup, 1) := by decide +kernel
theorem dX6_refuse_2 : decode cX6_refuse 2 = .ok (.getfield 35, 3) := by decide +kernel
theorem dX6_refuse_5 : decode cX6_refuse 5 = .ok (.iconst 1, 1) := by decide +kernel
theorem dX6_refuse_6 : decode cX6_refuse 6 = .ok (.iadd, 1) := by decide +kernel
theorem dX6_refuse_7 : decode cX6_refuse 7 = .ok (.putfield 35, 3) := by decide +kernel
theorem dX6_refuse_10 : decode cX6_refuse 10 = .ok (.iload_n 1, 1) := by decide +kernel
theorem dX6_refuse_11 : decode cX6_refuse 11 = .ok (.ireturn, 1) := by decide +kernel
theorem dX6_add_0 : decode cX6_add 0 = .ok (.aload_n 0, 1) := by decide +kernel
theorem dX6_add_1 : decode cX6_add 1 = .ok (.getfield 28, 3) := by decide +kernel
theorem dX6_add_4 : decode cX6_add 4 = .ok (.istore 5, 2) := by decide +kernel
theorem dX6_add_6 : decode cX6_add 6 = .ok (.iload 5, 2) := by decide +kernel
theorem dX6_add_8 : decode cX6_add 8 = .ok (.bipush 20, 2) := by decide +kernel
theorem dX6_add_10 : decode cX6_add 10 = .ok (.if_icmp .lt 6, 3) := by decide +kernel
theorem dX6_add_13 : decode cX6_add 13 = .ok (.bipush (-3), 2) := by decide +kernel
theorem dX6_add_15 : decode cX6_add 15 = .ok (.ireturn, 1) := by decide +kernel
theorem dX6_add_16 : decode cX6_add 16 = .ok (.aload_n 0, 1) := by decide +kernel
theorem dX6_add_17 : decode cX6_add 17 = .ok (.getfield 9, 3) := by decide +kernel
theorem dX6_add_20 : decode cX6_add 20 = .ok (.iload 5, 2) := by decide +kernel
theorem dX6_add_22 : decode cX6_add 22 = .ok (.iload_n 1, 1) := by decide +kernel
theorem dX6_add_23 : decode cX6_add 23 = .ok (.iastore, 1) := by decide +kernel
theorem dX6_add_24 : decode cX6_add 24 = .ok (.aload_n 0, 1) := by decide +kernel
theorem dX6_add_25 : decode cX6_add 25 = .ok (.getfield 15, 3) := by decide +kernel
theorem dX6_add_28 : decode cX6_add 28 = .ok (.iload 5, 2) := by decide +kernel
theorem dX6_add_30 : decode cX6_add 30 = .ok (.iconst 1, 1) := by decide +kernel
theorem dX6_add_31 : decode cX6_add 31 = .ok (.bastore, 1) := by decide +kernel
theorem dX6_add_32 : decode cX6_add 32 = .ok (.aload_n 0, 1) := by decide +kernel
theorem dX6_add_33 : decode cX6_add 33 = .ok (.getfield 19, 3) := by decide +kernel
theorem dX6_add_36 : decode cX6_add 36 = .ok (.iload 5, 2) := by decide +kernel
theorem dX6_add_38 : decode cX6_add 38 = .ok (.iload_n 2, 1) := by decide +kernel
theorem dX6_add_39 : decode cX6_add 39 = .ok (.iastore, 1) := by decide +kernel
theorem dX6_add_40 : decode cX6_add 40 = .ok (.aload_n 0, 1) := by decide +kernel
theorem dX6_add_41 : decode cX6_add 41 = .ok (.getfield 22, 3) := by decide +kernel
theorem dX6_add_44 : decode cX6_add 44 = .ok (.iload 5, 2) := by decide +kernel
theorem dX6_add_46 : decode cX6_add 46 = .ok (.iload_n 3, 1) := by decide +kernel
theorem dX6_add_47 : decode cX6_add 47 = .ok (.iastore, 1) := by decide +kernel
theorem dX6_add_48 : decode cX6_add 48 = .ok (.aload_n 0, 1) := by decide +kernel
theorem dX6_add_49 : decode cX6_add 49 = .ok (.getfield 25, 3) := by decide +kernel
theorem dX6_add_52 : decode cX6_add 52 = .ok (.iload 5, 2) := by decide +kernel
theorem dX6_add_54 : decode cX6_add 54 = .ok (.iload 4, 2) := by decide +kernel
theorem dX6_add_56 : decode cX6_add 56 = .ok (.iastore, 1) := by decide +kernel
theorem dX6_add_57 : decode cX6_add 57 = .ok (.aload_n 0, 1) := by decide +kernel
theorem dX6_add_58 : decode cX6_add 58 = .ok (.dup, 1) := by decide +kernel
theorem dX6_add_59 : decode cX6_add 59 = .ok (.getfield 28, 3) := by decide +kernel
theorem dX6_add_62 : decode cX6_add 62 = .ok (.iconst 1, 1) := by decide +kernel
theorem dX6_add_63 : decode cX6_add 63 = .ok (.iadd, 1) := by decide +kernel
theorem dX6_add_64 : decode cX6_add 64 = .ok (.putfield 28, 3) := by decide +kernel
theorem dX6_add_67 : decode cX6_add 67 = .ok (.bipush 10, 2) := by decide +kernel
theorem dX6_add_69 : decode cX6_add 69 = .ok (.iload 5, 2) := by decide +kernel
theorem dX6_add_71 : decode cX6_add 71 = .ok (.iadd, 1) := by decide +kernel
theorem dX6_add_72 : decode cX6_add 72 = .ok (.ireturn, 1) := by decide +kernel
theorem dX6_reasonAgainstSon_0 : decode cX6_reasonAgainstSon 0 = .ok (.aload_n 0, 1) := by decide +kernel
theorem dX6_reasonAgainstSon_1 : decode cX6_reasonAgainstSon 1 = .ok (.iload_n 1, 1) := by decide +kernel
theorem dX6_reasonAgainstSon_2 : decode cX6_reasonAgainstSon 2 = .ok (.invokevirtual 42, 3) := by decide +kernel
theorem dX6_reasonAgainstSon_5 : decode cX6_reasonAgainstSon 5 = .ok (.ifCond .ne 5, 3) := by decide +kernel
theorem dX6_reasonAgainstSon_8 : decode cX6_reasonAgainstSon 8 = .ok (.iconst 1, 1) := by decide +kernel
theorem dX6_reasonAgainstSon_9 : decode cX6_reasonAgainstSon 9 = .ok (.ireturn, 1) := by decide +kernel
theorem dX6_reasonAgainstSon_10 : decode cX6_reasonAgainstSon 10 = .ok (.aload_n 0, 1) := by decide +kernel
theorem dX6_reasonAgainstSon_11 : decode cX6_reasonAgainstSon 11 = .ok (.iload_n 1, 1) := by decide +kernel
theorem dX6_reasonAgainstSon_12 : decode cX6_reasonAgainstSon 12 = .ok (.invokevirtual 74, 3) := by decide +kernel
theorem dX6_reasonAgainstSon_15 : decode cX6_reasonAgainstSon 15 = .ok (.iload_n 2, 1) := by decide +kernel
theorem dX6_reasonAgainstSon_16 : decode cX6_reasonAgainstSon 16 = .ok (.invokestatic 91, 3) := by decide +kernel
theorem dX6_reasonAgainstSon_19 : decode cX6_reasonAgainstSon 19 = .ok (.iload_n 3, 1) := by decide +kernel
theorem dX6_reasonAgainstSon_20 : decode cX6_reasonAgainstSon 20 = .ok (.if_icmp .ne 5, 3) := by decide +kernel
theorem dX6_reasonAgainstSon_23 : decode cX6_reasonAgainstSon 23 = .ok (.iconst 2, 1) := by decide +kernel
theorem dX6_reasonAgainstSon_24 : decode cX6_reasonAgainstSon 24 = .ok (.ireturn, 1) := by decide +kernel
theorem dX6_reasonAgainstSon_25 : decode cX6_reasonAgainstSon 25 = .ok (.aload_n 0, 1) := by decide +kernel
theorem dX6_reasonAgainstSon_26 : decode cX6_reasonAgainstSon 26 = .ok (.aload_n 0, 1) := by decide +kernel
theorem dX6_reasonAgainstSon_27 : decode cX6_reasonAgainstSon 27 = .ok (.iload_n 1, 1) := by decide +kernel
theorem dX6_reasonAgainstSon_28 : decode cX6_reasonAgainstSon 28 = .ok (.invokevirtual 74, 3) := by decide +kernel
theorem dX6_reasonAgainstSon_31 : decode cX6_reasonAgainstSon 31 = .ok (.iload_n 2, 1) := by decide +kernel
theorem dX6_reasonAgainstSon_32 : decode cX6_reasonAgainstSon 32 = .ok (.iload_n 3, 1) := by decide +kernel
theorem dX6_reasonAgainstSon_33 : decode cX6_reasonAgainstSon 33 = .ok (.invokestatic 77, 3) := by decide +kernel
theorem dX6_reasonAgainstSon_36 : decode cX6_reasonAgainstSon 36 = .ok (.invokevirtual 54, 3) := by decide +kernel
theorem dX6_reasonAgainstSon_39 : decode cX6_reasonAgainstSon 39 = .ok (.iconst (-1), 1) := by decide +kernel
theorem dX6_reasonAgainstSon_40 : decode cX6_reasonAgainstSon 40 = .ok (.if_icmp .eq 5, 3) := by decide +kernel
theorem dX6_reasonAgainstSon_43 : decode cX6_reasonAgainstSon 43 = .ok (.iconst 3, 1) := by decide +kernel
theorem dX6_reasonAgainstSon_44 : decode cX6_reasonAgainstSon 44 = .ok (.ireturn, 1) := by decide +kernel
theorem dX6_reasonAgainstSon_45 : decode cX6_reasonAgainstSon 45 = .ok (.aload_n 0, 1) := by decide +kernel
theorem dX6_reasonAgainstSon_46 : decode cX6_reasonAgainstSon 46 = .ok (.iload_n 1, 1) := by decide +kernel
theorem dX6_reasonAgainstSon_47 : decode cX6_reasonAgainstSon 47 = .ok (.iload_n 2, 1) := by decide +kernel
theorem dX6_reasonAgainstSon_48 : decode cX6_reasonAgainstSon 48 = .ok (.invokevirtual 94, 3) := by decide +kernel
theorem dX6_reasonAgainstSon_51 : decode cX6_reasonAgainstSon 51 = .ok (.ifCond .eq 5, 3) := by decide +kernel
theorem dX6_reasonAgainstSon_54 : decode cX6_reasonAgainstSon 54 = .ok (.iconst 4, 1) := by decide +kernel
theorem dX6_reasonAgainstSon_55 : decode cX6_reasonAgainstSon 55 = .ok (.ireturn, 1) := by decide +kernel
theorem dX6_reasonAgainstSon_56 : decode cX6_reasonAgainstSon 56 = .ok (.aload_n 0, 1) := by decide +kernel
theorem dX6_reasonAgainstSon_57 : decode cX6_reasonAgainstSon 57 = .ok (.iload_n 1, 1) := by decide +kernel
theorem dX6_reasonAgainstSon_58 : decode cX6_reasonAgainstSon 58 = .ok (.invokevirtual 98, 3) := by decide +kernel
theorem dX6_reasonAgainstSon_61 : decode cX6_reasonAgainstSon 61 = .ok (.iconst 4, 1) := by decide +kernel
theorem dX6_reasonAgainstSon_62 : decode cX6_reasonAgainstSon 62 = .ok (.if_icmp .lt 7, 3) := by decide +kernel
theorem dX6_reasonAgainstSon_65 : decode cX6_reasonAgainstSon 65 = .ok (.iconst 5, 1) := by decide +kernel
theorem dX6_reasonAgainstSon_66 : decode cX6_reasonAgainstSon 66 = .ok (.goto 4, 3) := by decide +kernel
theorem dX6_reasonAgainstSon_69 : decode cX6_reasonAgainstSon 69 = .ok (.iconst 0, 1) := by decide +kernel
theorem dX6_reasonAgainstSon_70 : decode cX6_reasonAgainstSon 70 = .ok (.ireturn, 1) := by decide +kernel
theorem dX6_cousinChanged_0 : decode cX6_cousinChanged 0 = .ok (.iconst 0, 1) := by decide +kernel
theorem dX6_cousinChanged_1 : decode cX6_cousinChanged 1 = .ok (.istore_n 3, 1) := by decide +kernel
theorem dX6_cousinChanged_2 : decode cX6_cousinChanged 2 = .ok (.iload_n 3, 1) := by decide +kernel
theorem dX6_cousinChanged_3 : decode cX6_cousinChanged 3 = .ok (.aload_n 0, 1) := by decide +kernel
theorem dX6_cousinChanged_4 : decode cX6_cousinChanged 4 = .ok (.getfield 28, 3) := by decide +kernel
theorem dX6_cousinChanged_7 : decode cX6_cousinChanged 7 = .ok (.if_icmp .ge 41, 3) := by decide +kernel
theorem dX6_cousinChanged_10 : decode cX6_cousinChanged 10 = .ok (.aload_n 0, 1) := by decide +kernel
theorem dX6_cousinChanged_11 : decode cX6_cousinChanged 11 = .ok (.iload_n 3, 1) := by decide +kernel
theorem dX6_cousinChanged_12 : decode cX6_cousinChanged 12 = .ok (.invokevirtual 42, 3) := by decide +kernel
theorem dX6_cousinChanged_15 : decode cX6_cousinChanged 15 = .ok (.ifCond .eq 27, 3) := by decide +kernel
theorem dX6_cousinChanged_18 : decode cX6_cousinChanged 18 = .ok (.aload_n 0, 1) := by decide +kernel
theorem dX6_cousinChanged_19 : decode cX6_cousinChanged 19 = .ok (.iload_n 3, 1) := by decide +kernel
theorem dX6_cousinChanged_20 : decode cX6_cousinChanged 20 = .ok (.invokevirtual 101, 3) := by decide +kernel
theorem dX6_cousinChanged_23 : decode cX6_cousinChanged 23 = .ok (.iload_n 2, 1) := by decide +kernel
theorem dX6_cousinChanged_24 : decode cX6_cousinChanged 24 = .ok (.if_icmp .ne 18, 3) := by decide +kernel
theorem dX6_cousinChanged_27 : decode cX6_cousinChanged 27 = .ok (.aload_n 0, 1) := by decide +kernel
theorem dX6_cousinChanged_28 : decode cX6_cousinChanged 28 = .ok (.aload_n 0, 1) := by decide +kernel
theorem dX6_cousinChanged_29 : decode cX6_cousinChanged 29 = .ok (.iload_n 3, 1) := by decide +kernel
theorem dX6_cousinChanged_30 : decode cX6_cousinChanged 30 = .ok (.invokevirtual 45, 3) := by decide +kernel
theorem dX6_cousinChanged_33 : decode cX6_cousinChanged 33 = .ok (.iload_n 1, 1) := by decide +kernel
theorem dX6_cousinChanged_34 : decode cX6_cousinChanged 34 = .ok (.invokevirtual 104, 3) := by decide +kernel
theorem dX6_cousinChanged_37 : decode cX6_cousinChanged 37 = .ok (.ifCond .eq 5, 3) := by decide +kernel
theorem dX6_cousinChanged_40 : decode cX6_cousinChanged 40 = .ok (.iconst 1, 1) := by decide +kernel
theorem dX6_cousinChanged_41 : decode cX6_cousinChanged 41 = .ok (.ireturn, 1) := by decide +kernel
theorem dX6_cousinChanged_42 : decode cX6_cousinChanged 42 = .ok (.iinc 3 1, 3) := by decide +kernel
theorem dX6_cousinChanged_45 : decode cX6_cousinChanged 45 = .ok (.goto (-43), 3) := by decide +kernel
theorem dX6_cousinChanged_48 : decode cX6_cousinChanged 48 = .ok (.iconst 0, 1) := by decide +kernel
theorem dX6_cousinChanged_49 : decode cX6_cousinChanged 49 = .ok (.ireturn, 1) := by decide +kernel
theorem dX6_reasonAgainstHeir_0 : decode cX6_reasonAgainstHeir 0 = .ok (.aload_n 0, 1) := by decide +kernel
theorem dX6_reasonAgainstHeir_1 : decode cX6_reasonAgainstHeir 1 = .ok (.iload_n 1, 1) := by decide +kernel
theorem dX6_reasonAgainstHeir_2 : decode cX6_reasonAgainstHeir 2 = .ok (.invokevirtual 45, 3) := by decide +kernel
theorem dX6_reasonAgainstHeir_5 : decode cX6_reasonAgainstHeir 5 = .ok (.istore_n 2, 1) := by decide +kernel
theorem dX6_reasonAgainstHeir_6 : decode cX6_reasonAgainstHeir 6 = .ok (.iload_n 2, 1) := by decide +kernel
theorem dX6_reasonAgainstHeir_7 : decode cX6_reasonAgainstHeir 7 = .ok (.iconst (-1), 1) := by decide +kernel
theorem dX6_reasonAgainstHeir_8 : decode cX6_reasonAgainstHeir 8 = .ok (.if_icmp .eq 11, 3) := by decide +kernel
theorem dX6_reasonAgainstHeir_11 : decode cX6_reasonAgainstHeir 11 = .ok (.aload_n 0, 1) := by decide +kernel
theorem dX6_reasonAgainstHeir_12 : decode cX6_reasonAgainstHeir 12 = .ok (.iload_n 2, 1) := by decide +kernel
theorem dX6_reasonAgainstHeir_13 : decode cX6_reasonAgainstHeir 13 = .ok (.invokevirtual 42, 3) := by decide +kernel
theorem dX6_reasonAgainstHeir_16 : decode cX6_reasonAgainstHeir 16 = .ok (.ifCond .eq 6, 3) := by decide +kernel
theorem dX6_reasonAgainstHeir_19 : decode cX6_reasonAgainstHeir 19 = .ok (.bipush 7, 2) := by decide +kernel
theorem dX6_reasonAgainstHeir_21 : decode cX6_reasonAgainstHeir 21 = .ok (.ireturn, 1) := by decide +kernel
theorem dX6_reasonAgainstHeir_22 : decode cX6_reasonAgainstHeir 22 = .ok (.iconst 0, 1) := by decide +kernel
theorem dX6_reasonAgainstHeir_23 : decode cX6_reasonAgainstHeir 23 = .ok (.istore_n 3, 1) := by decide +kernel
theorem dX6_reasonAgainstHeir_24 : decode cX6_reasonAgainstHeir 24 = .ok (.iload_n 3, 1) := by decide +kernel
theorem dX6_reasonAgainstHeir_25 : decode cX6_reasonAgainstHeir 25 = .ok (.iload_n 1, 1) := by decide +kernel
theorem dX6_reasonAgainstHeir_26 : decode cX6_reasonAgainstHeir 26 = .ok (.if_icmp .ge 29, 3) := by decide +kernel
theorem dX6_reasonAgainstHeir_29 : decode cX6_reasonAgainstHeir 29 = .ok (.aload_n 0, 1) := by decide +kernel
theorem dX6_reasonAgainstHeir_30 : decode cX6_reasonAgainstHeir 30 = .ok (.iload_n 3, 1) := by decide +kernel
theorem dX6_reasonAgainstHeir_31 : decode cX6_reasonAgainstHeir 31 = .ok (.invokevirtual 42, 3) := by decide +kernel
theorem dX6_reasonAgainstHeir_34 : decode cX6_reasonAgainstHeir 34 = .ok (.ifCond .eq 15, 3) := by decide +kernel
theorem dX6_reasonAgainstHeir_37 : decode cX6_reasonAgainstHeir 37 = .ok (.aload_n 0, 1) := by decide +kernel
theorem dX6_reasonAgainstHeir_38 : decode cX6_reasonAgainstHeir 38 = .ok (.iload_n 3, 1) := by decide +kernel
theorem dX6_reasonAgainstHeir_39 : decode cX6_reasonAgainstHeir 39 = .ok (.iload_n 1, 1) := by decide +kernel
theorem dX6_reasonAgainstHeir_40 : decode cX6_reasonAgainstHeir 40 = .ok (.invokevirtual 104, 3) := by decide +kernel
theorem dX6_reasonAgainstHeir_43 : decode cX6_reasonAgainstHeir 43 = .ok (.ifCond .eq 6, 3) := by decide +kernel
theorem dX6_reasonAgainstHeir_46 : decode cX6_reasonAgainstHeir 46 = .ok (.bipush 8, 2) := by decide +kernel
theorem dX6_reasonAgainstHeir_48 : decode cX6_reasonAgainstHeir 48 = .ok (.ireturn, 1) := by decide +kernel
theorem dX6_reasonAgainstHeir_49 : decode cX6_reasonAgainstHeir 49 = .ok (.iinc 3 1, 3) := by decide +kernel
theorem dX6_reasonAgainstHeir_52 : decode cX6_reasonAgainstHeir 52 = .ok (.goto (-28), 3) := by decide +kernel
theorem dX6_reasonAgainstHeir_55 : decode cX6_reasonAgainstHeir 55 = .ok (.aload_n 0, 1) := by decide +kernel
theorem dX6_reasonAgainstHeir_56 : decode cX6_reasonAgainstHeir 56 = .ok (.aload_n 0, 1) := by decide +kernel
theorem dX6_reasonAgainstHeir_57 : decode cX6_reasonAgainstHeir 57 = .ok (.iload_n 2, 1) := by decide +kernel
theorem dX6_reasonAgainstHeir_58 : decode cX6_reasonAgainstHeir 58 = .ok (.invokevirtual 74, 3) := by decide +kernel
theorem dX6_reasonAgainstHeir_61 : decode cX6_reasonAgainstHeir 61 = .ok (.invokevirtual 54, 3) := by decide +kernel
theorem dX6_reasonAgainstHeir_64 : decode cX6_reasonAgainstHeir 64 = .ok (.iconst (-1), 1) := by decide +kernel
theorem dX6_reasonAgainstHeir_65 : decode cX6_reasonAgainstHeir 65 = .ok (.if_icmp .eq 7, 3) := by decide +kernel
theorem dX6_reasonAgainstHeir_68 : decode cX6_reasonAgainstHeir 68 = .ok (.iconst 3, 1) := by decide +kernel
theorem dX6_reasonAgainstHeir_69 : decode cX6_reasonAgainstHeir 69 = .ok (.goto 4, 3) := by decide +kernel
theorem dX6_reasonAgainstHeir_72 : decode cX6_reasonAgainstHeir 72 = .ok (.iconst 0, 1) := by decide +kernel
theorem dX6_reasonAgainstHeir_73 : decode cX6_reasonAgainstHeir 73 = .ok (.ireturn, 1) := by decide +kernel
theorem dX7_init_0 : decode cX7_init 0 = .ok (.aload_n 0, 1) := by decide +kernel
theorem dX7_init_1 : decode cX7_init 1 = .ok (.invokespecial 3, 3) := by decide +kernel
theorem dX7_init_4 : decode cX7_init 4 = .ok (.aload_n 0, 1) := by decide +kernel
theorem dX7_init_5 : decode cX7_init 5 = .ok (.sipush 245, 3) := by decide +kernel
theorem dX7_init_8 : decode cX7_init 8 = .ok (.newarray .long, 2) := by decide +kernel
theorem dX7_init_10 : decode cX7_init 10 = .ok (.putfield 11, 3) := by decide +kernel
theorem dX7_init_13 : decode cX7_init 13 = .ok (.return_, 1) := by decide +kernel
theorem dX7_has_0 : decode cX7_has 0 = .ok (.iload_n 1, 1) := by decide +kernel
theorem dX7_has_1 : decode cX7_has 1 = .ok (.invokestatic 15, 3) := by decide +kernel
theorem dX7_has_4 : decode cX7_has 4 = .ok (.ifCond .eq 28, 3) := by decide +kernel
theorem dX7_has_7 : decode cX7_has 7 = .ok (.aload_n 0, 1) := by decide +kernel
theorem dX7_has_8 : decode cX7_has 8 = .ok (.getfield 11, 3) := by decide +kernel
theorem dX7_has_11 : decode cX7_has 11 = .ok (.iload_n 1, 1) := by decide +kernel
theorem dX7_has_12 : decode cX7_has 12 = .ok (.bipush 6, 2) := by decide +kernel
theorem dX7_has_14 : decode cX7_has 14 = .ok (.ishr, 1) := by decide +kernel
theorem dX7_has_15 : decode cX7_has 15 = .ok (.laload, 1) := by decide +kernel
theorem dX7_has_16 : decode cX7_has 16 = .ok (.iload_n 1, 1) := by decide +kernel
theorem dX7_has_17 : decode cX7_has 17 = .ok (.bipush 63, 2) := by decide +kernel
theorem dX7_has_19 : decode cX7_has 19 = .ok (.iand, 1) := by decide +kernel
theorem dX7_has_20 : decode cX7_has 20 = .ok (.lushr, 1) := by decide +kernel
theorem dX7_has_21 : decode cX7_has 21 = .ok (.lconst 1, 1) := by decide +kernel
theorem dX7_has_22 : decode cX7_has 22 = .ok (.land, 1) := by decide +kernel
theorem dX7_has_23 : decode cX7_has 23 = .ok (.lconst 0, 1) := by decide +kernel
theorem dX7_has_24 : decode cX7_has 24 = .ok (.lcmp, 1) := by decide +kernel
theorem dX7_has_25 : decode cX7_has 25 = .ok (.ifCond .eq 7, 3) := by decide +kernel
theorem dX7_has_28 : decode cX7_has 28 = .ok (.iconst 1, 1) := by decide +kernel
theorem dX7_has_29 : decode cX7_has 29 = .ok (.goto 4, 3) := by decide +kernel
theorem dX7_has_32 : decode cX7_has 32 = .ok (.iconst 0, 1) := by decide +kernel
theorem dX7_has_33 : decode cX7_has 33 = .ok (.ireturn, 1) := by decide +kernel
theorem dX7_add_0 : decode cX7_add 0 = .ok (.iload_n 1, 1) := by decide +kernel
theorem dX7_add_1 : decode cX7_add 1 = .ok (.invokestatic 15, 3) := by decide +kernel
theorem dX7_add_4 : decode cX7_add 4 = .ok (.ifCond .eq 21, 3) := by decide +kernel
theorem dX7_add_7 : decode cX7_add 7 = .ok (.aload_n 0, 1) := by decide +kernel
theorem dX7_add_8 : decode cX7_add 8 = .ok (.getfield 11, 3) := by decide +kernel
theorem dX7_add_11 : decode cX7_add 11 = .ok (.iload_n 1, 1) := by decide +kernel
theorem dX7_add_12 : decode cX7_add 12 = .ok (.bipush 6, 2) := by decide +kernel
theorem dX7_add_14 : decode cX7_add 14 = .ok (.ishr, 1) := by decide +kernel
theorem dX7_add_15 : decode cX7_add 15 = .ok (.dup2, 1) := by decide +kernel
theorem dX7_add_16 : decode cX7_add 16 = .ok (.laload, 1) := by decide +kernel
theorem dX7_add_17 : decode cX7_add 17 = .ok (.lconst 1, 1) := by decide +kernel
theorem dX7_add_18 : decode cX7_add 18 = .ok (.iload_n 1, 1) := by decide +kernel
theorem dX7_add_19 : decode cX7_add 19 = .ok (.bipush 63, 2) := by decide +kernel
theorem dX7_add_21 : decode cX7_add 21 = .ok (.iand, 1) := by decide +kernel
theorem dX7_add_22 : decode cX7_add 22 = .ok (.lshl, 1) := by decide +kernel
theorem dX7_add_23 : decode cX7_add 23 = .ok (.lor, 1) := by decide +kernel
theorem dX7_add_24 : decode cX7_add 24 = .ok (.lastore, 1) := by decide +kernel
theorem dX7_add_25 : decode cX7_add 25 = .ok (.return_, 1) := by decide +kernel
theorem dX7_empty_0 : decode cX7_empty 0 = .ok (.iconst 0, 1) := by decide +kernel
theorem dX7_empty_1 : decode cX7_empty 1 = .ok (.istore_n 1, 1) := by decide +kernel
theorem dX7_empty_2 : decode cX7_empty 2 = .ok (.iload_n 1, 1) := by decide +kernel
theorem dX7_empty_3 : decode cX7_empty 3 = .ok (.sipush 245, 3) := by decide +kernel
theorem dX7_empty_6 : decode cX7_empty 6 = .ok (.if_icmp .ge 16, 3) := by decide +kernel
theorem dX7_empty_9 : decode cX7_empty 9 = .ok (.aload_n 0, 1) := by decide +kernel
theorem dX7_empty_10 : decode cX7_empty 10 = .ok (.getfield 11, 3) := by decide +kernel
theorem dX7_empty_13 : decode cX7_empty 13 = .ok (.iload_n 1, 1) := by decide +kernel
theorem dX7_empty_14 : decode cX7_empty 14 = .ok (.lconst 0, 1) := by decide +kernel
theorem dX7_empty_15 : decode cX7_empty 15 = .ok (.lastore, 1) := by decide +kernel
theorem dX7_empty_16 : decode cX7_empty 16 = .ok (.iinc 1 1, 3) := by decide +kernel
theorem dX7_empty_19 : decode cX7_empty 19 = .ok (.goto (-17), 3) := by decide +kernel
theorem dX7_empty_22 : decode cX7_empty 22 = .ok (.return_, 1) := by decide +kernel
theorem dX7_isWordEmpty_0 : decode cX7_isWordEmpty 0 = .ok (.iload_n 1, 1) := by decide +kernel
theorem dX7_isWordEmpty_1 : decode cX7_isWordEmpty 1 = .ok (.ifCond .lt 21, 3) := by decide +kernel
theorem dX7_isWordEmpty_4 : decode cX7_isWordEmpty 4 = .ok (.iload_n 1, 1) := by decide +kernel
theorem dX7_isWordEmpty_5 : decode cX7_isWordEmpty 5 = .ok (.sipush 245, 3) := by decide +kernel
theorem dX7_isWordEmpty_8 : decode cX7_isWordEmpty 8 = .ok (.if_icmp .ge 14, 3) := by decide +kernel
theorem dX7_isWordEmpty_11 : decode cX7_isWordEmpty 11 = .ok (.aload_n 0, 1) := by decide +kernel
theorem dX7_isWordEmpty_12 : decode cX7_isWordEmpty 12 = .ok (.getfield 11, 3) := by decide +kernel
theorem dX7_isWordEmpty_15 : decode cX7_isWordEmpty 15 = .ok (.iload_n 1, 1) := by decide +kernel
theorem dX7_isWordEmpty_16 : decode cX7_isWordEmpty 16 = .ok (.laload, 1) := by decide +kernel
theorem dX7_isWordEmpty_17 : decode cX7_isWordEmpty 17 = .ok (.lconst 0, 1) := by decide +kernel
theorem dX7_isWordEmpty_18 : decode cX7_isWordEmpty 18 = .ok (.lcmp, 1) := by decide +kernel
theorem dX7_isWordEmpty_19 : decode cX7_isWordEmpty 19 = .ok (.ifCond .ne 7, 3) := by decide +kernel
theorem dX7_isWordEmpty_22 : decode cX7_isWordEmpty 22 = .ok (.iconst 1, 1) := by decide +kernel
theorem dX7_isWordEmpty_23 : decode cX7_isWordEmpty 23 = .ok (.goto 4, 3) := by decide +kernel
theorem dX7_isWordEmpty_26 : decode cX7_isWordEmpty 26 = .ok (.iconst 0, 1) := by decide +kernel
theorem dX7_isWordEmpty_27 : decode cX7_isWordEmpty 27 = .ok (.ireturn, 1) := by decide +kernel
theorem dX8_isShield_0 : decode cX8_isShield 0 = .ok (.iload_n 0, 1) := by decide +kernel
theorem dX8_isShield_1 : decode cX8_isShield 1 = .ok (.ifCond .lt 14, 3) := by decide +kernel
theorem dX8_isShield_4 : decode cX8_isShield 4 = .ok (.iload_n 0, 1) := by decide +kernel
theorem dX8_isShield_5 : decode cX8_isShield 5 = .ok (.sipush 15625, 3) := by decide +kernel
theorem dX8_isShield_8 : decode cX8_isShield 8 = .ok (.if_icmp .ge 7, 3) := by decide +kernel
theorem dX8_isShield_11 : decode cX8_isShield 11 = .ok (.iconst 1, 1) := by decide +kernel
theorem dX8_isShield_12 : decode cX8_isShield 12 = .ok (.goto 4, 3) := by decide +kernel
theorem dX8_isShield_15 : decode cX8_isShield 15 = .ok (.iconst 0, 1) := by decide +kernel
theorem dX8_isShield_16 : decode cX8_isShield 16 = .ok (.ireturn, 1) := by decide +kernel
theorem dX8_isPlace_0 : decode cX8_isPlace 0 = .ok (.iload_n 0, 1) := by decide +kernel
theorem dX8_isPlace_1 : decode cX8_isPlace 1 = .ok (.ifCond .lt 13, 3) := by decide +kernel
theorem dX8_isPlace_4 : decode cX8_isPlace 4 = .ok (.iload_n 0, 1) := by decide +kernel
theorem dX8_isPlace_5 : decode cX8_isPlace 5 = .ok (.bipush 6, 2) := by decide +kernel
theorem dX8_isPlace_7 : decode cX8_isPlace 7 = .ok (.if_icmp .ge 7, 3) := by decide +kernel
theorem dX8_isPlace_10 : decode cX8_isPlace 10 = .ok (.iconst 1, 1) := by decide +kernel
theorem dX8_isPlace_11 : decode cX8_isPlace 11 = .ok (.goto 4, 3) := by decide +kernel
theorem dX8_isPlace_14 : decode cX8_isPlace 14 = .ok (.iconst 0, 1) := by decide +kernel
theorem dX8_isPlace_15 : decode cX8_isPlace 15 = .ok (.ireturn, 1) := by decide +kernel
theorem dX8_isMark_0 : decode cX8_isMark 0 = .ok (.iload_n 0, 1) := by decide +kernel
theorem dX8_isMark_1 : decode cX8_isMark 1 = .ok (.ifCond .lt 12, 3) := by decide +kernel
theorem dX8_isMark_4 : decode cX8_isMark 4 = .ok (.iload_n 0, 1) := by decide +kernel
theorem dX8_isMark_5 : decode cX8_isMark 5 = .ok (.iconst 5, 1) := by decide +kernel
theorem dX8_isMark_6 : decode cX8_isMark 6 = .ok (.if_icmp .ge 7, 3) := by decide +kernel
theorem dX8_isMark_9 : decode cX8_isMark 9 = .ok (.iconst 1, 1) := by decide +kernel
theorem dX8_isMark_10 : decode cX8_isMark 10 = .ok (.goto 4, 3) := by decide +kernel
theorem dX8_isMark_13 : decode cX8_isMark 13 = .ok (.iconst 0, 1) := by decide +kernel
theorem dX8_isMark_14 : decode cX8_isMark 14 = .ok (.ireturn, 1) := by decide +kernel
theorem dX8_markAt_0 : decode cX8_markAt 0 = .ok (.iload_n 0, 1) := by decide +kernel
theorem dX8_markAt_1 : decode cX8_markAt 1 = .ok (.istore_n 2, 1) := by decide +kernel
theorem dX8_markAt_2 : decode cX8_markAt 2 = .ok (.iconst 0, 1) := by decide +kernel
theorem dX8_markAt_3 : decode cX8_markAt 3 = .ok (.istore_n 3, 1) := by decide +kernel
theorem dX8_markAt_4 : decode cX8_markAt 4 = .ok (.iload_n 3, 1) := by decide +kernel
theorem dX8_markAt_5 : decode cX8_markAt 5 = .ok (.iload_n 1, 1) := by decide +kernel
theorem dX8_markAt_6 : decode cX8_markAt 6 = .ok (.if_icmp .ge 19, 3) := by decide +kernel
theorem dX8_markAt_9 : decode cX8_markAt 9 = .ok (.iload_n 3, 1) := by decide +kernel
theorem dX8_markAt_10 : decode cX8_markAt 10 = .ok (.bipush 6, 2) := by decide +kernel
theorem dX8_markAt_12 : decode cX8_markAt 12 = .ok (.if_icmp .ge 13, 3) := by decide +kernel
theorem dX8_markAt_15 : decode cX8_markAt 15 = .ok (.iload_n 2, 1) := by decide +kernel
theorem dX8_markAt_16 : decode cX8_markAt 16 = .ok (.iconst 5, 1) := by decide +kernel
theorem dX8_markAt_17 : decode cX8_markAt 17 = .ok (.idiv, 1) := by decide +kernel
theorem dX8_markAt_18 : decode cX8_markAt 18 = .ok (.istore_n 2, 1) := by decide +kernel
theorem dX8_markAt_19 : decode cX8_markAt 19 = .ok (.iinc 3 1, 3) := by decide +kernel
theorem dX8_markAt_22 : decode cX8_markAt 22 = .ok (.goto (-18), 3) := by decide +kernel
theorem dX8_markAt_25 : decode cX8_markAt 25 = .ok (.iload_n 2, 1) := by decide +kernel
theorem dX8_markAt_26 : decode cX8_markAt 26 = .ok (.iconst 5, 1) := by decide +kernel
theorem dX8_markAt_27 : decode cX8_markAt 27 = .ok (.irem, 1) := by decide +kernel
theorem dX8_markAt_28 : decode cX8_markAt 28 = .ok (.ireturn, 1) := by decide +kernel
theorem dX8_weightOf_0 : decode cX8_weightOf 0 = .ok (.iconst 1, 1) := by decide +kernel
theorem dX8_weightOf_1 : decode cX8_weightOf 1 = .ok (.istore_n 1, 1) := by decide +kernel
theorem dX8_weightOf_2 : decode cX8_weightOf 2 = .ok (.iconst 0, 1) := by decide +kernel
theorem dX8_weightOf_3 : decode cX8_weightOf 3 = .ok (.istore_n 2, 1) := by decide +kernel
theorem dX8_weightOf_4 : decode cX8_weightOf 4 = .ok (.iload_n 2, 1) := by decide +kernel
theorem dX8_weightOf_5 : decode cX8_weightOf 5 = .ok (.iload_n 0, 1) := by decide +kernel
theorem dX8_weightOf_6 : decode cX8_weightOf 6 = .ok (.if_icmp .ge 19, 3) := by decide +kernel
theorem dX8_weightOf_9 : decode cX8_weightOf 9 = .ok (.iload_n 2, 1) := by decide +kernel
theorem dX8_weightOf_10 : decode cX8_weightOf 10 = .ok (.bipush 6, 2) := by decide +kernel
theorem dX8_weightOf_12 : decode cX8_weightOf 12 = .ok (.if_icmp .ge 13, 3) := by decide +kernel
theorem dX8_weightOf_15 : decode cX8_weightOf 15 = .ok (.iload_n 1, 1) := by decide +kernel
theorem dX8_weightOf_16 : decode cX8_weightOf 16 = .ok (.iconst 5, 1) := by decide +kernel
theorem dX8_weightOf_17 : decode cX8_weightOf 17 = .ok (.imul, 1) := by decide +kernel
theorem dX8_weightOf_18 : decode cX8_weightOf 18 = .ok (.istore_n 1, 1) := by decide +kernel
theorem dX8_weightOf_19 : decode cX8_weightOf 19 = .ok (.iinc 2 1, 3) := by decide +kernel
theorem dX8_weightOf_22 : decode cX8_weightOf 22 = .ok (.goto (-18), 3) := by decide +kernel
theorem dX8_weightOf_25 : decode cX8_weightOf 25 = .ok (.iload_n 1, 1) := by decide +kernel
theorem dX8_weightOf_26 : decode cX8_weightOf 26 = .ok (.ireturn, 1) := by decide +kernel
theorem dX8_withMark_0 : decode cX8_withMark 0 = .ok (.iload_n 0, 1) := by decide +kernel
theorem dX8_withMark_1 : decode cX8_withMark 1 = .ok (.iload_n 2, 1) := by decide +kernel
theorem dX8_withMark_2 : decode cX8_withMark 2 = .ok (.iload_n 0, 1) := by decide +kernel
theorem dX8_withMark_3 : decode cX8_withMark 3 = .ok (.iload_n 1, 1) := by decide +kernel
theorem dX8_withMark_4 : decode cX8_withMark 4 = .ok (.invokestatic 9, 3) := by decide +kernel
theorem dX8_withMark_7 : decode cX8_withMark 7 = .ok (.isub, 1) := by decide +kernel
theorem dX8_withMark_8 : decode cX8_withMark 8 = .ok (.iload_n 1, 1) := by decide +kernel
theorem dX8_withMark_9 : decode cX8_withMark 9 = .ok (.invokestatic 15, 3) := by decide +kernel
theorem dX8_withMark_12 : decode cX8_withMark 12 = .ok (.imul, 1) := by decide +kernel
theorem dX8_withMark_13 : decode cX8_withMark 13 = .ok (.iadd, 1) := by decide +kernel
theorem dX8_withMark_14 : decode cX8_withMark 14 = .ok (.ireturn, 1) := by decide +kernel
theorem dX8_apart_0 : decode cX8_apart 0 = .ok (.iconst 0, 1) := by decide +kernel
theorem dX8_apart_1 : decode cX8_apart 1 = .ok (.istore_n 2, 1) := by decide +kernel
theorem dX8_apart_2 : decode cX8_apart 2 = .ok (.iconst 0, 1) := by decide +kernel
theorem dX8_apart_3 : decode cX8_apart 3 = .ok (.istore_n 3, 1) := by decide +kernel
theorem dX8_apart_4 : decode cX8_apart 4 = .ok (.iload_n 3, 1) := by decide +kernel
theorem dX8_apart_5 : decode cX8_apart 5 = .ok (.bipush 6, 2) := by decide +kernel
theorem dX8_apart_7 : decode cX8_apart 7 = .ok (.if_icmp .ge 29, 3) := by decide +kernel
theorem dX8_apart_10 : decode cX8_apart 10 = .ok (.iload_n 0, 1) := by decide +kernel
theorem dX8_apart_11 : decode cX8_apart 11 = .ok (.iconst 5, 1) := by decide +kernel
theorem dX8_apart_12 : decode cX8_apart 12 = .ok (.irem, 1) := by decide +kernel
theorem dX8_apart_13 : decode cX8_apart 13 = .ok (.iload_n 1, 1) := by decide +kernel
theorem dX8_apart_14 : decode cX8_apart 14 = .ok (.iconst 5, 1) := by decide +kernel
theorem dX8_apart_15 : decode cX8_apart 15 = .ok (.irem, 1) := by decide +kernel
theorem dX8_apart_16 : decode cX8_apart 16 = .ok (.if_icmp .eq 6, 3) := by decide +kernel
theorem dX8_apart_19 : decode cX8_apart 19 = .ok (.iinc 2 1, 3) := by decide +kernel
theorem dX8_apart_22 : decode cX8_apart 22 = .ok (.iload_n 0, 1) := by decide +kernel
theorem dX8_apart_23 : decode cX8_apart 23 = .ok (.iconst 5, 1) := by decide +kernel
theorem dX8_apart_24 : decode cX8_apart 24 = .ok (.idiv, 1) := by decide +kernel
theorem dX8_apart_25 : decode cX8_apart 25 = .ok (.istore_n 0, 1) := by decide +kernel
theorem dX8_apart_26 : decode cX8_apart 26 = .ok (.iload_n 1, 1) := by decide +kernel
theorem dX8_apart_27 : decode cX8_apart 27 = .ok (.iconst 5, 1) := by decide +kernel
theorem dX8_apart_28 : decode cX8_apart 28 = .ok (.idiv, 1) := by decide +kernel
theorem dX8_apart_29 : decode cX8_apart 29 = .ok (.istore_n 1, 1) := by decide +kernel
theorem dX8_apart_30 : decode cX8_apart 30 = .ok (.iinc 3 1, 3) := by decide +kernel
theorem dX8_apart_33 : decode cX8_apart 33 = .ok (.goto (-29), 3) := by decide +kernel
theorem dX8_apart_36 : decode cX8_apart 36 = .ok (.iload_n 2, 1) := by decide +kernel
theorem dX8_apart_37 : decode cX8_apart 37 = .ok (.ireturn, 1) := by decide +kernel
theorem dX9_init_0 : decode cX9_init 0 = .ok (.aload_n 0, 1) := by decide +kernel
theorem dX9_init_1 : decode cX9_init 1 = .ok (.invokespecial 1, 3) := by decide +kernel
theorem dX9_init_4 : decode cX9_init 4 = .ok (.aload_n 0, 1) := by decide +kernel
theorem dX9_init_5 : decode cX9_init 5 = .ok (.new 7, 3) := by decide +kernel
theorem dX9_init_8 : decode cX9_init 8 = .ok (.dup, 1) := by decide +kernel
theorem dX9_init_9 : decode cX9_init 9 = .ok (.invokespecial 9, 3) := by decide +kernel
theorem dX9_init_12 : decode cX9_init 12 = .ok (.putfield 10, 3) := by decide +kernel
theorem dX9_init_15 : decode cX9_init 15 = .ok (.aload_n 0, 1) := by decide +kernel
theorem dX9_init_16 : decode cX9_init 16 = .ok (.new 7, 3) := by decide +kernel
theorem dX9_init_19 : decode cX9_init 19 = .ok (.dup, 1) := by decide +kernel
theorem dX9_init_20 : decode cX9_init 20 = .ok (.invokespecial 9, 3) := by decide +kernel
theorem dX9_init_23 : decode cX9_init 23 = .ok (.putfield 16, 3) := by decide +kernel
theorem dX9_init_26 : decode cX9_init 26 = .ok (.aload_n 0, 1) := by decide +kernel
theorem dX9_init_27 : decode cX9_init 27 = .ok (.new 7, 3) := by decide +kernel
theorem dX9_init_30 : decode cX9_init 30 = .ok (.dup, 1) := by decide +kernel
theorem dX9_init_31 : decode cX9_init 31 = .ok (.invokespecial 9, 3) := by decide +kernel
theorem dX9_init_34 : decode cX9_init 34 = .ok (.putfield 19, 3) := by decide +kernel
theorem dX9_init_37 : decode cX9_init 37 = .ok (.aload_n 0, 1) := by decide +kernel
theorem dX9_init_38 : decode cX9_init 38 = .ok (.new 22, 3) := by decide +kernel
theorem dX9_init_41 : decode cX9_init 41 = .ok (.dup, 1) := by decide +kernel
theorem dX9_init_42 : decode cX9_init 42 = .ok (.invokespecial 24, 3) := by decide +kernel
theorem dX9_init_45 : decode cX9_init 45 = .ok (.putfield 25, 3) := by decide +kernel
theorem dX9_init_48 : decode cX9_init 48 = .ok (.aload_n 0, 1) := by decide +kernel
theorem dX9_init_49 : decode cX9_init 49 = .ok (.new 29, 3) := by decide +kernel
theorem dX9_init_52 : decode cX9_init 52 = .ok (.dup, 1) := by decide +kernel
theorem dX9_init_53 : decode cX9_init 53 = .ok (.invokespecial 31, 3) := by decide +kernel
theorem dX9_init_56 : decode cX9_init 56 = .ok (.putfield 32, 3) := by decide +kernel
theorem dX9_init_59 : decode cX9_init 59 = .ok (.aload_n 0, 1) := by decide +kernel
theorem dX9_init_60 : decode cX9_init 60 = .ok (.new 36, 3) := by decide +kernel
theorem dX9_init_63 : decode cX9_init 63 = .ok (.dup, 1) := by decide +kernel
theorem dX9_init_64 : decode cX9_init 64 = .ok (.invokespecial 38, 3) := by decide +kernel
theorem dX9_init_67 : decode cX9_init 67 = .ok (.putfield 39, 3) := by decide +kernel
theorem dX9_init_70 : decode cX9_init 70 = .ok (.aload_n 0, 1) := by decide +kernel
theorem dX9_init_71 : decode cX9_init 71 = .ok (.iconst 0, 1) := by decide +kernel
theorem dX9_init_72 : decode cX9_init 72 = .ok (.putfield 43, 3) := by decide +kernel
theorem dX9_init_75 : decode cX9_init 75 = .ok (.aload_n 0, 1) := by decide +kernel
theorem dX9_init_76 : decode cX9_init 76 = .ok (.iconst 0, 1) := by decide +kernel
theorem dX9_init_77 : decode cX9_init 77 = .ok (.putfield 47, 3) := by decide +kernel
theorem dX9_init_80 : decode cX9_init 80 = .ok (.aload_n 0, 1) := by decide +kernel
theorem dX9_init_81 : decode cX9_init 81 = .ok (.iconst 0, 1) := by decide +kernel
theorem dX9_init_82 : decode cX9_init 82 = .ok (.putfield 51, 3) := by decide +kernel
theorem dX9_init_85 : decode cX9_init 85 = .ok (.aload_n 0, 1) := by decide +kernel
theorem dX9_init_86 : decode cX9_init 86 = .ok (.iconst 0, 1) := by decide +kernel
theorem dX9_init_87 : decode cX9_init 87 = .ok (.putfield 54, 3) := by decide +kernel
theorem dX9_init_90 : decode cX9_init 90 = .ok (.return_, 1) := by decide +kernel
end
section
theorem dX9_found_0 : decode cX9_found 0 = .ok (.aload_n 0, 1) := by decide +kernel
theorem dX9_found_1 : decode cX9_found 1 = .ok (.getfield 25, 3) := by decide +kernel
theorem dX9_found_4 : decode cX9_found 4 = .ok (.aload_n 0, 1) := by decide +kernel
theorem dX9_found_5 : decode cX9_found 5 = .ok (.getfield 10, 3) := by decide +kernel
theorem dX9_found_8 : decode cX9_found 8 = .ok (.invokevirtual 57, 3) := by decide +kernel
theorem dX9_found_11 : decode cX9_found 11 = .ok (.aload_n 0, 1) := by decide +kernel
theorem dX9_found_12 : decode cX9_found 12 = .ok (.aload_n 0, 1) := by decide +kernel
theorem dX9_found_13 : decode cX9_found 13 = .ok (.getfield 10, 3) := by decide +kernel
theorem dX9_found_16 : decode cX9_found 16 = .ok (.iload_n 1, 1) := by decide +kernel
theorem dX9_found_17 : decode cX9_found 17 = .ok (.invokevirtual 61, 3) := by decide +kernel
theorem dX9_found_20 : decode cX9_found 20 = .ok (.invokevirtual 65, 3) := by decide +kernel
theorem dX9_found_23 : decode cX9_found 23 = .ok (.ireturn, 1) := by decide +kernel
theorem dX9_bear_0 : decode cX9_bear 0 = .ok (.aload_n 0, 1) := by decide +kernel
theorem dX9_bear_1 : decode cX9_bear 1 = .ok (.getfield 25, 3) := by decide +kernel
theorem dX9_bear_4 : decode cX9_bear 4 = .ok (.aload_n 0, 1) := by decide +kernel
theorem dX9_bear_5 : decode cX9_bear 5 = .ok (.getfield 10, 3) := by decide +kernel
theorem dX9_bear_8 : decode cX9_bear 8 = .ok (.invokevirtual 57, 3) := by decide +kernel
theorem dX9_bear_11 : decode cX9_bear 11 = .ok (.aload_n 0, 1) := by decide +kernel
theorem dX9_bear_12 : decode cX9_bear 12 = .ok (.aload_n 0, 1) := by decide +kernel
theorem dX9_bear_13 : decode cX9_bear 13 = .ok (.getfield 10, 3) := by decide +kernel
theorem dX9_bear_16 : decode cX9_bear 16 = .ok (.iload_n 1, 1) := by decide +kernel
theorem dX9_bear_17 : decode cX9_bear 17 = .ok (.iload_n 2, 1) := by decide +kernel
theorem dX9_bear_18 : decode cX9_bear 18 = .ok (.iload_n 3, 1) := by decide +kernel
theorem dX9_bear_19 : decode cX9_bear 19 = .ok (.invokevirtual 68, 3) := by decide +kernel
theorem dX9_bear_22 : decode cX9_bear 22 = .ok (.invokevirtual 65, 3) := by decide +kernel
theorem dX9_bear_25 : decode cX9_bear 25 = .ok (.ireturn, 1) := by decide +kernel
theorem dX9_die_0 : decode cX9_die 0 = .ok (.aload_n 0, 1) := by decide +kernel
theorem dX9_die_1 : decode cX9_die 1 = .ok (.getfield 25, 3) := by decide +kernel
theorem dX9_die_4 : decode cX9_die 4 = .ok (.aload_n 0, 1) := by decide +kernel
theorem dX9_die_5 : decode cX9_die 5 = .ok (.getfield 10, 3) := by decide +kernel
theorem dX9_die_8 : decode cX9_die 8 = .ok (.invokevirtual 57, 3) := by decide +kernel
theorem dX9_die_11 : decode cX9_die 11 = .ok (.aload_n 0, 1) := by decide +kernel
theorem dX9_die_12 : decode cX9_die 12 = .ok (.aload_n 0, 1) := by decide +kernel
theorem dX9_die_13 : decode cX9_die 13 = .ok (.getfield 10, 3) := by decide +kernel
theorem dX9_die_16 : decode cX9_die 16 = .ok (.iload_n 1, 1) := by decide +kernel
theorem dX9_die_17 : decode cX9_die 17 = .ok (.invokevirtual 72, 3) := by decide +kernel
theorem dX9_die_20 : decode cX9_die 20 = .ok (.invokevirtual 65, 3) := by decide +kernel
theorem dX9_die_23 : decode cX9_die 23 = .ok (.ireturn, 1) := by decide +kernel
theorem dX9_inherit_0 : decode cX9_inherit 0 = .ok (.aload_n 0, 1) := by decide +kernel
theorem dX9_inherit_1 : decode cX9_inherit 1 = .ok (.getfield 25, 3) := by decide +kernel
theorem dX9_inherit_4 : decode cX9_inherit 4 = .ok (.aload_n 0, 1) := by decide +kernel
theorem dX9_inherit_5 : decode cX9_inherit 5 = .ok (.getfield 10, 3) := by decide +kernel
theorem dX9_inherit_8 : decode cX9_inherit 8 = .ok (.invokevirtual 57, 3) := by decide +kernel
theorem dX9_inherit_11 : decode cX9_inherit 11 = .ok (.aload_n 0, 1) := by decide +kernel
theorem dX9_inherit_12 : decode cX9_inherit 12 = .ok (.aload_n 0, 1) := by decide +kernel
theorem dX9_inherit_13 : decode cX9_inherit 13 = .ok (.getfield 10, 3) := by decide +kernel
theorem dX9_inherit_16 : decode cX9_inherit 16 = .ok (.iload_n 1, 1) := by decide +kernel
theorem dX9_inherit_17 : decode cX9_inherit 17 = .ok (.invokevirtual 75, 3) := by decide +kernel
theorem dX9_inherit_20 : decode cX9_inherit 20 = .ok (.invokevirtual 65, 3) := by decide +kernel
theorem dX9_inherit_23 : decode cX9_inherit 23 = .ok (.ireturn, 1) := by decide +kernel
theorem dX9_keepIfChanged_0 : decode cX9_keepIfChanged 0 = .ok (.iload_n 1, 1) := by decide +kernel
theorem dX9_keepIfChanged_1 : decode cX9_keepIfChanged 1 = .ok (.ifCond .lt 10, 3) := by decide +kernel
theorem dX9_keepIfChanged_4 : decode cX9_keepIfChanged 4 = .ok (.aload_n 0, 1) := by decide +kernel
theorem dX9_keepIfChanged_5 : decode cX9_keepIfChanged 5 = .ok (.getfield 25, 3) := by decide +kernel
theorem dX9_keepIfChanged_8 : decode cX9_keepIfChanged 8 = .ok (.invokevirtual 78, 3) := by decide +kernel
theorem dX9_keepIfChanged_11 : decode cX9_keepIfChanged 11 = .ok (.iload_n 1, 1) := by decide +kernel
theorem dX9_keepIfChanged_12 : decode cX9_keepIfChanged 12 = .ok (.ireturn, 1) := by decide +kernel
theorem dX9_append_0 : decode cX9_append 0 = .ok (.iload_n 1, 1) := by decide +kernel
theorem dX9_append_1 : decode cX9_append 1 = .ok (.bipush 33, 2) := by decide +kernel
theorem dX9_append_3 : decode cX9_append 3 = .ok (.if_icmp .lt 9, 3) := by decide +kernel
theorem dX9_append_6 : decode cX9_append 6 = .ok (.iload_n 1, 1) := by decide +kernel
theorem dX9_append_7 : decode cX9_append 7 = .ok (.bipush 126, 2) := by decide +kernel
theorem dX9_append_9 : decode cX9_append 9 = .ok (.if_icmp .le 5, 3) := by decide +kernel
theorem dX9_append_12 : decode cX9_append 12 = .ok (.iconst (-1), 1) := by decide +kernel
theorem dX9_append_13 : decode cX9_append 13 = .ok (.ireturn, 1) := by decide +kernel
theorem dX9_append_14 : decode cX9_append 14 = .ok (.aload_n 0, 1) := by decide +kernel
theorem dX9_append_15 : decode cX9_append 15 = .ok (.getfield 32, 3) := by decide +kernel
theorem dX9_append_18 : decode cX9_append 18 = .ok (.invokevirtual 81, 3) := by decide +kernel
theorem dX9_append_21 : decode cX9_append 21 = .ok (.ifCond .eq 6, 3) := by decide +kernel
theorem dX9_append_24 : decode cX9_append 24 = .ok (.bipush (-3), 2) := by decide +kernel
theorem dX9_append_26 : decode cX9_append 26 = .ok (.ireturn, 1) := by decide +kernel
theorem dX9_append_27 : decode cX9_append 27 = .ok (.aload_n 0, 1) := by decide +kernel
theorem dX9_append_28 : decode cX9_append 28 = .ok (.getfield 32, 3) := by decide +kernel
theorem dX9_append_31 : decode cX9_append 31 = .ok (.iload_n 1, 1) := by decide +kernel
theorem dX9_append_32 : decode cX9_append 32 = .ok (.invokevirtual 85, 3) := by decide +kernel
theorem dX9_append_35 : decode cX9_append 35 = .ok (.aload_n 0, 1) := by decide +kernel
theorem dX9_append_36 : decode cX9_append 36 = .ok (.getfield 32, 3) := by decide +kernel
theorem dX9_append_39 : decode cX9_append 39 = .ok (.invokevirtual 89, 3) := by decide +kernel
theorem dX9_append_42 : decode cX9_append 42 = .ok (.ireturn, 1) := by decide +kernel
theorem dX9_clear_0 : decode cX9_clear 0 = .ok (.aload_n 0, 1) := by decide +kernel
theorem dX9_clear_1 : decode cX9_clear 1 = .ok (.getfield 32, 3) := by decide +kernel
theorem dX9_clear_4 : decode cX9_clear 4 = .ok (.invokevirtual 89, 3) := by decide +kernel
theorem dX9_clear_7 : decode cX9_clear 7 = .ok (.istore_n 1, 1) := by decide +kernel
theorem dX9_clear_8 : decode cX9_clear 8 = .ok (.aload_n 0, 1) := by decide +kernel
theorem dX9_clear_9 : decode cX9_clear 9 = .ok (.getfield 32, 3) := by decide +kernel
theorem dX9_clear_12 : decode cX9_clear 12 = .ok (.invokevirtual 93, 3) := by decide +kernel
theorem dX9_clear_15 : decode cX9_clear 15 = .ok (.iload_n 1, 1) := by decide +kernel
theorem dX9_clear_16 : decode cX9_clear 16 = .ok (.ireturn, 1) := by decide +kernel
theorem dX9_fault_0 : decode cX9_fault 0 = .ok (.aload_n 0, 1) := by decide +kernel
theorem dX9_fault_1 : decode cX9_fault 1 = .ok (.getfield 32, 3) := by decide +kernel
theorem dX9_fault_4 : decode cX9_fault 4 = .ok (.invokevirtual 96, 3) := by decide +kernel
theorem dX9_fault_7 : decode cX9_fault 7 = .ok (.ireturn, 1) := by decide +kernel
theorem dX9_enrol_0 : decode cX9_enrol 0 = .ok (.aload_n 0, 1) := by decide +kernel
theorem dX9_enrol_1 : decode cX9_enrol 1 = .ok (.getfield 32, 3) := by decide +kernel
theorem dX9_enrol_4 : decode cX9_enrol 4 = .ok (.invokevirtual 96, 3) := by decide +kernel
theorem dX9_enrol_7 : decode cX9_enrol 7 = .ok (.bipush (-4), 2) := by decide +kernel
theorem dX9_enrol_9 : decode cX9_enrol 9 = .ok (.if_icmp .eq 6, 3) := by decide +kernel
theorem dX9_enrol_12 : decode cX9_enrol 12 = .ok (.bipush (-2), 2) := by decide +kernel
theorem dX9_enrol_14 : decode cX9_enrol 14 = .ok (.ireturn, 1) := by decide +kernel
theorem dX9_enrol_15 : decode cX9_enrol 15 = .ok (.aload_n 0, 1) := by decide +kernel
theorem dX9_enrol_16 : decode cX9_enrol 16 = .ok (.getfield 25, 3) := by decide +kernel
theorem dX9_enrol_19 : decode cX9_enrol 19 = .ok (.aload_n 0, 1) := by decide +kernel
theorem dX9_enrol_20 : decode cX9_enrol 20 = .ok (.getfield 10, 3) := by decide +kernel
theorem dX9_enrol_23 : decode cX9_enrol 23 = .ok (.invokevirtual 57, 3) := by decide +kernel
theorem dX9_enrol_26 : decode cX9_enrol 26 = .ok (.iconst 0, 1) := by decide +kernel
theorem dX9_enrol_27 : decode cX9_enrol 27 = .ok (.istore_n 1, 1) := by decide +kernel
theorem dX9_enrol_28 : decode cX9_enrol 28 = .ok (.aload_n 0, 1) := by decide +kernel
theorem dX9_enrol_29 : decode cX9_enrol 29 = .ok (.iconst 0, 1) := by decide +kernel
theorem dX9_enrol_30 : decode cX9_enrol 30 = .ok (.putfield 47, 3) := by decide +kernel
theorem dX9_enrol_33 : decode cX9_enrol 33 = .ok (.iconst 0, 1) := by decide +kernel
theorem dX9_enrol_34 : decode cX9_enrol 34 = .ok (.istore_n 2, 1) := by decide +kernel
theorem dX9_enrol_35 : decode cX9_enrol 35 = .ok (.iload_n 2, 1) := by decide +kernel
theorem dX9_enrol_36 : decode cX9_enrol 36 = .ok (.aload_n 0, 1) := by decide +kernel
theorem dX9_enrol_37 : decode cX9_enrol 37 = .ok (.getfield 32, 3) := by decide +kernel
theorem dX9_enrol_40 : decode cX9_enrol 40 = .ok (.invokevirtual 89, 3) := by decide +kernel
theorem dX9_enrol_43 : decode cX9_enrol 43 = .ok (.if_icmp .ge 63, 3) := by decide +kernel
theorem dX9_enrol_46 : decode cX9_enrol 46 = .ok (.aload_n 0, 1) := by decide +kernel
theorem dX9_enrol_47 : decode cX9_enrol 47 = .ok (.getfield 47, 3) := by decide +kernel
theorem dX9_enrol_50 : decode cX9_enrol 50 = .ok (.ifCond .ne 56, 3) := by decide +kernel
theorem dX9_enrol_53 : decode cX9_enrol 53 = .ok (.aload_n 0, 1) := by decide +kernel
theorem dX9_enrol_54 : decode cX9_enrol 54 = .ok (.getfield 32, 3) := by decide +kernel
theorem dX9_enrol_57 : decode cX9_enrol 57 = .ok (.iload_n 2, 1) := by decide +kernel
theorem dX9_enrol_58 : decode cX9_enrol 58 = .ok (.invokevirtual 99, 3) := by decide +kernel
theorem dX9_enrol_61 : decode cX9_enrol 61 = .ok (.ifCond .ne 6, 3) := by decide +kernel
theorem dX9_enrol_64 : decode cX9_enrol 64 = .ok (.goto 36, 3) := by decide +kernel
theorem dX9_enrol_67 : decode cX9_enrol 67 = .ok (.aload_n 0, 1) := by decide +kernel
theorem dX9_enrol_68 : decode cX9_enrol 68 = .ok (.iload_n 2, 1) := by decide +kernel
theorem dX9_enrol_69 : decode cX9_enrol 69 = .ok (.invokevirtual 103, 3) := by decide +kernel
theorem dX9_enrol_72 : decode cX9_enrol 72 = .ok (.istore_n 3, 1) := by decide +kernel
theorem dX9_enrol_73 : decode cX9_enrol 73 = .ok (.iload_n 3, 1) := by decide +kernel
theorem dX9_enrol_74 : decode cX9_enrol 74 = .ok (.bipush 10, 2) := by decide +kernel
theorem dX9_enrol_76 : decode cX9_enrol 76 = .ok (.if_icmp .lt 9, 3) := by decide +kernel
theorem dX9_enrol_79 : decode cX9_enrol 79 = .ok (.iinc 1 1, 3) := by decide +kernel
theorem dX9_enrol_82 : decode cX9_enrol 82 = .ok (.goto 18, 3) := by decide +kernel
theorem dX9_enrol_85 : decode cX9_enrol 85 = .ok (.aload_n 0, 1) := by decide +kernel
theorem dX9_enrol_86 : decode cX9_enrol 86 = .ok (.iload_n 3, 1) := by decide +kernel
theorem dX9_enrol_87 : decode cX9_enrol 87 = .ok (.putfield 47, 3) := by decide +kernel
theorem dX9_enrol_90 : decode cX9_enrol 90 = .ok (.aload_n 0, 1) := by decide +kernel
theorem dX9_enrol_91 : decode cX9_enrol 91 = .ok (.iload_n 1, 1) := by decide +kernel
theorem dX9_enrol_92 : decode cX9_enrol 92 = .ok (.putfield 51, 3) := by decide +kernel
theorem dX9_enrol_95 : decode cX9_enrol 95 = .ok (.aload_n 0, 1) := by decide +kernel
theorem dX9_enrol_96 : decode cX9_enrol 96 = .ok (.iload_n 2, 1) := by decide +kernel
theorem dX9_enrol_97 : decode cX9_enrol 97 = .ok (.putfield 54, 3) := by decide +kernel
theorem dX9_enrol_100 : decode cX9_enrol 100 = .ok (.iinc 2 1, 3) := by decide +kernel
theorem dX9_enrol_103 : decode cX9_enrol 103 = .ok (.goto (-68), 3) := by decide +kernel
theorem dX9_enrol_106 : decode cX9_enrol 106 = .ok (.aload_n 0, 1) := by decide +kernel
theorem dX9_enrol_107 : decode cX9_enrol 107 = .ok (.getfield 25, 3) := by decide +kernel
theorem dX9_enrol_110 : decode cX9_enrol 110 = .ok (.invokevirtual 78, 3) := by decide +kernel
theorem dX9_enrol_113 : decode cX9_enrol 113 = .ok (.aload_n 0, 1) := by decide +kernel
theorem dX9_enrol_114 : decode cX9_enrol 114 = .ok (.getfield 32, 3) := by decide +kernel
theorem dX9_enrol_117 : decode cX9_enrol 117 = .ok (.invokevirtual 93, 3) := by decide +kernel
theorem dX9_enrol_120 : decode cX9_enrol 120 = .ok (.iload_n 1, 1) := by decide +kernel
theorem dX9_enrol_121 : decode cX9_enrol 121 = .ok (.ireturn, 1) := by decide +kernel
theorem dX9_enrolDeed_0 : decode cX9_enrolDeed 0 = .ok (.aload_n 0, 1) := by decide +kernel
theorem dX9_enrolDeed_1 : decode cX9_enrolDeed 1 = .ok (.getfield 32, 3) := by decide +kernel
theorem dX9_enrolDeed_4 : decode cX9_enrolDeed 4 = .ok (.iload_n 1, 1) := by decide +kernel
theorem dX9_enrolDeed_5 : decode cX9_enrolDeed 5 = .ok (.invokevirtual 106, 3) := by decide +kernel
theorem dX9_enrolDeed_8 : decode cX9_enrolDeed 8 = .ok (.lookupswitch 121 #[(100, 103), (102, 36), (115, 54)], 36) := by decide +kernel
theorem dX9_enrolDeed_44 : decode cX9_enrolDeed 44 = .ok (.aload_n 0, 1) := by decide +kernel
theorem dX9_enrolDeed_45 : decode cX9_enrolDeed 45 = .ok (.getfield 10, 3) := by decide +kernel
theorem dX9_enrolDeed_48 : decode cX9_enrolDeed 48 = .ok (.aload_n 0, 1) := by decide +kernel
theorem dX9_enrolDeed_49 : decode cX9_enrolDeed 49 = .ok (.getfield 32, 3) := by decide +kernel
theorem dX9_enrolDeed_52 : decode cX9_enrolDeed 52 = .ok (.iload_n 1, 1) := by decide +kernel
theorem dX9_enrolDeed_53 : decode cX9_enrolDeed 53 = .ok (.iconst 1, 1) := by decide +kernel
theorem dX9_enrolDeed_54 : decode cX9_enrolDeed 54 = .ok (.iadd, 1) := by decide +kernel
theorem dX9_enrolDeed_55 : decode cX9_enrolDeed 55 = .ok (.invokevirtual 109, 3) := by decide +kernel
theorem dX9_enrolDeed_58 : decode cX9_enrolDeed 58 = .ok (.invokevirtual 61, 3) := by decide +kernel
theorem dX9_enrolDeed_61 : decode cX9_enrolDeed 61 = .ok (.ireturn, 1) := by decide +kernel
theorem dX9_enrolDeed_62 : decode cX9_enrolDeed 62 = .ok (.aload_n 0, 1) := by decide +kernel
theorem dX9_enrolDeed_63 : decode cX9_enrolDeed 63 = .ok (.getfield 32, 3) := by decide +kernel
theorem dX9_enrolDeed_66 : decode cX9_enrolDeed 66 = .ok (.iload_n 1, 1) := by decide +kernel
theorem dX9_enrolDeed_67 : decode cX9_enrolDeed 67 = .ok (.iconst 1, 1) := by decide +kernel
theorem dX9_enrolDeed_68 : decode cX9_enrolDeed 68 = .ok (.iadd, 1) := by decide +kernel
theorem dX9_enrolDeed_69 : decode cX9_enrolDeed 69 = .ok (.invokevirtual 112, 3) := by decide +kernel
theorem dX9_enrolDeed_72 : decode cX9_enrolDeed 72 = .ok (.istore_n 2, 1) := by decide +kernel
theorem dX9_enrolDeed_73 : decode cX9_enrolDeed 73 = .ok (.aload_n 0, 1) := by decide +kernel
theorem dX9_enrolDeed_74 : decode cX9_enrolDeed 74 = .ok (.getfield 10, 3) := by decide +kernel
theorem dX9_enrolDeed_77 : decode cX9_enrolDeed 77 = .ok (.aload_n 0, 1) := by decide +kernel
theorem dX9_enrolDeed_78 : decode cX9_enrolDeed 78 = .ok (.getfield 32, 3) := by decide +kernel
theorem dX9_enrolDeed_81 : decode cX9_enrolDeed 81 = .ok (.iload_n 1, 1) := by decide +kernel
theorem dX9_enrolDeed_82 : decode cX9_enrolDeed 82 = .ok (.iconst 1, 1) := by decide +kernel
theorem dX9_enrolDeed_83 : decode cX9_enrolDeed 83 = .ok (.iadd, 1) := by decide +kernel
theorem dX9_enrolDeed_84 : decode cX9_enrolDeed 84 = .ok (.invokevirtual 115, 3) := by decide +kernel
theorem dX9_enrolDeed_87 : decode cX9_enrolDeed 87 = .ok (.aload_n 0, 1) := by decide +kernel
theorem dX9_enrolDeed_88 : decode cX9_enrolDeed 88 = .ok (.getfield 32, 3) := by decide +kernel
theorem dX9_enrolDeed_91 : decode cX9_enrolDeed 91 = .ok (.iload_n 2, 1) := by decide +kernel
theorem dX9_enrolDeed_92 : decode cX9_enrolDeed 92 = .ok (.iconst 1, 1) := by decide +kernel
theorem dX9_enrolDeed_93 : decode cX9_enrolDeed 93 = .ok (.iadd, 1) := by decide +kernel
theorem dX9_enrolDeed_94 : decode cX9_enrolDeed 94 = .ok (.invokevirtual 118, 3) := by decide +kernel
theorem dX9_enrolDeed_97 : decode cX9_enrolDeed 97 = .ok (.aload_n 0, 1) := by decide +kernel
theorem dX9_enrolDeed_98 : decode cX9_enrolDeed 98 = .ok (.getfield 32, 3) := by decide +kernel
theorem dX9_enrolDeed_101 : decode cX9_enrolDeed 101 = .ok (.iload_n 2, 1) := by decide +kernel
theorem dX9_enrolDeed_102 : decode cX9_enrolDeed 102 = .ok (.iconst 3, 1) := by decide +kernel
theorem dX9_enrolDeed_103 : decode cX9_enrolDeed 103 = .ok (.iadd, 1) := by decide +kernel
theorem dX9_enrolDeed_104 : decode cX9_enrolDeed 104 = .ok (.invokevirtual 118, 3) := by decide +kernel
theorem dX9_enrolDeed_107 : decode cX9_enrolDeed 107 = .ok (.invokevirtual 68, 3) := by decide +kernel
theorem dX9_enrolDeed_110 : decode cX9_enrolDeed 110 = .ok (.ireturn, 1) := by decide +kernel
theorem dX9_enrolDeed_111 : decode cX9_enrolDeed 111 = .ok (.aload_n 0, 1) := by decide +kernel
theorem dX9_enrolDeed_112 : decode cX9_enrolDeed 112 = .ok (.getfield 10, 3) := by decide +kernel
theorem dX9_enrolDeed_115 : decode cX9_enrolDeed 115 = .ok (.aload_n 0, 1) := by decide +kernel
theorem dX9_enrolDeed_116 : decode cX9_enrolDeed 116 = .ok (.getfield 32, 3) := by decide +kernel
theorem dX9_enrolDeed_119 : decode cX9_enrolDeed 119 = .ok (.iload_n 1, 1) := by decide +kernel
theorem dX9_enrolDeed_120 : decode cX9_enrolDeed 120 = .ok (.iconst 1, 1) := by decide +kernel
theorem dX9_enrolDeed_121 : decode cX9_enrolDeed 121 = .ok (.iadd, 1) := by decide +kernel
theorem dX9_enrolDeed_122 : decode cX9_enrolDeed 122 = .ok (.invokevirtual 115, 3) := by decide +kernel
theorem dX9_enrolDeed_125 : decode cX9_enrolDeed 125 = .ok (.invokevirtual 72, 3) := by decide +kernel
theorem dX9_enrolDeed_128 : decode cX9_enrolDeed 128 = .ok (.ireturn, 1) := by decide +kernel
theorem dX9_enrolDeed_129 : decode cX9_enrolDeed 129 = .ok (.aload_n 0, 1) := by decide +kernel
theorem dX9_enrolDeed_130 : decode cX9_enrolDeed 130 = .ok (.getfield 10, 3) := by decide +kernel
theorem dX9_enrolDeed_133 : decode cX9_enrolDeed 133 = .ok (.aload_n 0, 1) := by decide +kernel
theorem dX9_enrolDeed_134 : decode cX9_enrolDeed 134 = .ok (.getfield 32, 3) := by decide +kernel
theorem dX9_enrolDeed_137 : decode cX9_enrolDeed 137 = .ok (.iload_n 1, 1) := by decide +kernel
theorem dX9_enrolDeed_138 : decode cX9_enrolDeed 138 = .ok (.iconst 1, 1) := by decide +kernel
theorem dX9_enrolDeed_139 : decode cX9_enrolDeed 139 = .ok (.iadd, 1) := by decide +kernel
theorem dX9_enrolDeed_140 : decode cX9_enrolDeed 140 = .ok (.invokevirtual 115, 3) := by decide +kernel
theorem dX9_enrolDeed_143 : decode cX9_enrolDeed 143 = .ok (.invokevirtual 75, 3) := by decide +kernel
theorem dX9_enrolDeed_146 : decode cX9_enrolDeed 146 = .ok (.ireturn, 1) := by decide +kernel
theorem dX9_why_0 : decode cX9_why 0 = .ok (.iload_n 1, 1) := by decide +kernel
theorem dX9_why_1 : decode cX9_why 1 = .ok (.ifCond .lt 8, 3) := by decide +kernel
theorem dX9_why_4 : decode cX9_why 4 = .ok (.iload_n 1, 1) := by decide +kernel
theorem dX9_why_5 : decode cX9_why 5 = .ok (.iconst 2, 1) := by decide +kernel
theorem dX9_why_6 : decode cX9_why 6 = .ok (.if_icmp .le 5, 3) := by decide +kernel
theorem dX9_why_9 : decode cX9_why 9 = .ok (.iconst (-1), 1) := by decide +kernel
theorem dX9_why_10 : decode cX9_why 10 = .ok (.ireturn, 1) := by decide +kernel
theorem dX9_why_11 : decode cX9_why 11 = .ok (.aload_n 0, 1) := by decide +kernel
theorem dX9_why_12 : decode cX9_why 12 = .ok (.getfield 47, 3) := by decide +kernel
theorem dX9_why_15 : decode cX9_why 15 = .ok (.ifCond .ne 6, 3) := by decide +kernel
theorem dX9_why_18 : decode cX9_why 18 = .ok (.bipush (-4), 2) := by decide +kernel
theorem dX9_why_20 : decode cX9_why 20 = .ok (.ireturn, 1) := by decide +kernel
theorem dX9_why_21 : decode cX9_why 21 = .ok (.iload_n 1, 1) := by decide +kernel
theorem dX9_why_22 : decode cX9_why 22 = .ok (.ifCond .ne 8, 3) := by decide +kernel
theorem dX9_why_25 : decode cX9_why 25 = .ok (.aload_n 0, 1) := by decide +kernel
theorem dX9_why_26 : decode cX9_why 26 = .ok (.getfield 47, 3) := by decide +kernel
theorem dX9_why_29 : decode cX9_why 29 = .ok (.ireturn, 1) := by decide +kernel
theorem dX9_why_30 : decode cX9_why 30 = .ok (.iload_n 1, 1) := by decide +kernel
theorem dX9_why_31 : decode cX9_why 31 = .ok (.iconst 1, 1) := by decide +kernel
theorem dX9_why_32 : decode cX9_why 32 = .ok (.if_icmp .ne 10, 3) := by decide +kernel
theorem dX9_why_35 : decode cX9_why 35 = .ok (.aload_n 0, 1) := by decide +kernel
theorem dX9_why_36 : decode cX9_why 36 = .ok (.getfield 51, 3) := by decide +kernel
theorem dX9_why_39 : decode cX9_why 39 = .ok (.goto 7, 3) := by decide +kernel
theorem dX9_why_42 : decode cX9_why 42 = .ok (.aload_n 0, 1) := by decide +kernel
theorem dX9_why_43 : decode cX9_why 43 = .ok (.getfield 54, 3) := by decide +kernel
theorem dX9_why_46 : decode cX9_why 46 = .ok (.ireturn, 1) := by decide +kernel
theorem dX9_person_0 : decode cX9_person 0 = .ok (.aload_n 0, 1) := by decide +kernel
theorem dX9_person_1 : decode cX9_person 1 = .ok (.getfield 10, 3) := by decide +kernel
theorem dX9_person_4 : decode cX9_person 4 = .ok (.iload_n 1, 1) := by decide +kernel
theorem dX9_person_5 : decode cX9_person 5 = .ok (.invokevirtual 121, 3) := by decide +kernel
theorem dX9_person_8 : decode cX9_person 8 = .ok (.ifCond .ne 5, 3) := by decide +kernel
theorem dX9_person_11 : decode cX9_person 11 = .ok (.iconst (-1), 1) := by decide +kernel
theorem dX9_person_12 : decode cX9_person 12 = .ok (.ireturn, 1) := by decide +kernel
theorem dX9_person_13 : decode cX9_person 13 = .ok (.iload_n 2, 1) := by decide +kernel
theorem dX9_person_14 : decode cX9_person 14 = .ok (.tableswitch 187 0 11 #[62, 71, 88, 100, 112, 124, 133, 142, 151, 160, 169, 178], 62) := by decide +kernel
theorem dX9_person_76 : decode cX9_person 76 = .ok (.aload_n 0, 1) := by decide +kernel
theorem dX9_person_77 : decode cX9_person 77 = .ok (.getfield 10, 3) := by decide +kernel
theorem dX9_person_80 : decode cX9_person 80 = .ok (.iload_n 1, 1) := by decide +kernel
theorem dX9_person_81 : decode cX9_person 81 = .ok (.invokevirtual 124, 3) := by decide +kernel
theorem dX9_person_84 : decode cX9_person 84 = .ok (.ireturn, 1) := by decide +kernel
theorem dX9_person_85 : decode cX9_person 85 = .ok (.aload_n 0, 1) := by decide +kernel
theorem dX9_person_86 : decode cX9_person 86 = .ok (.getfield 10, 3) := by decide +kernel
theorem dX9_person_89 : decode cX9_person 89 = .ok (.iload_n 1, 1) := by decide +kernel
theorem dX9_person_90 : decode cX9_person 90 = .ok (.invokevirtual 127, 3) := by decide +kernel
theorem dX9_person_93 : decode cX9_person 93 = .ok (.ifCond .eq 7, 3) := by decide +kernel
theorem dX9_person_96 : decode cX9_person 96 = .ok (.iconst 1, 1) := by decide +kernel
theorem dX9_person_97 : decode cX9_person 97 = .ok (.goto 4, 3) := by decide +kernel
theorem dX9_person_100 : decode cX9_person 100 = .ok (.iconst 0, 1) := by decide +kernel
theorem dX9_person_101 : decode cX9_person 101 = .ok (.ireturn, 1) := by decide +kernel
theorem dX9_person_102 : decode cX9_person 102 = .ok (.aload_n 0, 1) := by decide +kernel
theorem dX9_person_103 : decode cX9_person 103 = .ok (.getfield 10, 3) := by decide +kernel
theorem dX9_person_106 : decode cX9_person 106 = .ok (.iload_n 1, 1) := by decide +kernel
theorem dX9_person_107 : decode cX9_person 107 = .ok (.invokevirtual 130, 3) := by decide +kernel
theorem dX9_person_110 : decode cX9_person 110 = .ok (.invokestatic 133, 3) := by decide +kernel
theorem dX9_person_113 : decode cX9_person 113 = .ok (.ireturn, 1) := by decide +kernel
theorem dX9_person_114 : decode cX9_person 114 = .ok (.aload_n 0, 1) := by decide +kernel
theorem dX9_person_115 : decode cX9_person 115 = .ok (.getfield 10, 3) := by decide +kernel
theorem dX9_person_118 : decode cX9_person 118 = .ok (.iload_n 1, 1) := by decide +kernel
theorem dX9_person_119 : decode cX9_person 119 = .ok (.invokevirtual 136, 3) := by decide +kernel
theorem dX9_person_122 : decode cX9_person 122 = .ok (.invokestatic 133, 3) := by decide +kernel
theorem dX9_person_125 : decode cX9_person 125 = .ok (.ireturn, 1) := by decide +kernel
theorem dX9_person_126 : decode cX9_person 126 = .ok (.aload_n 0, 1) := by decide +kernel
theorem dX9_person_127 : decode cX9_person 127 = .ok (.getfield 10, 3) := by decide +kernel
theorem dX9_person_130 : decode cX9_person 130 = .ok (.iload_n 1, 1) := by decide +kernel
theorem dX9_person_131 : decode cX9_person 131 = .ok (.invokevirtual 139, 3) := by decide +kernel
theorem dX9_person_134 : decode cX9_person 134 = .ok (.invokestatic 133, 3) := by decide +kernel
theorem dX9_person_137 : decode cX9_person 137 = .ok (.ireturn, 1) := by decide +kernel
theorem dX9_person_138 : decode cX9_person 138 = .ok (.aload_n 0, 1) := by decide +kernel
theorem dX9_person_139 : decode cX9_person 139 = .ok (.getfield 10, 3) := by decide +kernel
theorem dX9_person_142 : decode cX9_person 142 = .ok (.iload_n 1, 1) := by decide +kernel
theorem dX9_person_143 : decode cX9_person 143 = .ok (.invokevirtual 142, 3) := by decide +kernel
theorem dX9_person_146 : decode cX9_person 146 = .ok (.ireturn, 1) := by decide +kernel
theorem dX9_person_147 : decode cX9_person 147 = .ok (.aload_n 0, 1) := by decide +kernel
theorem dX9_person_148 : decode cX9_person 148 = .ok (.getfield 10, 3) := by decide +kernel
theorem dX9_person_151 : decode cX9_person 151 = .ok (.iload_n 1, 1) := by decide +kernel
theorem dX9_person_152 : decode cX9_person 152 = .ok (.invokestatic 145, 3) := by decide +kernel
theorem dX9_person_155 : decode cX9_person 155 = .ok (.ireturn, 1) := by decide +kernel
theorem dX9_person_156 : decode cX9_person 156 = .ok (.aload_n 0, 1) := by decide +kernel
theorem dX9_person_157 : decode cX9_person 157 = .ok (.getfield 10, 3) := by decide +kernel
theorem dX9_person_160 : decode cX9_person 160 = .ok (.iload_n 1, 1) := by decide +kernel
theorem dX9_person_161 : decode cX9_person 161 = .ok (.invokestatic 151, 3) := by decide +kernel
theorem dX9_person_164 : decode cX9_person 164 = .ok (.ireturn, 1) := by decide +kernel
theorem dX9_person_165 : decode cX9_person 165 = .ok (.aload_n 0, 1) := by decide +kernel
theorem dX9_person_166 : decode cX9_person 166 = .ok (.getfield 10, 3) := by decide +kernel
theorem dX9_person_169 : decode cX9_person 169 = .ok (.iload_n 1, 1) := by decide +kernel
theorem dX9_person_170 : decode cX9_person 170 = .ok (.invokestatic 154, 3) := by decide +kernel
theorem dX9_person_173 : decode cX9_person 173 = .ok (.ireturn, 1) := by decide +kernel
theorem dX9_person_174 : decode cX9_person 174 = .ok (.aload_n 0, 1) := by decide +kernel
theorem dX9_person_175 : decode cX9_person 175 = .ok (.getfield 10, 3) := by decide +kernel
theorem dX9_person_178 : decode cX9_person 178 = .ok (.iload_n 1, 1) := by decide +kernel
theorem dX9_person_179 : decode cX9_person 179 = .ok (.invokestatic 157, 3) := by decide +kernel
theorem dX9_person_182 : decode cX9_person 182 = .ok (.ireturn, 1) := by decide +kernel
theorem dX9_person_183 : decode cX9_person 183 = .ok (.aload_n 0, 1) := by decide +kernel
theorem dX9_person_184 : decode cX9_person 184 = .ok (.getfield 10, 3) := by decide +kernel
theorem dX9_person_187 : decode cX9_person 187 = .ok (.iload_n 1, 1) := by decide +kernel
theorem dX9_person_188 : decode cX9_person 188 = .ok (.invokestatic 160, 3) := by decide +kernel
theorem dX9_person_191 : decode cX9_person 191 = .ok (.ireturn, 1) := by decide +kernel
theorem dX9_person_192 : decode cX9_person 192 = .ok (.aload_n 0, 1) := by decide +kernel
theorem dX9_person_193 : decode cX9_person 193 = .ok (.getfield 10, 3) := by decide +kernel
theorem dX9_person_196 : decode cX9_person 196 = .ok (.iload_n 1, 1) := by decide +kernel
theorem dX9_person_197 : decode cX9_person 197 = .ok (.invokestatic 163, 3) := by decide +kernel
theorem dX9_person_200 : decode cX9_person 200 = .ok (.ireturn, 1) := by decide +kernel
theorem dX9_person_201 : decode cX9_person 201 = .ok (.iconst (-1), 1) := by decide +kernel
theorem dX9_person_202 : decode cX9_person 202 = .ok (.ireturn, 1) := by decide +kernel
theorem dX9_orNotFound_0 : decode cX9_orNotFound 0 = .ok (.iload_n 0, 1) := by decide +kernel
theorem dX9_orNotFound_1 : decode cX9_orNotFound 1 = .ok (.ifCond .ge 8, 3) := by decide +kernel
theorem dX9_orNotFound_4 : decode cX9_orNotFound 4 = .ok (.bipush (-4), 2) := by decide +kernel
theorem dX9_orNotFound_6 : decode cX9_orNotFound 6 = .ok (.goto 4, 3) := by decide +kernel
theorem dX9_orNotFound_9 : decode cX9_orNotFound 9 = .ok (.iload_n 0, 1) := by decide +kernel
theorem dX9_orNotFound_10 : decode cX9_orNotFound 10 = .ok (.ireturn, 1) := by decide +kernel
theorem dX9_mark_0 : decode cX9_mark 0 = .ok (.aload_n 0, 1) := by decide +kernel
theorem dX9_mark_1 : decode cX9_mark 1 = .ok (.getfield 10, 3) := by decide +kernel
theorem dX9_mark_4 : decode cX9_mark 4 = .ok (.iload_n 1, 1) := by decide +kernel
theorem dX9_mark_5 : decode cX9_mark 5 = .ok (.invokevirtual 121, 3) := by decide +kernel
theorem dX9_mark_8 : decode cX9_mark 8 = .ok (.ifCond .eq 10, 3) := by decide +kernel
theorem dX9_mark_11 : decode cX9_mark 11 = .ok (.iload_n 2, 1) := by decide +kernel
theorem dX9_mark_12 : decode cX9_mark 12 = .ok (.invokestatic 166, 3) := by decide +kernel
theorem dX9_mark_15 : decode cX9_mark 15 = .ok (.ifCond .ne 5, 3) := by decide +kernel
theorem dX9_mark_18 : decode cX9_mark 18 = .ok (.iconst (-1), 1) := by decide +kernel
theorem dX9_mark_19 : decode cX9_mark 19 = .ok (.ireturn, 1) := by decide +kernel
theorem dX9_mark_20 : decode cX9_mark 20 = .ok (.aload_n 0, 1) := by decide +kernel
theorem dX9_mark_21 : decode cX9_mark 21 = .ok (.getfield 10, 3) := by decide +kernel
theorem dX9_mark_24 : decode cX9_mark 24 = .ok (.iload_n 1, 1) := by decide +kernel
theorem dX9_mark_25 : decode cX9_mark 25 = .ok (.invokevirtual 124, 3) := by decide +kernel
theorem dX9_mark_28 : decode cX9_mark 28 = .ok (.iload_n 2, 1) := by decide +kernel
theorem dX9_mark_29 : decode cX9_mark 29 = .ok (.invokestatic 171, 3) := by decide +kernel
theorem dX9_mark_32 : decode cX9_mark 32 = .ok (.ireturn, 1) := by decide +kernel
theorem dX9_whyNot_0 : decode cX9_whyNot 0 = .ok (.aload_n 0, 1) := by decide +kernel
theorem dX9_whyNot_1 : decode cX9_whyNot 1 = .ok (.getfield 10, 3) := by decide +kernel
theorem dX9_whyNot_4 : decode cX9_whyNot 4 = .ok (.iload_n 1, 1) := by decide +kernel
theorem dX9_whyNot_5 : decode cX9_whyNot 5 = .ok (.invokevirtual 121, 3) := by decide +kernel
theorem dX9_whyNot_8 : decode cX9_whyNot 8 = .ok (.ifCond .eq 17, 3) := by decide +kernel
theorem dX9_whyNot_11 : decode cX9_whyNot 11 = .ok (.iload_n 2, 1) := by decide +kernel
theorem dX9_whyNot_12 : decode cX9_whyNot 12 = .ok (.invokestatic 166, 3) := by decide +kernel
theorem dX9_whyNot_15 : decode cX9_whyNot 15 = .ok (.ifCond .eq 10, 3) := by decide +kernel
theorem dX9_whyNot_18 : decode cX9_whyNot 18 = .ok (.iload_n 3, 1) := by decide +kernel
theorem dX9_whyNot_19 : decode cX9_whyNot 19 = .ok (.invokestatic 175, 3) := by decide +kernel
theorem dX9_whyNot_22 : decode cX9_whyNot 22 = .ok (.ifCond .ne 5, 3) := by decide +kernel
theorem dX9_whyNot_25 : decode cX9_whyNot 25 = .ok (.iconst (-1), 1) := by decide +kernel
theorem dX9_whyNot_26 : decode cX9_whyNot 26 = .ok (.ireturn, 1) := by decide +kernel
theorem dX9_whyNot_27 : decode cX9_whyNot 27 = .ok (.aload_n 0, 1) := by decide +kernel
theorem dX9_whyNot_28 : decode cX9_whyNot 28 = .ok (.getfield 10, 3) := by decide +kernel
theorem dX9_whyNot_31 : decode cX9_whyNot 31 = .ok (.iload_n 1, 1) := by decide +kernel
theorem dX9_whyNot_32 : decode cX9_whyNot 32 = .ok (.iload_n 2, 1) := by decide +kernel
theorem dX9_whyNot_33 : decode cX9_whyNot 33 = .ok (.iload_n 3, 1) := by decide +kernel
theorem dX9_whyNot_34 : decode cX9_whyNot 34 = .ok (.invokevirtual 178, 3) := by decide +kernel
theorem dX9_whyNot_37 : decode cX9_whyNot 37 = .ok (.ireturn, 1) := by decide +kernel
theorem dX9_choices_0 : decode cX9_choices 0 = .ok (.aload_n 0, 1) := by decide +kernel
theorem dX9_choices_1 : decode cX9_choices 1 = .ok (.getfield 10, 3) := by decide +kernel
theorem dX9_choices_4 : decode cX9_choices 4 = .ok (.iload_n 1, 1) := by decide +kernel
theorem dX9_choices_5 : decode cX9_choices 5 = .ok (.invokevirtual 121, 3) := by decide +kernel
theorem dX9_choices_8 : decode cX9_choices 8 = .ok (.ifCond .eq 10, 3) := by decide +kernel
theorem dX9_choices_11 : decode cX9_choices 11 = .ok (.iload_n 2, 1) := by decide +kernel
theorem dX9_choices_12 : decode cX9_choices 12 = .ok (.invokestatic 181, 3) := by decide +kernel
theorem dX9_choices_15 : decode cX9_choices 15 = .ok (.ifCond .ne 5, 3) := by decide +kernel
theorem dX9_choices_18 : decode cX9_choices 18 = .ok (.iconst (-1), 1) := by decide +kernel
theorem dX9_choices_19 : decode cX9_choices 19 = .ok (.ireturn, 1) := by decide +kernel
theorem dX9_choices_20 : decode cX9_choices 20 = .ok (.iload_n 2, 1) := by decide +kernel
theorem dX9_choices_21 : decode cX9_choices 21 = .ok (.ifCond .ne 14, 3) := by decide +kernel
theorem dX9_choices_24 : decode cX9_choices 24 = .ok (.aload_n 0, 1) := by decide +kernel
theorem dX9_choices_25 : decode cX9_choices 25 = .ok (.getfield 10, 3) := by decide +kernel
theorem dX9_choices_28 : decode cX9_choices 28 = .ok (.iload_n 1, 1) := by decide +kernel
theorem dX9_choices_29 : decode cX9_choices 29 = .ok (.invokestatic 184, 3) := by decide +kernel
theorem dX9_choices_32 : decode cX9_choices 32 = .ok (.goto 11, 3) := by decide +kernel
theorem dX9_choices_35 : decode cX9_choices 35 = .ok (.aload_n 0, 1) := by decide +kernel
theorem dX9_choices_36 : decode cX9_choices 36 = .ok (.getfield 10, 3) := by decide +kernel
theorem dX9_choices_39 : decode cX9_choices 39 = .ok (.iload_n 1, 1) := by decide +kernel
theorem dX9_choices_40 : decode cX9_choices 40 = .ok (.invokestatic 189, 3) := by decide +kernel
theorem dX9_choices_43 : decode cX9_choices 43 = .ok (.ireturn, 1) := by decide +kernel
theorem dX9_best_0 : decode cX9_best 0 = .ok (.aload_n 0, 1) := by decide +kernel
theorem dX9_best_1 : decode cX9_best 1 = .ok (.getfield 10, 3) := by decide +kernel
theorem dX9_best_4 : decode cX9_best 4 = .ok (.iload_n 1, 1) := by decide +kernel
theorem dX9_best_5 : decode cX9_best 5 = .ok (.invokevirtual 121, 3) := by decide +kernel
theorem dX9_best_8 : decode cX9_best 8 = .ok (.ifCond .ne 5, 3) := by decide +kernel
theorem dX9_best_11 : decode cX9_best 11 = .ok (.iconst (-1), 1) := by decide +kernel
theorem dX9_best_12 : decode cX9_best 12 = .ok (.ireturn, 1) := by decide +kernel
theorem dX9_best_13 : decode cX9_best 13 = .ok (.aload_n 0, 1) := by decide +kernel
theorem dX9_best_14 : decode cX9_best 14 = .ok (.getfield 10, 3) := by decide +kernel
theorem dX9_best_17 : decode cX9_best 17 = .ok (.iload_n 1, 1) := by decide +kernel
theorem dX9_best_18 : decode cX9_best 18 = .ok (.invokestatic 192, 3) := by decide +kernel
theorem dX9_best_21 : decode cX9_best 21 = .ok (.ireturn, 1) := by decide +kernel
theorem dX9_differs_0 : decode cX9_differs 0 = .ok (.aload_n 0, 1) := by decide +kernel
theorem dX9_differs_1 : decode cX9_differs 1 = .ok (.getfield 10, 3) := by decide +kernel
theorem dX9_differs_4 : decode cX9_differs 4 = .ok (.iload_n 1, 1) := by decide +kernel
theorem dX9_differs_5 : decode cX9_differs 5 = .ok (.invokevirtual 121, 3) := by decide +kernel
theorem dX9_differs_8 : decode cX9_differs 8 = .ok (.ifCond .eq 14, 3) := by decide +kernel
theorem dX9_differs_11 : decode cX9_differs 11 = .ok (.aload_n 0, 1) := by decide +kernel
theorem dX9_differs_12 : decode cX9_differs 12 = .ok (.getfield 10, 3) := by decide +kernel
theorem dX9_differs_15 : decode cX9_differs 15 = .ok (.iload_n 2, 1) := by decide +kernel
theorem dX9_differs_16 : decode cX9_differs 16 = .ok (.invokevirtual 121, 3) := by decide +kernel
theorem dX9_differs_19 : decode cX9_differs 19 = .ok (.ifCond .ne 5, 3) := by decide +kernel
theorem dX9_differs_22 : decode cX9_differs 22 = .ok (.iconst (-1), 1) := by decide +kernel
theorem dX9_differs_23 : decode cX9_differs 23 = .ok (.ireturn, 1) := by decide +kernel
theorem dX9_differs_24 : decode cX9_differs 24 = .ok (.aload_n 0, 1) := by decide +kernel
theorem dX9_differs_25 : decode cX9_differs 25 = .ok (.getfield 10, 3) := by decide +kernel
theorem dX9_differs_28 : decode cX9_differs 28 = .ok (.iload_n 1, 1) := by decide +kernel
theorem dX9_differs_29 : decode cX9_differs 29 = .ok (.invokevirtual 124, 3) := by decide +kernel
theorem dX9_differs_32 : decode cX9_differs 32 = .ok (.aload_n 0, 1) := by decide +kernel
theorem dX9_differs_33 : decode cX9_differs 33 = .ok (.getfield 10, 3) := by decide +kernel
theorem dX9_differs_36 : decode cX9_differs 36 = .ok (.iload_n 2, 1) := by decide +kernel
theorem dX9_differs_37 : decode cX9_differs 37 = .ok (.invokevirtual 124, 3) := by decide +kernel
theorem dX9_differs_40 : decode cX9_differs 40 = .ok (.invokestatic 195, 3) := by decide +kernel
theorem dX9_differs_43 : decode cX9_differs 43 = .ok (.ireturn, 1) := by decide +kernel
theorem dX9_kin_0 : decode cX9_kin 0 = .ok (.aload_n 0, 1) := by decide +kernel
theorem dX9_kin_1 : decode cX9_kin 1 = .ok (.getfield 10, 3) := by decide +kernel
theorem dX9_kin_4 : decode cX9_kin 4 = .ok (.iload_n 1, 1) := by decide +kernel
theorem dX9_kin_5 : decode cX9_kin 5 = .ok (.invokevirtual 121, 3) := by decide +kernel
theorem dX9_kin_8 : decode cX9_kin 8 = .ok (.ifCond .eq 14, 3) := by decide +kernel
theorem dX9_kin_11 : decode cX9_kin 11 = .ok (.aload_n 0, 1) := by decide +kernel
theorem dX9_kin_12 : decode cX9_kin 12 = .ok (.getfield 10, 3) := by decide +kernel
theorem dX9_kin_15 : decode cX9_kin 15 = .ok (.iload_n 2, 1) := by decide +kernel
theorem dX9_kin_16 : decode cX9_kin 16 = .ok (.invokevirtual 121, 3) := by decide +kernel
theorem dX9_kin_19 : decode cX9_kin 19 = .ok (.ifCond .ne 5, 3) := by decide +kernel
theorem dX9_kin_22 : decode cX9_kin 22 = .ok (.iconst (-1), 1) := by decide +kernel
theorem dX9_kin_23 : decode cX9_kin 23 = .ok (.ireturn, 1) := by decide +kernel
theorem dX9_kin_24 : decode cX9_kin 24 = .ok (.aload_n 0, 1) := by decide +kernel
theorem dX9_kin_25 : decode cX9_kin 25 = .ok (.getfield 10, 3) := by decide +kernel
theorem dX9_kin_28 : decode cX9_kin 28 = .ok (.iload_n 1, 1) := by decide +kernel
theorem dX9_kin_29 : decode cX9_kin 29 = .ok (.iload_n 2, 1) := by decide +kernel
theorem dX9_kin_30 : decode cX9_kin 30 = .ok (.invokestatic 198, 3) := by decide +kernel
theorem dX9_kin_33 : decode cX9_kin 33 = .ok (.ireturn, 1) := by decide +kernel
theorem dX9_bearer_0 : decode cX9_bearer 0 = .ok (.iload_n 1, 1) := by decide +kernel
theorem dX9_bearer_1 : decode cX9_bearer 1 = .ok (.invokestatic 202, 3) := by decide +kernel
theorem dX9_bearer_4 : decode cX9_bearer 4 = .ok (.ifCond .ne 5, 3) := by decide +kernel
theorem dX9_bearer_7 : decode cX9_bearer 7 = .ok (.iconst (-1), 1) := by decide +kernel
theorem dX9_bearer_8 : decode cX9_bearer 8 = .ok (.ireturn, 1) := by decide +kernel
theorem dX9_bearer_9 : decode cX9_bearer 9 = .ok (.aload_n 0, 1) := by decide +kernel
theorem dX9_bearer_10 : decode cX9_bearer 10 = .ok (.getfield 10, 3) := by decide +kernel
theorem dX9_bearer_13 : decode cX9_bearer 13 = .ok (.iload_n 1, 1) := by decide +kernel
theorem dX9_bearer_14 : decode cX9_bearer 14 = .ok (.invokevirtual 205, 3) := by decide +kernel
theorem dX9_bearer_17 : decode cX9_bearer 17 = .ok (.invokestatic 133, 3) := by decide +kernel
theorem dX9_bearer_20 : decode cX9_bearer 20 = .ok (.ireturn, 1) := by decide +kernel
theorem dX9_line_0 : decode cX9_line 0 = .ok (.aload_n 0, 1) := by decide +kernel
theorem dX9_line_1 : decode cX9_line 1 = .ok (.getfield 10, 3) := by decide +kernel
theorem dX9_line_4 : decode cX9_line 4 = .ok (.iload_n 1, 1) := by decide +kernel
theorem dX9_line_5 : decode cX9_line 5 = .ok (.invokevirtual 121, 3) := by decide +kernel
theorem dX9_line_8 : decode cX9_line 8 = .ok (.ifCond .eq 17, 3) := by decide +kernel
theorem dX9_line_11 : decode cX9_line 11 = .ok (.iload_n 2, 1) := by decide +kernel
theorem dX9_line_12 : decode cX9_line 12 = .ok (.invokestatic 202, 3) := by decide +kernel
theorem dX9_line_15 : decode cX9_line 15 = .ok (.ifCond .eq 10, 3) := by decide +kernel
theorem dX9_line_18 : decode cX9_line 18 = .ok (.iload_n 3, 1) := by decide +kernel
theorem dX9_line_19 : decode cX9_line 19 = .ok (.invokestatic 181, 3) := by decide +kernel
theorem dX9_line_22 : decode cX9_line 22 = .ok (.ifCond .ne 5, 3) := by decide +kernel
theorem dX9_line_25 : decode cX9_line 25 = .ok (.iconst (-1), 1) := by decide +kernel
theorem dX9_line_26 : decode cX9_line 26 = .ok (.ireturn, 1) := by decide +kernel
theorem dX9_line_27 : decode cX9_line 27 = .ok (.aload_n 0, 1) := by decide +kernel
theorem dX9_line_28 : decode cX9_line 28 = .ok (.getfield 10, 3) := by decide +kernel
theorem dX9_line_31 : decode cX9_line 31 = .ok (.iload_n 1, 1) := by decide +kernel
theorem dX9_line_32 : decode cX9_line 32 = .ok (.invokevirtual 127, 3) := by decide +kernel
theorem dX9_line_35 : decode cX9_line 35 = .ok (.ifCond .ne 6, 3) := by decide +kernel
theorem dX9_line_38 : decode cX9_line 38 = .ok (.bipush (-2), 2) := by decide +kernel
theorem dX9_line_40 : decode cX9_line 40 = .ok (.ireturn, 1) := by decide +kernel
theorem dX9_line_41 : decode cX9_line 41 = .ok (.aload_n 0, 1) := by decide +kernel
theorem dX9_line_42 : decode cX9_line 42 = .ok (.getfield 10, 3) := by decide +kernel
theorem dX9_line_45 : decode cX9_line 45 = .ok (.iload_n 1, 1) := by decide +kernel
theorem dX9_line_46 : decode cX9_line 46 = .ok (.invokevirtual 124, 3) := by decide +kernel
theorem dX9_line_49 : decode cX9_line 49 = .ok (.istore 4, 2) := by decide +kernel
theorem dX9_line_51 : decode cX9_line 51 = .ok (.iload 4, 2) := by decide +kernel
theorem dX9_line_53 : decode cX9_line 53 = .ok (.iload_n 2, 1) := by decide +kernel
theorem dX9_line_54 : decode cX9_line 54 = .ok (.if_icmp .ne 5, 3) := by decide +kernel
theorem dX9_line_57 : decode cX9_line 57 = .ok (.iconst 0, 1) := by decide +kernel
theorem dX9_line_58 : decode cX9_line 58 = .ok (.ireturn, 1) := by decide +kernel
theorem dX9_line_59 : decode cX9_line 59 = .ok (.aload_n 0, 1) := by decide +kernel
theorem dX9_line_60 : decode cX9_line 60 = .ok (.getfield 10, 3) := by decide +kernel
theorem dX9_line_63 : decode cX9_line 63 = .ok (.iload_n 2, 1) := by decide +kernel
theorem dX9_line_64 : decode cX9_line 64 = .ok (.invokevirtual 205, 3) := by decide +kernel
theorem dX9_line_67 : decode cX9_line 67 = .ok (.iconst (-1), 1) := by decide +kernel
theorem dX9_line_68 : decode cX9_line 68 = .ok (.if_icmp .eq 6, 3) := by decide +kernel
theorem dX9_line_71 : decode cX9_line 71 = .ok (.bipush (-4), 2) := by decide +kernel
theorem dX9_line_73 : decode cX9_line 73 = .ok (.ireturn, 1) := by decide +kernel
theorem dX9_line_74 : decode cX9_line 74 = .ok (.iload_n 3, 1) := by decide +kernel
theorem dX9_line_75 : decode cX9_line 75 = .ok (.ifCond .ne 20, 3) := by decide +kernel
theorem dX9_line_78 : decode cX9_line 78 = .ok (.aload_n 0, 1) := by decide +kernel
theorem dX9_line_79 : decode cX9_line 79 = .ok (.getfield 39, 3) := by decide +kernel
theorem dX9_line_82 : decode cX9_line 82 = .ok (.aload_n 0, 1) := by decide +kernel
theorem dX9_line_83 : decode cX9_line 83 = .ok (.getfield 10, 3) := by decide +kernel
theorem dX9_line_86 : decode cX9_line 86 = .ok (.iload 4, 2) := by decide +kernel
theorem dX9_line_88 : decode cX9_line 88 = .ok (.iload_n 2, 1) := by decide +kernel
theorem dX9_line_89 : decode cX9_line 89 = .ok (.invokevirtual 208, 3) := by decide +kernel
theorem dX9_line_92 : decode cX9_line 92 = .ok (.goto 17, 3) := by decide +kernel
theorem dX9_line_95 : decode cX9_line 95 = .ok (.aload_n 0, 1) := by decide +kernel
theorem dX9_line_96 : decode cX9_line 96 = .ok (.getfield 39, 3) := by decide +kernel
theorem dX9_line_99 : decode cX9_line 99 = .ok (.aload_n 0, 1) := by decide +kernel
theorem dX9_line_100 : decode cX9_line 100 = .ok (.getfield 10, 3) := by decide +kernel
theorem dX9_line_103 : decode cX9_line 103 = .ok (.iload_n 2, 1) := by decide +kernel
theorem dX9_line_104 : decode cX9_line 104 = .ok (.iload 4, 2) := by decide +kernel
theorem dX9_line_106 : decode cX9_line 106 = .ok (.invokevirtual 208, 3) := by decide +kernel
theorem dX9_line_109 : decode cX9_line 109 = .ok (.ireturn, 1) := by decide +kernel
theorem dX9_isWay_0 : decode cX9_isWay 0 = .ok (.iload_n 0, 1) := by decide +kernel
theorem dX9_isWay_1 : decode cX9_isWay 1 = .ok (.ifCond .eq 8, 3) := by decide +kernel
theorem dX9_isWay_4 : decode cX9_isWay 4 = .ok (.iload_n 0, 1) := by decide +kernel
theorem dX9_isWay_5 : decode cX9_isWay 5 = .ok (.iconst 1, 1) := by decide +kernel
theorem dX9_isWay_6 : decode cX9_isWay 6 = .ok (.if_icmp .ne 7, 3) := by decide +kernel
theorem dX9_isWay_9 : decode cX9_isWay 9 = .ok (.iconst 1, 1) := by decide +kernel
theorem dX9_isWay_10 : decode cX9_isWay 10 = .ok (.goto 4, 3) := by decide +kernel
theorem dX9_isWay_13 : decode cX9_isWay 13 = .ok (.iconst 0, 1) := by decide +kernel
theorem dX9_isWay_14 : decode cX9_isWay 14 = .ok (.ireturn, 1) := by decide +kernel
theorem dX9_count_0 : decode cX9_count 0 = .ok (.iload_n 1, 1) := by decide +kernel
theorem dX9_count_1 : decode cX9_count 1 = .ok (.tableswitch 159 0 11 #[63, 71, 79, 87, 95, 103, 111, 119, 127, 135, 143, 151], 63) := by decide +kernel
theorem dX9_count_64 : decode cX9_count 64 = .ok (.aload_n 0, 1) := by decide +kernel
theorem dX9_count_65 : decode cX9_count 65 = .ok (.getfield 10, 3) := by decide +kernel
theorem dX9_count_68 : decode cX9_count 68 = .ok (.invokevirtual 211, 3) := by decide +kernel
theorem dX9_count_71 : decode cX9_count 71 = .ok (.ireturn, 1) := by decide +kernel
theorem dX9_count_72 : decode cX9_count 72 = .ok (.aload_n 0, 1) := by decide +kernel
theorem dX9_count_73 : decode cX9_count 73 = .ok (.getfield 10, 3) := by decide +kernel
theorem dX9_count_76 : decode cX9_count 76 = .ok (.invokevirtual 214, 3) := by decide +kernel
theorem dX9_count_79 : decode cX9_count 79 = .ok (.ireturn, 1) := by decide +kernel
theorem dX9_count_80 : decode cX9_count 80 = .ok (.aload_n 0, 1) := by decide +kernel
theorem dX9_count_81 : decode cX9_count 81 = .ok (.getfield 10, 3) := by decide +kernel
theorem dX9_count_84 : decode cX9_count 84 = .ok (.invokestatic 217, 3) := by decide +kernel
theorem dX9_count_87 : decode cX9_count 87 = .ok (.ireturn, 1) := by decide +kernel
theorem dX9_count_88 : decode cX9_count 88 = .ok (.aload_n 0, 1) := by decide +kernel
theorem dX9_count_89 : decode cX9_count 89 = .ok (.getfield 10, 3) := by decide +kernel
theorem dX9_count_92 : decode cX9_count 92 = .ok (.invokestatic 223, 3) := by decide +kernel
theorem dX9_count_95 : decode cX9_count 95 = .ok (.ireturn, 1) := by decide +kernel
theorem dX9_count_96 : decode cX9_count 96 = .ok (.aload_n 0, 1) := by decide +kernel
theorem dX9_count_97 : decode cX9_count 97 = .ok (.getfield 10, 3) := by decide +kernel
theorem dX9_count_100 : decode cX9_count 100 = .ok (.invokestatic 226, 3) := by decide +kernel
theorem dX9_count_103 : decode cX9_count 103 = .ok (.ireturn, 1) := by decide +kernel
theorem dX9_count_104 : decode cX9_count 104 = .ok (.aload_n 0, 1) := by decide +kernel
theorem dX9_count_105 : decode cX9_count 105 = .ok (.getfield 10, 3) := by decide +kernel
theorem dX9_count_108 : decode cX9_count 108 = .ok (.invokestatic 229, 3) := by decide +kernel
theorem dX9_count_111 : decode cX9_count 111 = .ok (.ireturn, 1) := by decide +kernel
theorem dX9_count_112 : decode cX9_count 112 = .ok (.aload_n 0, 1) := by decide +kernel
theorem dX9_count_113 : decode cX9_count 113 = .ok (.getfield 10, 3) := by decide +kernel
theorem dX9_count_116 : decode cX9_count 116 = .ok (.invokestatic 232, 3) := by decide +kernel
theorem dX9_count_119 : decode cX9_count 119 = .ok (.ireturn, 1) := by decide +kernel
theorem dX9_count_120 : decode cX9_count 120 = .ok (.aload_n 0, 1) := by decide +kernel
theorem dX9_count_121 : decode cX9_count 121 = .ok (.getfield 10, 3) := by decide +kernel
theorem dX9_count_124 : decode cX9_count 124 = .ok (.invokestatic 235, 3) := by decide +kernel
theorem dX9_count_127 : decode cX9_count 127 = .ok (.ireturn, 1) := by decide +kernel
theorem dX9_count_128 : decode cX9_count 128 = .ok (.aload_n 0, 1) := by decide +kernel
theorem dX9_count_129 : decode cX9_count 129 = .ok (.getfield 10, 3) := by decide +kernel
theorem dX9_count_132 : decode cX9_count 132 = .ok (.invokevirtual 238, 3) := by decide +kernel
theorem dX9_count_135 : decode cX9_count 135 = .ok (.ireturn, 1) := by decide +kernel
theorem dX9_count_136 : decode cX9_count 136 = .ok (.aload_n 0, 1) := by decide +kernel
theorem dX9_count_137 : decode cX9_count 137 = .ok (.getfield 10, 3) := by decide +kernel
theorem dX9_count_140 : decode cX9_count 140 = .ok (.invokevirtual 241, 3) := by decide +kernel
theorem dX9_count_143 : decode cX9_count 143 = .ok (.ireturn, 1) := by decide +kernel
theorem dX9_count_144 : decode cX9_count 144 = .ok (.aload_n 0, 1) := by decide +kernel
theorem dX9_count_145 : decode cX9_count 145 = .ok (.getfield 32, 3) := by decide +kernel
theorem dX9_count_148 : decode cX9_count 148 = .ok (.invokevirtual 89, 3) := by decide +kernel
theorem dX9_count_151 : decode cX9_count 151 = .ok (.ireturn, 1) := by decide +kernel
theorem dX9_count_152 : decode cX9_count 152 = .ok (.aload_n 0, 1) := by decide +kernel
theorem dX9_count_153 : decode cX9_count 153 = .ok (.getfield 25, 3) := by decide +kernel
theorem dX9_count_156 : decode cX9_count 156 = .ok (.invokevirtual 244, 3) := by decide +kernel
theorem dX9_count_159 : decode cX9_count 159 = .ok (.ireturn, 1) := by decide +kernel
theorem dX9_count_160 : decode cX9_count 160 = .ok (.iconst (-1), 1) := by decide +kernel
theorem dX9_count_161 : decode cX9_count 161 = .ok (.ireturn, 1) := by decide +kernel
theorem dX9_borne_0 : decode cX9_borne 0 = .ok (.iload_n 1, 1) := by decide +kernel
theorem dX9_borne_1 : decode cX9_borne 1 = .ok (.invokestatic 166, 3) := by decide +kernel
theorem dX9_borne_4 : decode cX9_borne 4 = .ok (.ifCond .eq 10, 3) := by decide +kernel
theorem dX9_borne_7 : decode cX9_borne 7 = .ok (.iload_n 2, 1) := by decide +kernel
theorem dX9_borne_8 : decode cX9_borne 8 = .ok (.invokestatic 175, 3) := by decide +kernel
theorem dX9_borne_11 : decode cX9_borne 11 = .ok (.ifCond .ne 5, 3) := by decide +kernel
theorem dX9_borne_14 : decode cX9_borne 14 = .ok (.iconst (-1), 1) := by decide +kernel
theorem dX9_borne_15 : decode cX9_borne 15 = .ok (.ireturn, 1) := by decide +kernel
theorem dX9_borne_16 : decode cX9_borne 16 = .ok (.aload_n 0, 1) := by decide +kernel
theorem dX9_borne_17 : decode cX9_borne 17 = .ok (.getfield 10, 3) := by decide +kernel
theorem dX9_borne_20 : decode cX9_borne 20 = .ok (.iload_n 1, 1) := by decide +kernel
theorem dX9_borne_21 : decode cX9_borne 21 = .ok (.iload_n 2, 1) := by decide +kernel
theorem dX9_borne_22 : decode cX9_borne 22 = .ok (.invokestatic 245, 3) := by decide +kernel
theorem dX9_borne_25 : decode cX9_borne 25 = .ok (.ireturn, 1) := by decide +kernel
theorem dX9_unlike_0 : decode cX9_unlike 0 = .ok (.aload_n 0, 1) := by decide +kernel
theorem dX9_unlike_1 : decode cX9_unlike 1 = .ok (.getfield 10, 3) := by decide +kernel
theorem dX9_unlike_4 : decode cX9_unlike 4 = .ok (.invokestatic 248, 3) := by decide +kernel
theorem dX9_unlike_7 : decode cX9_unlike 7 = .ok (.dreturn, 1) := by decide +kernel
theorem dX9_ifDead_0 : decode cX9_ifDead 0 = .ok (.aload_n 0, 1) := by decide +kernel
theorem dX9_ifDead_1 : decode cX9_ifDead 1 = .ok (.getfield 10, 3) := by decide +kernel
theorem dX9_ifDead_4 : decode cX9_ifDead 4 = .ok (.iload_n 1, 1) := by decide +kernel
theorem dX9_ifDead_5 : decode cX9_ifDead 5 = .ok (.invokevirtual 121, 3) := by decide +kernel
theorem dX9_ifDead_8 : decode cX9_ifDead 8 = .ok (.ifCond .eq 12, 3) := by decide +kernel
theorem dX9_ifDead_11 : decode cX9_ifDead 11 = .ok (.iload_n 2, 1) := by decide +kernel
theorem dX9_ifDead_12 : decode cX9_ifDead 12 = .ok (.ifCond .lt 8, 3) := by decide +kernel
theorem dX9_ifDead_15 : decode cX9_ifDead 15 = .ok (.iload_n 2, 1) := by decide +kernel
theorem dX9_ifDead_16 : decode cX9_ifDead 16 = .ok (.iconst 2, 1) := by decide +kernel
theorem dX9_ifDead_17 : decode cX9_ifDead 17 = .ok (.if_icmp .le 5, 3) := by decide +kernel
theorem dX9_ifDead_20 : decode cX9_ifDead 20 = .ok (.iconst (-1), 1) := by decide +kernel
theorem dX9_ifDead_21 : decode cX9_ifDead 21 = .ok (.ireturn, 1) := by decide +kernel
theorem dX9_ifDead_22 : decode cX9_ifDead 22 = .ok (.aload_n 0, 1) := by decide +kernel
theorem dX9_ifDead_23 : decode cX9_ifDead 23 = .ok (.getfield 10, 3) := by decide +kernel
theorem dX9_ifDead_26 : decode cX9_ifDead 26 = .ok (.iload_n 1, 1) := by decide +kernel
theorem dX9_ifDead_27 : decode cX9_ifDead 27 = .ok (.invokevirtual 127, 3) := by decide +kernel
theorem dX9_ifDead_30 : decode cX9_ifDead 30 = .ok (.ifCond .ne 6, 3) := by decide +kernel
theorem dX9_ifDead_33 : decode cX9_ifDead 33 = .ok (.bipush (-2), 2) := by decide +kernel
theorem dX9_ifDead_35 : decode cX9_ifDead 35 = .ok (.ireturn, 1) := by decide +kernel
theorem dX9_ifDead_36 : decode cX9_ifDead 36 = .ok (.aload_n 0, 1) := by decide +kernel
theorem dX9_ifDead_37 : decode cX9_ifDead 37 = .ok (.getfield 19, 3) := by decide +kernel
theorem dX9_ifDead_40 : decode cX9_ifDead 40 = .ok (.aload_n 0, 1) := by decide +kernel
theorem dX9_ifDead_41 : decode cX9_ifDead 41 = .ok (.getfield 10, 3) := by decide +kernel
theorem dX9_ifDead_44 : decode cX9_ifDead 44 = .ok (.invokevirtual 252, 3) := by decide +kernel
theorem dX9_ifDead_47 : decode cX9_ifDead 47 = .ok (.aload_n 0, 1) := by decide +kernel
theorem dX9_ifDead_48 : decode cX9_ifDead 48 = .ok (.getfield 19, 3) := by decide +kernel
theorem dX9_ifDead_51 : decode cX9_ifDead 51 = .ok (.iload_n 1, 1) := by decide +kernel
theorem dX9_ifDead_52 : decode cX9_ifDead 52 = .ok (.invokevirtual 72, 3) := by decide +kernel
theorem dX9_ifDead_55 : decode cX9_ifDead 55 = .ok (.pop, 1) := by decide +kernel
theorem dX9_ifDead_56 : decode cX9_ifDead 56 = .ok (.iload_n 2, 1) := by decide +kernel
theorem dX9_ifDead_57 : decode cX9_ifDead 57 = .ok (.ifCond .ne 15, 3) := by decide +kernel
theorem dX9_ifDead_60 : decode cX9_ifDead 60 = .ok (.aload_n 0, 1) := by decide +kernel
theorem dX9_ifDead_61 : decode cX9_ifDead 61 = .ok (.getfield 19, 3) := by decide +kernel
theorem dX9_ifDead_64 : decode cX9_ifDead 64 = .ok (.iload_n 1, 1) := by decide +kernel
theorem dX9_ifDead_65 : decode cX9_ifDead 65 = .ok (.invokestatic 255, 3) := by decide +kernel
theorem dX9_ifDead_68 : decode cX9_ifDead 68 = .ok (.invokestatic 133, 3) := by decide +kernel
theorem dX9_ifDead_71 : decode cX9_ifDead 71 = .ok (.ireturn, 1) := by decide +kernel
theorem dX9_ifDead_72 : decode cX9_ifDead 72 = .ok (.iload_n 2, 1) := by decide +kernel
theorem dX9_ifDead_73 : decode cX9_ifDead 73 = .ok (.iconst 1, 1) := by decide +kernel
theorem dX9_ifDead_74 : decode cX9_ifDead 74 = .ok (.if_icmp .ne 13, 3) := by decide +kernel
theorem dX9_ifDead_77 : decode cX9_ifDead 77 = .ok (.aload_n 0, 1) := by decide +kernel
theorem dX9_ifDead_78 : decode cX9_ifDead 78 = .ok (.getfield 19, 3) := by decide +kernel
theorem dX9_ifDead_81 : decode cX9_ifDead 81 = .ok (.invokestatic 223, 3) := by decide +kernel
theorem dX9_ifDead_84 : decode cX9_ifDead 84 = .ok (.goto 10, 3) := by decide +kernel
theorem dX9_ifDead_87 : decode cX9_ifDead 87 = .ok (.aload_n 0, 1) := by decide +kernel
theorem dX9_ifDead_88 : decode cX9_ifDead 88 = .ok (.getfield 19, 3) := by decide +kernel
theorem dX9_ifDead_91 : decode cX9_ifDead 91 = .ok (.invokestatic 258, 3) := by decide +kernel
theorem dX9_ifDead_94 : decode cX9_ifDead 94 = .ok (.ireturn, 1) := by decide +kernel
theorem dX9_undo_0 : decode cX9_undo 0 = .ok (.aload_n 0, 1) := by decide +kernel
theorem dX9_undo_1 : decode cX9_undo 1 = .ok (.getfield 25, 3) := by decide +kernel
theorem dX9_undo_4 : decode cX9_undo 4 = .ok (.invokevirtual 244, 3) := by decide +kernel
theorem dX9_undo_7 : decode cX9_undo 7 = .ok (.ifCond .ne 6, 3) := by decide +kernel
theorem dX9_undo_10 : decode cX9_undo 10 = .ok (.bipush (-2), 2) := by decide +kernel
theorem dX9_undo_12 : decode cX9_undo 12 = .ok (.ireturn, 1) := by decide +kernel
theorem dX9_undo_13 : decode cX9_undo 13 = .ok (.aload_n 0, 1) := by decide +kernel
theorem dX9_undo_14 : decode cX9_undo 14 = .ok (.getfield 25, 3) := by decide +kernel
theorem dX9_undo_17 : decode cX9_undo 17 = .ok (.aload_n 0, 1) := by decide +kernel
theorem dX9_undo_18 : decode cX9_undo 18 = .ok (.getfield 10, 3) := by decide +kernel
theorem dX9_undo_21 : decode cX9_undo 21 = .ok (.invokevirtual 261, 3) := by decide +kernel
theorem dX9_undo_24 : decode cX9_undo 24 = .ok (.aload_n 0, 1) := by decide +kernel
theorem dX9_undo_25 : decode cX9_undo 25 = .ok (.getfield 25, 3) := by decide +kernel
theorem dX9_undo_28 : decode cX9_undo 28 = .ok (.invokevirtual 244, 3) := by decide +kernel
theorem dX9_undo_31 : decode cX9_undo 31 = .ok (.ireturn, 1) := by decide +kernel
theorem dX9_save_0 : decode cX9_save 0 = .ok (.aload_n 0, 1) := by decide +kernel
theorem dX9_save_1 : decode cX9_save 1 = .ok (.getfield 16, 3) := by decide +kernel
theorem dX9_save_4 : decode cX9_save 4 = .ok (.aload_n 0, 1) := by decide +kernel
theorem dX9_save_5 : decode cX9_save 5 = .ok (.getfield 10, 3) := by decide +kernel
theorem dX9_save_8 : decode cX9_save 8 = .ok (.invokevirtual 252, 3) := by decide +kernel
theorem dX9_save_11 : decode cX9_save 11 = .ok (.aload_n 0, 1) := by decide +kernel
theorem dX9_save_12 : decode cX9_save 12 = .ok (.iconst 1, 1) := by decide +kernel
theorem dX9_save_13 : decode cX9_save 13 = .ok (.putfield 43, 3) := by decide +kernel
theorem dX9_save_16 : decode cX9_save 16 = .ok (.aload_n 0, 1) := by decide +kernel
theorem dX9_save_17 : decode cX9_save 17 = .ok (.getfield 10, 3) := by decide +kernel
theorem dX9_save_20 : decode cX9_save 20 = .ok (.invokevirtual 214, 3) := by decide +kernel
theorem dX9_save_23 : decode cX9_save 23 = .ok (.ireturn, 1) := by decide +kernel
theorem dX9_restore_0 : decode cX9_restore 0 = .ok (.aload_n 0, 1) := by decide +kernel
theorem dX9_restore_1 : decode cX9_restore 1 = .ok (.getfield 43, 3) := by decide +kernel
theorem dX9_restore_4 : decode cX9_restore 4 = .ok (.ifCond .ne 6, 3) := by decide +kernel
theorem dX9_restore_7 : decode cX9_restore 7 = .ok (.bipush (-2), 2) := by decide +kernel
theorem dX9_restore_9 : decode cX9_restore 9 = .ok (.ireturn, 1) := by decide +kernel
theorem dX9_restore_10 : decode cX9_restore 10 = .ok (.aload_n 0, 1) := by decide +kernel
theorem dX9_restore_11 : decode cX9_restore 11 = .ok (.getfield 25, 3) := by decide +kernel
theorem dX9_restore_14 : decode cX9_restore 14 = .ok (.aload_n 0, 1) := by decide +kernel
theorem dX9_restore_15 : decode cX9_restore 15 = .ok (.getfield 10, 3) := by decide +kernel
theorem dX9_restore_18 : decode cX9_restore 18 = .ok (.invokevirtual 57, 3) := by decide +kernel
theorem dX9_restore_21 : decode cX9_restore 21 = .ok (.aload_n 0, 1) := by decide +kernel
theorem dX9_restore_22 : decode cX9_restore 22 = .ok (.getfield 10, 3) := by decide +kernel
theorem dX9_restore_25 : decode cX9_restore 25 = .ok (.aload_n 0, 1) := by decide +kernel
theorem dX9_restore_26 : decode cX9_restore 26 = .ok (.getfield 16, 3) := by decide +kernel
theorem dX9_restore_29 : decode cX9_restore 29 = .ok (.invokevirtual 252, 3) := by decide +kernel
theorem dX9_restore_32 : decode cX9_restore 32 = .ok (.aload_n 0, 1) := by decide +kernel
theorem dX9_restore_33 : decode cX9_restore 33 = .ok (.getfield 25, 3) := by decide +kernel
theorem dX9_restore_36 : decode cX9_restore 36 = .ok (.invokevirtual 78, 3) := by decide +kernel
theorem dX9_restore_39 : decode cX9_restore 39 = .ok (.aload_n 0, 1) := by decide +kernel
theorem dX9_restore_40 : decode cX9_restore 40 = .ok (.getfield 10, 3) := by decide +kernel
theorem dX9_restore_43 : decode cX9_restore 43 = .ok (.invokevirtual 214, 3) := by decide +kernel
theorem dX9_restore_46 : decode cX9_restore 46 = .ok (.ireturn, 1) := by decide +kernel
theorem dL_cell_0 : decode cL_cell 0 = .ok (.iload_n 1, 1) := by decide +kernel
theorem dL_cell_1 : decode cL_cell 1 = .ok (.aload_n 0, 1) := by decide +kernel
theorem dL_cell_2 : decode cL_cell 2 = .ok (.arraylength, 1) := by decide +kernel
theorem dL_cell_3 : decode cL_cell 3 = .ok (.if_icmp .ge 9, 3) := by decide +kernel
theorem dL_cell_6 : decode cL_cell 6 = .ok (.aload_n 0, 1) := by decide +kernel
theorem dL_cell_7 : decode cL_cell 7 = .ok (.iload_n 1, 1) := by decide +kernel
theorem dL_cell_8 : decode cL_cell 8 = .ok (.iaload, 1) := by decide +kernel
theorem dL_cell_9 : decode cL_cell 9 = .ok (.goto 14, 3) := by decide +kernel
theorem dL_cell_12 : decode cL_cell 12 = .ok (.ldc 7, 2) := by decide +kernel
theorem dL_cell_14 : decode cL_cell 14 = .ok (.iload_n 1, 1) := by decide +kernel
theorem dL_cell_15 : decode cL_cell 15 = .ok (.sipush 367, 3) := by decide +kernel
theorem dL_cell_18 : decode cL_cell 18 = .ok (.iadd, 1) := by decide +kernel
theorem dL_cell_19 : decode cL_cell 19 = .ok (.imul, 1) := by decide +kernel
theorem dL_cell_20 : decode cL_cell 20 = .ok (.ldc 8, 2) := by decide +kernel
theorem dL_cell_22 : decode cL_cell 22 = .ok (.iadd, 1) := by decide +kernel
theorem dL_cell_23 : decode cL_cell 23 = .ok (.ldc 9, 2) := by decide +kernel
theorem dL_cell_25 : decode cL_cell 25 = .ok (.iand, 1) := by decide +kernel
theorem dL_cell_26 : decode cL_cell 26 = .ok (.ireturn, 1) := by decide +kernel
theorem dL_seen_0 : decode cL_seen 0 = .ok (.ldc2_w 10, 3) := by decide +kernel
theorem dL_seen_3 : decode cL_seen 3 = .ok (.lstore_n 1, 1) := by decide +kernel
theorem dL_seen_4 : decode cL_seen 4 = .ok (.iconst 0, 1) := by decide +kernel
theorem dL_seen_5 : decode cL_seen 5 = .ok (.istore_n 3, 1) := by decide +kernel
theorem dL_seen_6 : decode cL_seen 6 = .ok (.iload_n 3, 1) := by decide +kernel
theorem dL_seen_7 : decode cL_seen 7 = .ok (.bipush 10, 2) := by decide +kernel
theorem dL_seen_9 : decode cL_seen 9 = .ok (.if_icmp .ge 22, 3) := by decide +kernel
theorem dL_seen_12 : decode cL_seen 12 = .ok (.ldc2_w 12, 3) := by decide +kernel
theorem dL_seen_15 : decode cL_seen 15 = .ok (.lload_n 1, 1) := by decide +kernel
theorem dL_seen_16 : decode cL_seen 16 = .ok (.lmul, 1) := by decide +kernel
theorem dL_seen_17 : decode cL_seen 17 = .ok (.aload_n 0, 1) := by decide +kernel
theorem dL_seen_18 : decode cL_seen 18 = .ok (.iload_n 3, 1) := by decide +kernel
theorem dL_seen_19 : decode cL_seen 19 = .ok (.invokevirtual 14, 3) := by decide +kernel
theorem dL_seen_22 : decode cL_seen 22 = .ok (.i2l, 1) := by decide +kernel
theorem dL_seen_23 : decode cL_seen 23 = .ok (.ladd, 1) := by decide +kernel
theorem dL_seen_24 : decode cL_seen 24 = .ok (.lstore_n 1, 1) := by decide +kernel
theorem dL_seen_25 : decode cL_seen 25 = .ok (.iinc 3 1, 3) := by decide +kernel
theorem dL_seen_28 : decode cL_seen 28 = .ok (.goto (-22), 3) := by decide +kernel
theorem dL_seen_31 : decode cL_seen 31 = .ok (.iconst 0, 1) := by decide +kernel
theorem dL_seen_32 : decode cL_seen 32 = .ok (.istore_n 3, 1) := by decide +kernel
theorem dL_seen_33 : decode cL_seen 33 = .ok (.iload_n 3, 1) := by decide +kernel
theorem dL_seen_34 : decode cL_seen 34 = .ok (.bipush 20, 2) := by decide +kernel
theorem dL_seen_36 : decode cL_seen 36 = .ok (.if_icmp .ge 39, 3) := by decide +kernel
theorem dL_seen_39 : decode cL_seen 39 = .ok (.iconst 0, 1) := by decide +kernel
theorem dL_seen_40 : decode cL_seen 40 = .ok (.istore 4, 2) := by decide +kernel
theorem dL_seen_42 : decode cL_seen 42 = .ok (.iload 4, 2) := by decide +kernel
theorem dL_seen_44 : decode cL_seen 44 = .ok (.iconst 5, 1) := by decide +kernel
theorem dL_seen_45 : decode cL_seen 45 = .ok (.if_icmp .ge 24, 3) := by decide +kernel
theorem dL_seen_48 : decode cL_seen 48 = .ok (.ldc2_w 12, 3) := by decide +kernel
theorem dL_seen_51 : decode cL_seen 51 = .ok (.lload_n 1, 1) := by decide +kernel
theorem dL_seen_52 : decode cL_seen 52 = .ok (.lmul, 1) := by decide +kernel
theorem dL_seen_53 : decode cL_seen 53 = .ok (.aload_n 0, 1) := by decide +kernel
theorem dL_seen_54 : decode cL_seen 54 = .ok (.iload_n 3, 1) := by decide +kernel
theorem dL_seen_55 : decode cL_seen 55 = .ok (.iload 4, 2) := by decide +kernel
theorem dL_seen_57 : decode cL_seen 57 = .ok (.invokevirtual 20, 3) := by decide +kernel
theorem dL_seen_60 : decode cL_seen 60 = .ok (.i2l, 1) := by decide +kernel
theorem dL_seen_61 : decode cL_seen 61 = .ok (.ladd, 1) := by decide +kernel
theorem dL_seen_62 : decode cL_seen 62 = .ok (.lstore_n 1, 1) := by decide +kernel
theorem dL_seen_63 : decode cL_seen 63 = .ok (.iinc 4 1, 3) := by decide +kernel
theorem dL_seen_66 : decode cL_seen 66 = .ok (.goto (-24), 3) := by decide +kernel
theorem dL_seen_69 : decode cL_seen 69 = .ok (.iinc 3 1, 3) := by decide +kernel
theorem dL_seen_72 : decode cL_seen 72 = .ok (.goto (-39), 3) := by decide +kernel
theorem dL_seen_75 : decode cL_seen 75 = .ok (.lload_n 1, 1) := by decide +kernel
theorem dL_seen_76 : decode cL_seen 76 = .ok (.lreturn, 1) := by decide +kernel
theorem dL_arePersons_0 : decode cL_arePersons 0 = .ok (.aload_n 0, 1) := by decide +kernel
theorem dL_arePersons_1 : decode cL_arePersons 1 = .ok (.iconst 0, 1) := by decide +kernel
theorem dL_arePersons_2 : decode cL_arePersons 2 = .ok (.invokevirtual 14, 3) := by decide +kernel
theorem dL_arePersons_5 : decode cL_arePersons 5 = .ok (.istore_n 1, 1) := by decide +kernel
theorem dL_arePersons_6 : decode cL_arePersons 6 = .ok (.iconst 0, 1) := by decide +kernel
theorem dL_arePersons_7 : decode cL_arePersons 7 = .ok (.istore_n 2, 1) := by decide +kernel
theorem dL_arePersons_8 : decode cL_arePersons 8 = .ok (.iconst 0, 1) := by decide +kernel
theorem dL_arePersons_9 : decode cL_arePersons 9 = .ok (.istore_n 3, 1) := by decide +kernel
theorem dL_arePersons_10 : decode cL_arePersons 10 = .ok (.iconst 0, 1) := by decide +kernel
theorem dL_arePersons_11 : decode cL_arePersons 11 = .ok (.istore 4, 2) := by decide +kernel
theorem dL_arePersons_13 : decode cL_arePersons 13 = .ok (.iconst 0, 1) := by decide +kernel
theorem dL_arePersons_14 : decode cL_arePersons 14 = .ok (.istore 5, 2) := by decide +kernel
theorem dL_arePersons_16 : decode cL_arePersons 16 = .ok (.iload_n 1, 1) := by decide +kernel
theorem dL_arePersons_17 : decode cL_arePersons 17 = .ok (.ifCond .lt 13, 3) := by decide +kernel
theorem dL_arePersons_20 : decode cL_arePersons 20 = .ok (.iload_n 1, 1) := by decide +kernel
theorem dL_arePersons_21 : decode cL_arePersons 21 = .ok (.bipush 20, 2) := by decide +kernel
theorem dL_arePersons_23 : decode cL_arePersons 23 = .ok (.if_icmp .gt 7, 3) := by decide +kernel
theorem dL_arePersons_26 : decode cL_arePersons 26 = .ok (.iconst 1, 1) := by decide +kernel
theorem dL_arePersons_27 : decode cL_arePersons 27 = .ok (.goto 4, 3) := by decide +kernel
theorem dL_arePersons_30 : decode cL_arePersons 30 = .ok (.iconst 0, 1) := by decide +kernel
theorem dL_arePersons_31 : decode cL_arePersons 31 = .ok (.istore 6, 2) := by decide +kernel
theorem dL_arePersons_33 : decode cL_arePersons 33 = .ok (.iconst 0, 1) := by decide +kernel
theorem dL_arePersons_34 : decode cL_arePersons 34 = .ok (.istore 7, 2) := by decide +kernel
theorem dL_arePersons_36 : decode cL_arePersons 36 = .ok (.iload 7, 2) := by decide +kernel
theorem dL_arePersons_38 : decode cL_arePersons 38 = .ok (.iload_n 1, 1) := by decide +kernel
theorem dL_arePersons_39 : decode cL_arePersons 39 = .ok (.if_icmp .ge 446, 3) := by decide +kernel
theorem dL_arePersons_42 : decode cL_arePersons 42 = .ok (.iload 6, 2) := by decide +kernel
theorem dL_arePersons_44 : decode cL_arePersons 44 = .ok (.ifCond .eq 441, 3) := by decide +kernel
theorem dL_arePersons_47 : decode cL_arePersons 47 = .ok (.aload_n 0, 1) := by decide +kernel
theorem dL_arePersons_48 : decode cL_arePersons 48 = .ok (.iload 7, 2) := by decide +kernel
theorem dL_arePersons_50 : decode cL_arePersons 50 = .ok (.iconst 0, 1) := by decide +kernel
theorem dL_arePersons_51 : decode cL_arePersons 51 = .ok (.invokevirtual 20, 3) := by decide +kernel
theorem dL_arePersons_54 : decode cL_arePersons 54 = .ok (.istore 8, 2) := by decide +kernel
theorem dL_arePersons_56 : decode cL_arePersons 56 = .ok (.aload_n 0, 1) := by decide +kernel
theorem dL_arePersons_57 : decode cL_arePersons 57 = .ok (.iload 7, 2) := by decide +kernel
theorem dL_arePersons_59 : decode cL_arePersons 59 = .ok (.iconst 2, 1) := by decide +kernel
theorem dL_arePersons_60 : decode cL_arePersons 60 = .ok (.invokevirtual 20, 3) := by decide +kernel
theorem dL_arePersons_63 : decode cL_arePersons 63 = .ok (.istore 9, 2) := by decide +kernel
theorem dL_arePersons_65 : decode cL_arePersons 65 = .ok (.aload_n 0, 1) := by decide +kernel
theorem dL_arePersons_66 : decode cL_arePersons 66 = .ok (.iload 7, 2) := by decide +kernel
theorem dL_arePersons_68 : decode cL_arePersons 68 = .ok (.iconst 1, 1) := by decide +kernel
theorem dL_arePersons_69 : decode cL_arePersons 69 = .ok (.invokevirtual 20, 3) := by decide +kernel
theorem dL_arePersons_72 : decode cL_arePersons 72 = .ok (.iconst 1, 1) := by decide +kernel
theorem dL_arePersons_73 : decode cL_arePersons 73 = .ok (.if_icmp .ne 7, 3) := by decide +kernel
theorem dL_arePersons_76 : decode cL_arePersons 76 = .ok (.iconst 1, 1) := by decide +kernel
theorem dL_arePersons_77 : decode cL_arePersons 77 = .ok (.goto 4, 3) := by decide +kernel
theorem dL_arePersons_80 : decode cL_arePersons 80 = .ok (.iconst 0, 1) := by decide +kernel
theorem dL_arePersons_81 : decode cL_arePersons 81 = .ok (.istore 10, 2) := by decide +kernel
theorem dL_arePersons_83 : decode cL_arePersons 83 = .ok (.iload_n 2, 1) := by decide +kernel
theorem dL_arePersons_84 : decode cL_arePersons 84 = .ok (.iload 10, 2) := by decide +kernel
theorem dL_arePersons_86 : decode cL_arePersons 86 = .ok (.ifCond .eq 7, 3) := by decide +kernel
theorem dL_arePersons_89 : decode cL_arePersons 89 = .ok (.iconst 1, 1) := by decide +kernel
theorem dL_arePersons_90 : decode cL_arePersons 90 = .ok (.goto 4, 3) := by decide +kernel
theorem dL_arePersons_93 : decode cL_arePersons 93 = .ok (.iconst 0, 1) := by decide +kernel
theorem dL_arePersons_94 : decode cL_arePersons 94 = .ok (.iadd, 1) := by decide +kernel
theorem dL_arePersons_95 : decode cL_arePersons 95 = .ok (.istore_n 2, 1) := by decide +kernel
theorem dL_arePersons_96 : decode cL_arePersons 96 = .ok (.iload_n 3, 1) := by decide +kernel
theorem dL_arePersons_97 : decode cL_arePersons 97 = .ok (.iload 9, 2) := by decide +kernel
theorem dL_arePersons_99 : decode cL_arePersons 99 = .ok (.bipush (-4), 2) := by decide +kernel
theorem dL_arePersons_101 : decode cL_arePersons 101 = .ok (.if_icmp .ne 7, 3) := by decide +kernel
theorem dL_arePersons_104 : decode cL_arePersons 104 = .ok (.iconst 1, 1) := by decide +kernel
theorem dL_arePersons_105 : decode cL_arePersons 105 = .ok (.goto 4, 3) := by decide +kernel
theorem dL_arePersons_108 : decode cL_arePersons 108 = .ok (.iconst 0, 1) := by decide +kernel
theorem dL_arePersons_109 : decode cL_arePersons 109 = .ok (.iadd, 1) := by decide +kernel
theorem dL_arePersons_110 : decode cL_arePersons 110 = .ok (.istore_n 3, 1) := by decide +kernel
theorem dL_arePersons_111 : decode cL_arePersons 111 = .ok (.iload 5, 2) := by decide +kernel
theorem dL_arePersons_113 : decode cL_arePersons 113 = .ok (.aload_n 0, 1) := by decide +kernel
theorem dL_arePersons_114 : decode cL_arePersons 114 = .ok (.iload 7, 2) := by decide +kernel
theorem dL_arePersons_116 : decode cL_arePersons 116 = .ok (.iconst 5, 1) := by decide +kernel
theorem dL_arePersons_117 : decode cL_arePersons 117 = .ok (.invokevirtual 20, 3) := by decide +kernel
theorem dL_arePersons_120 : decode cL_arePersons 120 = .ok (.iadd, 1) := by decide +kernel
theorem dL_arePersons_121 : decode cL_arePersons 121 = .ok (.istore 5, 2) := by decide +kernel
theorem dL_arePersons_123 : decode cL_arePersons 123 = .ok (.iload 4, 2) := by decide +kernel
theorem dL_arePersons_125 : decode cL_arePersons 125 = .ok (.iload 10, 2) := by decide +kernel
theorem dL_arePersons_127 : decode cL_arePersons 127 = .ok (.ifCond .eq 17, 3) := by decide +kernel
theorem dL_arePersons_130 : decode cL_arePersons 130 = .ok (.aload_n 0, 1) := by decide +kernel
theorem dL_arePersons_131 : decode cL_arePersons 131 = .ok (.iload 7, 2) := by decide +kernel
theorem dL_arePersons_133 : decode cL_arePersons 133 = .ok (.iconst 5, 1) := by decide +kernel
theorem dL_arePersons_134 : decode cL_arePersons 134 = .ok (.invokevirtual 20, 3) := by decide +kernel
theorem dL_arePersons_137 : decode cL_arePersons 137 = .ok (.ifCond .ne 7, 3) := by decide +kernel
theorem dL_arePersons_140 : decode cL_arePersons 140 = .ok (.iconst 1, 1) := by decide +kernel
theorem dL_arePersons_141 : decode cL_arePersons 141 = .ok (.goto 4, 3) := by decide +kernel
theorem dL_arePersons_144 : decode cL_arePersons 144 = .ok (.iconst 0, 1) := by decide +kernel
theorem dL_arePersons_145 : decode cL_arePersons 145 = .ok (.iadd, 1) := by decide +kernel
theorem dL_arePersons_146 : decode cL_arePersons 146 = .ok (.istore 4, 2) := by decide +kernel
theorem dL_arePersons_148 : decode cL_arePersons 148 = .ok (.iload 8, 2) := by decide +kernel
theorem dL_arePersons_150 : decode cL_arePersons 150 = .ok (.ifCond .lt 122, 3) := by decide +kernel
theorem dL_arePersons_153 : decode cL_arePersons 153 = .ok (.iload 8, 2) := by decide +kernel
theorem dL_arePersons_155 : decode cL_arePersons 155 = .ok (.sipush 15625, 3) := by decide +kernel
theorem dL_arePersons_158 : decode cL_arePersons 158 = .ok (.if_icmp .ge 114, 3) := by decide +kernel
theorem dL_arePersons_161 : decode cL_arePersons 161 = .ok (.iload 10, 2) := by decide +kernel
theorem dL_arePersons_163 : decode cL_arePersons 163 = .ok (.ifCond .eq 17, 3) := by decide +kernel
theorem dL_arePersons_166 : decode cL_arePersons 166 = .ok (.aload_n 0, 1) := by decide +kernel
theorem dL_arePersons_167 : decode cL_arePersons 167 = .ok (.iload 8, 2) := by decide +kernel
theorem dL_arePersons_169 : decode cL_arePersons 169 = .ok (.invokevirtual 26, 3) := by decide +kernel
theorem dL_arePersons_172 : decode cL_arePersons 172 = .ok (.iload 7, 2) := by decide +kernel
theorem dL_arePersons_174 : decode cL_arePersons 174 = .ok (.if_icmp .ne 98, 3) := by decide +kernel
theorem dL_arePersons_177 : decode cL_arePersons 177 = .ok (.goto 14, 3) := by decide +kernel
theorem dL_arePersons_180 : decode cL_arePersons 180 = .ok (.aload_n 0, 1) := by decide +kernel
theorem dL_arePersons_181 : decode cL_arePersons 181 = .ok (.iload 8, 2) := by decide +kernel
theorem dL_arePersons_183 : decode cL_arePersons 183 = .ok (.invokevirtual 26, 3) := by decide +kernel
theorem dL_arePersons_186 : decode cL_arePersons 186 = .ok (.iload 7, 2) := by decide +kernel
theorem dL_arePersons_188 : decode cL_arePersons 188 = .ok (.if_icmp .eq 84, 3) := by decide +kernel
theorem dL_arePersons_191 : decode cL_arePersons 191 = .ok (.iload 9, 2) := by decide +kernel
theorem dL_arePersons_193 : decode cL_arePersons 193 = .ok (.iload 7, 2) := by decide +kernel
theorem dL_arePersons_195 : decode cL_arePersons 195 = .ok (.if_icmp .ge 77, 3) := by decide +kernel
theorem dL_arePersons_198 : decode cL_arePersons 198 = .ok (.aload_n 0, 1) := by decide +kernel
theorem dL_arePersons_199 : decode cL_arePersons 199 = .ok (.iload 7, 2) := by decide +kernel
theorem dL_arePersons_201 : decode cL_arePersons 201 = .ok (.bipush 6, 2) := by decide +kernel
theorem dL_arePersons_203 : decode cL_arePersons 203 = .ok (.invokevirtual 20, 3) := by decide +kernel
theorem dL_arePersons_206 : decode cL_arePersons 206 = .ok (.aload_n 0, 1) := by decide +kernel
theorem dL_arePersons_207 : decode cL_arePersons 207 = .ok (.iload 7, 2) := by decide +kernel
theorem dL_arePersons_209 : decode cL_arePersons 209 = .ok (.iconst 5, 1) := by decide +kernel
theorem dL_arePersons_210 : decode cL_arePersons 210 = .ok (.invokevirtual 20, 3) := by decide +kernel
theorem dL_arePersons_213 : decode cL_arePersons 213 = .ok (.if_icmp .gt 59, 3) := by decide +kernel
theorem dL_arePersons_216 : decode cL_arePersons 216 = .ok (.aload_n 0, 1) := by decide +kernel
theorem dL_arePersons_217 : decode cL_arePersons 217 = .ok (.iload 7, 2) := by decide +kernel
theorem dL_arePersons_219 : decode cL_arePersons 219 = .ok (.iconst 5, 1) := by decide +kernel
theorem dL_arePersons_220 : decode cL_arePersons 220 = .ok (.invokevirtual 20, 3) := by decide +kernel
theorem dL_arePersons_223 : decode cL_arePersons 223 = .ok (.iconst 4, 1) := by decide +kernel
theorem dL_arePersons_224 : decode cL_arePersons 224 = .ok (.if_icmp .gt 48, 3) := by decide +kernel
theorem dL_arePersons_227 : decode cL_arePersons 227 = .ok (.aload_n 0, 1) := by decide +kernel
theorem dL_arePersons_228 : decode cL_arePersons 228 = .ok (.iload 7, 2) := by decide +kernel
theorem dL_arePersons_230 : decode cL_arePersons 230 = .ok (.iconst 5, 1) := by decide +kernel
theorem dL_arePersons_231 : decode cL_arePersons 231 = .ok (.invokevirtual 20, 3) := by decide +kernel
theorem dL_arePersons_234 : decode cL_arePersons 234 = .ok (.aload_n 0, 1) := by decide +kernel
theorem dL_arePersons_235 : decode cL_arePersons 235 = .ok (.iload 7, 2) := by decide +kernel
theorem dL_arePersons_237 : decode cL_arePersons 237 = .ok (.bipush 9, 2) := by decide +kernel
theorem dL_arePersons_239 : decode cL_arePersons 239 = .ok (.invokevirtual 20, 3) := by decide +kernel
theorem dL_arePersons_242 : decode cL_arePersons 242 = .ok (.if_icmp .gt 30, 3) := by decide +kernel
theorem dL_arePersons_245 : decode cL_arePersons 245 = .ok (.aload_n 0, 1) := by decide +kernel
theorem dL_arePersons_246 : decode cL_arePersons 246 = .ok (.iload 7, 2) := by decide +kernel
theorem dL_arePersons_248 : decode cL_arePersons 248 = .ok (.bipush 7, 2) := by decide +kernel
theorem dL_arePersons_250 : decode cL_arePersons 250 = .ok (.invokevirtual 20, 3) := by decide +kernel
theorem dL_arePersons_253 : decode cL_arePersons 253 = .ok (.iconst 3, 1) := by decide +kernel
theorem dL_arePersons_254 : decode cL_arePersons 254 = .ok (.if_icmp .gt 18, 3) := by decide +kernel
theorem dL_arePersons_257 : decode cL_arePersons 257 = .ok (.aload_n 0, 1) := by decide +kernel
theorem dL_arePersons_258 : decode cL_arePersons 258 = .ok (.iload 7, 2) := by decide +kernel
theorem dL_arePersons_260 : decode cL_arePersons 260 = .ok (.iload 7, 2) := by decide +kernel
theorem dL_arePersons_262 : decode cL_arePersons 262 = .ok (.invokevirtual 29, 3) := by decide +kernel
theorem dL_arePersons_265 : decode cL_arePersons 265 = .ok (.ifCond .ne 7, 3) := by decide +kernel
theorem dL_arePersons_268 : decode cL_arePersons 268 = .ok (.iconst 1, 1) := by decide +kernel
theorem dL_arePersons_269 : decode cL_arePersons 269 = .ok (.goto 4, 3) := by decide +kernel
theorem dL_arePersons_272 : decode cL_arePersons 272 = .ok (.iconst 0, 1) := by decide +kernel
theorem dL_arePersons_273 : decode cL_arePersons 273 = .ok (.istore 6, 2) := by decide +kernel
theorem dL_arePersons_275 : decode cL_arePersons 275 = .ok (.iload 9, 2) := by decide +kernel
theorem dL_arePersons_277 : decode cL_arePersons 277 = .ok (.bipush (-4), 2) := by decide +kernel
theorem dL_arePersons_279 : decode cL_arePersons 279 = .ok (.if_icmp .ne 88, 3) := by decide +kernel
theorem dL_arePersons_282 : decode cL_arePersons 282 = .ok (.iload 6, 2) := by decide +kernel
theorem dL_arePersons_284 : decode cL_arePersons 284 = .ok (.ifCond .eq 77, 3) := by decide +kernel
theorem dL_arePersons_287 : decode cL_arePersons 287 = .ok (.aload_n 0, 1) := by decide +kernel
theorem dL_arePersons_288 : decode cL_arePersons 288 = .ok (.iload 7, 2) := by decide +kernel
theorem dL_arePersons_290 : decode cL_arePersons 290 = .ok (.iconst 3, 1) := by decide +kernel
theorem dL_arePersons_291 : decode cL_arePersons 291 = .ok (.invokevirtual 20, 3) := by decide +kernel
theorem dL_arePersons_294 : decode cL_arePersons 294 = .ok (.bipush (-4), 2) := by decide +kernel
theorem dL_arePersons_296 : decode cL_arePersons 296 = .ok (.if_icmp .ne 65, 3) := by decide +kernel
theorem dL_arePersons_299 : decode cL_arePersons 299 = .ok (.aload_n 0, 1) := by decide +kernel
theorem dL_arePersons_300 : decode cL_arePersons 300 = .ok (.iload 7, 2) := by decide +kernel
theorem dL_arePersons_302 : decode cL_arePersons 302 = .ok (.iconst 4, 1) := by decide +kernel
theorem dL_arePersons_303 : decode cL_arePersons 303 = .ok (.invokevirtual 20, 3) := by decide +kernel
theorem dL_arePersons_306 : decode cL_arePersons 306 = .ok (.bipush (-4), 2) := by decide +kernel
theorem dL_arePersons_308 : decode cL_arePersons 308 = .ok (.if_icmp .ne 53, 3) := by decide +kernel
theorem dL_arePersons_311 : decode cL_arePersons 311 = .ok (.aload_n 0, 1) := by decide +kernel
theorem dL_arePersons_312 : decode cL_arePersons 312 = .ok (.iload 7, 2) := by decide +kernel
theorem dL_arePersons_314 : decode cL_arePersons 314 = .ok (.bipush 7, 2) := by decide +kernel
theorem dL_arePersons_316 : decode cL_arePersons 316 = .ok (.invokevirtual 20, 3) := by decide +kernel
theorem dL_arePersons_319 : decode cL_arePersons 319 = .ok (.ifCond .ne 42, 3) := by decide +kernel
theorem dL_arePersons_322 : decode cL_arePersons 322 = .ok (.aload_n 0, 1) := by decide +kernel
theorem dL_arePersons_323 : decode cL_arePersons 323 = .ok (.iload 7, 2) := by decide +kernel
theorem dL_arePersons_325 : decode cL_arePersons 325 = .ok (.bipush 8, 2) := by decide +kernel
theorem dL_arePersons_327 : decode cL_arePersons 327 = .ok (.invokevirtual 20, 3) := by decide +kernel
theorem dL_arePersons_330 : decode cL_arePersons 330 = .ok (.ifCond .ne 31, 3) := by decide +kernel
theorem dL_arePersons_333 : decode cL_arePersons 333 = .ok (.aload_n 0, 1) := by decide +kernel
theorem dL_arePersons_334 : decode cL_arePersons 334 = .ok (.iload 7, 2) := by decide +kernel
theorem dL_arePersons_336 : decode cL_arePersons 336 = .ok (.bipush 10, 2) := by decide +kernel
theorem dL_arePersons_338 : decode cL_arePersons 338 = .ok (.invokevirtual 20, 3) := by decide +kernel
theorem dL_arePersons_341 : decode cL_arePersons 341 = .ok (.ifCond .ne 20, 3) := by decide +kernel
theorem dL_arePersons_344 : decode cL_arePersons 344 = .ok (.aload_n 0, 1) := by decide +kernel
theorem dL_arePersons_345 : decode cL_arePersons 345 = .ok (.iload 7, 2) := by decide +kernel
theorem dL_arePersons_347 : decode cL_arePersons 347 = .ok (.bipush 11, 2) := by decide +kernel
theorem dL_arePersons_349 : decode cL_arePersons 349 = .ok (.invokevirtual 20, 3) := by decide +kernel
theorem dL_arePersons_352 : decode cL_arePersons 352 = .ok (.bipush (-4), 2) := by decide +kernel
theorem dL_arePersons_354 : decode cL_arePersons 354 = .ok (.if_icmp .ne 7, 3) := by decide +kernel
theorem dL_arePersons_357 : decode cL_arePersons 357 = .ok (.iconst 1, 1) := by decide +kernel
theorem dL_arePersons_358 : decode cL_arePersons 358 = .ok (.goto 4, 3) := by decide +kernel
theorem dL_arePersons_361 : decode cL_arePersons 361 = .ok (.iconst 0, 1) := by decide +kernel
theorem dL_arePersons_362 : decode cL_arePersons 362 = .ok (.istore 6, 2) := by decide +kernel
theorem dL_arePersons_364 : decode cL_arePersons 364 = .ok (.goto 115, 3) := by decide +kernel
theorem dL_arePersons_367 : decode cL_arePersons 367 = .ok (.iload 6, 2) := by decide +kernel
theorem dL_arePersons_369 : decode cL_arePersons 369 = .ok (.ifCond .eq 107, 3) := by decide +kernel
theorem dL_arePersons_372 : decode cL_arePersons 372 = .ok (.iload 9, 2) := by decide +kernel
theorem dL_arePersons_374 : decode cL_arePersons 374 = .ok (.ifCond .lt 102, 3) := by decide +kernel
theorem dL_arePersons_377 : decode cL_arePersons 377 = .ok (.aload_n 0, 1) := by decide +kernel
theorem dL_arePersons_378 : decode cL_arePersons 378 = .ok (.iload 7, 2) := by decide +kernel
theorem dL_arePersons_380 : decode cL_arePersons 380 = .ok (.iconst 3, 1) := by decide +kernel
theorem dL_arePersons_381 : decode cL_arePersons 381 = .ok (.invokevirtual 20, 3) := by decide +kernel
theorem dL_arePersons_384 : decode cL_arePersons 384 = .ok (.ifCond .lt 92, 3) := by decide +kernel
theorem dL_arePersons_387 : decode cL_arePersons 387 = .ok (.aload_n 0, 1) := by decide +kernel
theorem dL_arePersons_388 : decode cL_arePersons 388 = .ok (.iload 7, 2) := by decide +kernel
theorem dL_arePersons_390 : decode cL_arePersons 390 = .ok (.iconst 3, 1) := by decide +kernel
theorem dL_arePersons_391 : decode cL_arePersons 391 = .ok (.invokevirtual 20, 3) := by decide +kernel
theorem dL_arePersons_394 : decode cL_arePersons 394 = .ok (.bipush 6, 2) := by decide +kernel
theorem dL_arePersons_396 : decode cL_arePersons 396 = .ok (.if_icmp .ge 80, 3) := by decide +kernel
theorem dL_arePersons_399 : decode cL_arePersons 399 = .ok (.aload_n 0, 1) := by decide +kernel
theorem dL_arePersons_400 : decode cL_arePersons 400 = .ok (.iload 7, 2) := by decide +kernel
theorem dL_arePersons_402 : decode cL_arePersons 402 = .ok (.iconst 4, 1) := by decide +kernel
theorem dL_arePersons_403 : decode cL_arePersons 403 = .ok (.invokevirtual 20, 3) := by decide +kernel
theorem dL_arePersons_406 : decode cL_arePersons 406 = .ok (.ifCond .lt 70, 3) := by decide +kernel
theorem dL_arePersons_409 : decode cL_arePersons 409 = .ok (.aload_n 0, 1) := by decide +kernel
theorem dL_arePersons_410 : decode cL_arePersons 410 = .ok (.iload 7, 2) := by decide +kernel
theorem dL_arePersons_412 : decode cL_arePersons 412 = .ok (.iconst 4, 1) := by decide +kernel
theorem dL_arePersons_413 : decode cL_arePersons 413 = .ok (.invokevirtual 20, 3) := by decide +kernel
theorem dL_arePersons_416 : decode cL_arePersons 416 = .ok (.iconst 5, 1) := by decide +kernel
theorem dL_arePersons_417 : decode cL_arePersons 417 = .ok (.if_icmp .ge 59, 3) := by decide +kernel
theorem dL_arePersons_420 : decode cL_arePersons 420 = .ok (.aload_n 0, 1) := by decide +kernel
theorem dL_arePersons_421 : decode cL_arePersons 421 = .ok (.iload 7, 2) := by decide +kernel
theorem dL_arePersons_423 : decode cL_arePersons 423 = .ok (.bipush 10, 2) := by decide +kernel
theorem dL_arePersons_425 : decode cL_arePersons 425 = .ok (.invokevirtual 20, 3) := by decide +kernel
theorem dL_arePersons_428 : decode cL_arePersons 428 = .ok (.aload_n 0, 1) := by decide +kernel
theorem dL_arePersons_429 : decode cL_arePersons 429 = .ok (.iload 9, 2) := by decide +kernel
theorem dL_arePersons_431 : decode cL_arePersons 431 = .ok (.bipush 10, 2) := by decide +kernel
theorem dL_arePersons_433 : decode cL_arePersons 433 = .ok (.invokevirtual 20, 3) := by decide +kernel
theorem dL_arePersons_436 : decode cL_arePersons 436 = .ok (.iconst 1, 1) := by decide +kernel
theorem dL_arePersons_437 : decode cL_arePersons 437 = .ok (.iadd, 1) := by decide +kernel
theorem dL_arePersons_438 : decode cL_arePersons 438 = .ok (.if_icmp .ne 38, 3) := by decide +kernel
theorem dL_arePersons_441 : decode cL_arePersons 441 = .ok (.aload_n 0, 1) := by decide +kernel
theorem dL_arePersons_442 : decode cL_arePersons 442 = .ok (.iload 7, 2) := by decide +kernel
theorem dL_arePersons_444 : decode cL_arePersons 444 = .ok (.bipush 11, 2) := by decide +kernel
theorem dL_arePersons_446 : decode cL_arePersons 446 = .ok (.invokevirtual 20, 3) := by decide +kernel
theorem dL_arePersons_449 : decode cL_arePersons 449 = .ok (.aload_n 0, 1) := by decide +kernel
theorem dL_arePersons_450 : decode cL_arePersons 450 = .ok (.iload 7, 2) := by decide +kernel
theorem dL_arePersons_452 : decode cL_arePersons 452 = .ok (.iload 9, 2) := by decide +kernel
theorem dL_arePersons_454 : decode cL_arePersons 454 = .ok (.invokevirtual 32, 3) := by decide +kernel
theorem dL_arePersons_457 : decode cL_arePersons 457 = .ok (.if_icmp .ne 19, 3) := by decide +kernel
theorem dL_arePersons_460 : decode cL_arePersons 460 = .ok (.aload_n 0, 1) := by decide +kernel
theorem dL_arePersons_461 : decode cL_arePersons 461 = .ok (.iload 7, 2) := by decide +kernel
theorem dL_arePersons_463 : decode cL_arePersons 463 = .ok (.iload 9, 2) := by decide +kernel
theorem dL_arePersons_465 : decode cL_arePersons 465 = .ok (.invokevirtual 29, 3) := by decide +kernel
theorem dL_arePersons_468 : decode cL_arePersons 468 = .ok (.iconst 1, 1) := by decide +kernel
theorem dL_arePersons_469 : decode cL_arePersons 469 = .ok (.if_icmp .ne 7, 3) := by decide +kernel
theorem dL_arePersons_472 : decode cL_arePersons 472 = .ok (.iconst 1, 1) := by decide +kernel
theorem dL_arePersons_473 : decode cL_arePersons 473 = .ok (.goto 4, 3) := by decide +kernel
theorem dL_arePersons_476 : decode cL_arePersons 476 = .ok (.iconst 0, 1) := by decide +kernel
theorem dL_arePersons_477 : decode cL_arePersons 477 = .ok (.istore 6, 2) := by decide +kernel
theorem dL_arePersons_479 : decode cL_arePersons 479 = .ok (.iinc 7 1, 3) := by decide +kernel
theorem dL_arePersons_482 : decode cL_arePersons 482 = .ok (.goto (-446), 3) := by decide +kernel
theorem dL_arePersons_485 : decode cL_arePersons 485 = .ok (.iconst 0, 1) := by decide +kernel
theorem dL_arePersons_486 : decode cL_arePersons 486 = .ok (.istore 7, 2) := by decide +kernel
theorem dL_arePersons_488 : decode cL_arePersons 488 = .ok (.iconst 0, 1) := by decide +kernel
theorem dL_arePersons_489 : decode cL_arePersons 489 = .ok (.istore 8, 2) := by decide +kernel
theorem dL_arePersons_491 : decode cL_arePersons 491 = .ok (.iload 8, 2) := by decide +kernel
theorem dL_arePersons_493 : decode cL_arePersons 493 = .ok (.iconst 5, 1) := by decide +kernel
theorem dL_arePersons_494 : decode cL_arePersons 494 = .ok (.if_icmp .ge 21, 3) := by decide +kernel
theorem dL_arePersons_497 : decode cL_arePersons 497 = .ok (.iload 7, 2) := by decide +kernel
theorem dL_arePersons_499 : decode cL_arePersons 499 = .ok (.aload_n 0, 1) := by decide +kernel
theorem dL_arePersons_500 : decode cL_arePersons 500 = .ok (.iconst 3, 1) := by decide +kernel
theorem dL_arePersons_501 : decode cL_arePersons 501 = .ok (.iload 8, 2) := by decide +kernel
theorem dL_arePersons_503 : decode cL_arePersons 503 = .ok (.invokevirtual 35, 3) := by decide +kernel
theorem dL_arePersons_506 : decode cL_arePersons 506 = .ok (.iadd, 1) := by decide +kernel
theorem dL_arePersons_507 : decode cL_arePersons 507 = .ok (.istore 7, 2) := by decide +kernel
theorem dL_arePersons_509 : decode cL_arePersons 509 = .ok (.iinc 8 1, 3) := by decide +kernel
theorem dL_arePersons_512 : decode cL_arePersons 512 = .ok (.goto (-21), 3) := by decide +kernel
theorem dL_arePersons_515 : decode cL_arePersons 515 = .ok (.iload 6, 2) := by decide +kernel
theorem dL_arePersons_517 : decode cL_arePersons 517 = .ok (.ifCond .eq 162, 3) := by decide +kernel
theorem dL_arePersons_520 : decode cL_arePersons 520 = .ok (.iload_n 2, 1) := by decide +kernel
theorem dL_arePersons_521 : decode cL_arePersons 521 = .ok (.aload_n 0, 1) := by decide +kernel
theorem dL_arePersons_522 : decode cL_arePersons 522 = .ok (.iconst 1, 1) := by decide +kernel
theorem dL_arePersons_523 : decode cL_arePersons 523 = .ok (.invokevirtual 14, 3) := by decide +kernel
theorem dL_arePersons_526 : decode cL_arePersons 526 = .ok (.if_icmp .ne 153, 3) := by decide +kernel
theorem dL_arePersons_529 : decode cL_arePersons 529 = .ok (.iload_n 3, 1) := by decide +kernel
theorem dL_arePersons_530 : decode cL_arePersons 530 = .ok (.aload_n 0, 1) := by decide +kernel
theorem dL_arePersons_531 : decode cL_arePersons 531 = .ok (.iconst 2, 1) := by decide +kernel
theorem dL_arePersons_532 : decode cL_arePersons 532 = .ok (.invokevirtual 14, 3) := by decide +kernel
theorem dL_arePersons_535 : decode cL_arePersons 535 = .ok (.if_icmp .ne 144, 3) := by decide +kernel
theorem dL_arePersons_538 : decode cL_arePersons 538 = .ok (.iload 4, 2) := by decide +kernel
theorem dL_arePersons_540 : decode cL_arePersons 540 = .ok (.aload_n 0, 1) := by decide +kernel
theorem dL_arePersons_541 : decode cL_arePersons 541 = .ok (.bipush 7, 2) := by decide +kernel
theorem dL_arePersons_543 : decode cL_arePersons 543 = .ok (.invokevirtual 14, 3) := by decide +kernel
theorem dL_arePersons_546 : decode cL_arePersons 546 = .ok (.if_icmp .ne 133, 3) := by decide +kernel
theorem dL_arePersons_549 : decode cL_arePersons 549 = .ok (.iload 5, 2) := by decide +kernel
theorem dL_arePersons_551 : decode cL_arePersons 551 = .ok (.iload_n 1, 1) := by decide +kernel
theorem dL_arePersons_552 : decode cL_arePersons 552 = .ok (.iload_n 3, 1) := by decide +kernel
theorem dL_arePersons_553 : decode cL_arePersons 553 = .ok (.isub, 1) := by decide +kernel
theorem dL_arePersons_554 : decode cL_arePersons 554 = .ok (.if_icmp .ne 125, 3) := by decide +kernel
theorem dL_arePersons_557 : decode cL_arePersons 557 = .ok (.iload 7, 2) := by decide +kernel
theorem dL_arePersons_559 : decode cL_arePersons 559 = .ok (.iload_n 2, 1) := by decide +kernel
theorem dL_arePersons_560 : decode cL_arePersons 560 = .ok (.if_icmp .ne 119, 3) := by decide +kernel
theorem dL_arePersons_563 : decode cL_arePersons 563 = .ok (.aload_n 0, 1) := by decide +kernel
theorem dL_arePersons_564 : decode cL_arePersons 564 = .ok (.iconst 3, 1) := by decide +kernel
theorem dL_arePersons_565 : decode cL_arePersons 565 = .ok (.invokevirtual 14, 3) := by decide +kernel
theorem dL_arePersons_568 : decode cL_arePersons 568 = .ok (.ifCond .lt 111, 3) := by decide +kernel
theorem dL_arePersons_571 : decode cL_arePersons 571 = .ok (.aload_n 0, 1) := by decide +kernel
theorem dL_arePersons_572 : decode cL_arePersons 572 = .ok (.iconst 5, 1) := by decide +kernel
theorem dL_arePersons_573 : decode cL_arePersons 573 = .ok (.invokevirtual 14, 3) := by decide +kernel
theorem dL_arePersons_576 : decode cL_arePersons 576 = .ok (.iload_n 1, 1) := by decide +kernel
theorem dL_arePersons_577 : decode cL_arePersons 577 = .ok (.if_icmp .gt 102, 3) := by decide +kernel
theorem dL_arePersons_580 : decode cL_arePersons 580 = .ok (.aload_n 0, 1) := by decide +kernel
theorem dL_arePersons_581 : decode cL_arePersons 581 = .ok (.iconst 5, 1) := by decide +kernel
theorem dL_arePersons_582 : decode cL_arePersons 582 = .ok (.invokevirtual 14, 3) := by decide +kernel
theorem dL_arePersons_585 : decode cL_arePersons 585 = .ok (.iload_n 2, 1) := by decide +kernel
theorem dL_arePersons_586 : decode cL_arePersons 586 = .ok (.if_icmp .lt 93, 3) := by decide +kernel
theorem dL_arePersons_589 : decode cL_arePersons 589 = .ok (.aload_n 0, 1) := by decide +kernel
theorem dL_arePersons_590 : decode cL_arePersons 590 = .ok (.bipush 6, 2) := by decide +kernel
theorem dL_arePersons_592 : decode cL_arePersons 592 = .ok (.invokevirtual 14, 3) := by decide +kernel
theorem dL_arePersons_595 : decode cL_arePersons 595 = .ok (.iload_n 2, 1) := by decide +kernel
theorem dL_arePersons_596 : decode cL_arePersons 596 = .ok (.if_icmp .gt 83, 3) := by decide +kernel
theorem dL_arePersons_599 : decode cL_arePersons 599 = .ok (.aload_n 0, 1) := by decide +kernel
theorem dL_arePersons_600 : decode cL_arePersons 600 = .ok (.bipush 8, 2) := by decide +kernel
theorem dL_arePersons_602 : decode cL_arePersons 602 = .ok (.invokevirtual 14, 3) := by decide +kernel
theorem dL_arePersons_605 : decode cL_arePersons 605 = .ok (.iload_n 1, 1) := by decide +kernel
theorem dL_arePersons_606 : decode cL_arePersons 606 = .ok (.iload_n 3, 1) := by decide +kernel
theorem dL_arePersons_607 : decode cL_arePersons 607 = .ok (.isub, 1) := by decide +kernel
theorem dL_arePersons_608 : decode cL_arePersons 608 = .ok (.if_icmp .gt 71, 3) := by decide +kernel
theorem dL_arePersons_611 : decode cL_arePersons 611 = .ok (.aload_n 0, 1) := by decide +kernel
theorem dL_arePersons_612 : decode cL_arePersons 612 = .ok (.iconst 4, 1) := by decide +kernel
theorem dL_arePersons_613 : decode cL_arePersons 613 = .ok (.invokevirtual 14, 3) := by decide +kernel
theorem dL_arePersons_616 : decode cL_arePersons 616 = .ok (.iload_n 1, 1) := by decide +kernel
theorem dL_arePersons_617 : decode cL_arePersons 617 = .ok (.ifCond .ne 7, 3) := by decide +kernel
theorem dL_arePersons_620 : decode cL_arePersons 620 = .ok (.iconst 1, 1) := by decide +kernel
theorem dL_arePersons_621 : decode cL_arePersons 621 = .ok (.goto 4, 3) := by decide +kernel
theorem dL_arePersons_624 : decode cL_arePersons 624 = .ok (.iload_n 1, 1) := by decide +kernel
theorem dL_arePersons_625 : decode cL_arePersons 625 = .ok (.if_icmp .ge 54, 3) := by decide +kernel
theorem dL_arePersons_628 : decode cL_arePersons 628 = .ok (.aload_n 0, 1) := by decide +kernel
theorem dL_arePersons_629 : decode cL_arePersons 629 = .ok (.invokevirtual 38, 3) := by decide +kernel
theorem dL_arePersons_632 : decode cL_arePersons 632 = .ok (.dconst 0, 1) := by decide +kernel
theorem dL_arePersons_633 : decode cL_arePersons 633 = .ok (.dcmp .l, 1) := by decide +kernel
theorem dL_arePersons_634 : decode cL_arePersons 634 = .ok (.ifCond .lt 45, 3) := by decide +kernel
theorem dL_arePersons_637 : decode cL_arePersons 637 = .ok (.aload_n 0, 1) := by decide +kernel
theorem dL_arePersons_638 : decode cL_arePersons 638 = .ok (.invokevirtual 38, 3) := by decide +kernel
theorem dL_arePersons_641 : decode cL_arePersons 641 = .ok (.ldc2_w 42, 3) := by decide +kernel
theorem dL_arePersons_644 : decode cL_arePersons 644 = .ok (.dcmp .g, 1) := by decide +kernel
theorem dL_arePersons_645 : decode cL_arePersons 645 = .ok (.ifCond .gt 34, 3) := by decide +kernel
theorem dL_arePersons_648 : decode cL_arePersons 648 = .ok (.iload_n 2, 1) := by decide +kernel
theorem dL_arePersons_649 : decode cL_arePersons 649 = .ok (.iconst 1, 1) := by decide +kernel
theorem dL_arePersons_650 : decode cL_arePersons 650 = .ok (.if_icmp .le 7, 3) := by decide +kernel
theorem dL_arePersons_653 : decode cL_arePersons 653 = .ok (.iconst 1, 1) := by decide +kernel
theorem dL_arePersons_654 : decode cL_arePersons 654 = .ok (.goto 4, 3) := by decide +kernel
theorem dL_arePersons_657 : decode cL_arePersons 657 = .ok (.iconst 0, 1) := by decide +kernel
theorem dL_arePersons_658 : decode cL_arePersons 658 = .ok (.aload_n 0, 1) := by decide +kernel
theorem dL_arePersons_659 : decode cL_arePersons 659 = .ok (.invokevirtual 38, 3) := by decide +kernel
theorem dL_arePersons_662 : decode cL_arePersons 662 = .ok (.dconst 0, 1) := by decide +kernel
theorem dL_arePersons_663 : decode cL_arePersons 663 = .ok (.dcmp .l, 1) := by decide +kernel
theorem dL_arePersons_664 : decode cL_arePersons 664 = .ok (.ifCond .le 7, 3) := by decide +kernel
theorem dL_arePersons_667 : decode cL_arePersons 667 = .ok (.iconst 1, 1) := by decide +kernel
theorem dL_arePersons_668 : decode cL_arePersons 668 = .ok (.goto 4, 3) := by decide +kernel
theorem dL_arePersons_671 : decode cL_arePersons 671 = .ok (.iconst 0, 1) := by decide +kernel
theorem dL_arePersons_672 : decode cL_arePersons 672 = .ok (.if_icmp .ne 7, 3) := by decide +kernel
theorem dL_arePersons_675 : decode cL_arePersons 675 = .ok (.iconst 1, 1) := by decide +kernel
theorem dL_arePersons_676 : decode cL_arePersons 676 = .ok (.goto 4, 3) := by decide +kernel
theorem dL_arePersons_679 : decode cL_arePersons 679 = .ok (.iconst 0, 1) := by decide +kernel
theorem dL_arePersons_680 : decode cL_arePersons 680 = .ok (.ireturn, 1) := by decide +kernel
end
section
theorem dL_arePairs_0 : decode cL_arePairs 0 = .ok (.aload_n 0, 1) := by decide +kernel
theorem dL_arePairs_1 : decode cL_arePairs 1 = .ok (.iload_n 1, 1) := by decide +kernel
theorem dL_arePairs_2 : decode cL_arePairs 2 = .ok (.iload_n 2, 1) := by decide +kernel
theorem dL_arePairs_3 : decode cL_arePairs 3 = .ok (.invokevirtual 32, 3) := by decide +kernel
theorem dL_arePairs_6 : decode cL_arePairs 6 = .ok (.istore 4, 2) := by decide +kernel
theorem dL_arePairs_8 : decode cL_arePairs 8 = .ok (.aload_n 0, 1) := by decide +kernel
theorem dL_arePairs_9 : decode cL_arePairs 9 = .ok (.iload_n 1, 1) := by decide +kernel
theorem dL_arePairs_10 : decode cL_arePairs 10 = .ok (.iload_n 2, 1) := by decide +kernel
theorem dL_arePairs_11 : decode cL_arePairs 11 = .ok (.invokevirtual 29, 3) := by decide +kernel
theorem dL_arePairs_14 : decode cL_arePairs 14 = .ok (.istore 5, 2) := by decide +kernel
theorem dL_arePairs_16 : decode cL_arePairs 16 = .ok (.aload_n 0, 1) := by decide +kernel
theorem dL_arePairs_17 : decode cL_arePairs 17 = .ok (.iload_n 1, 1) := by decide +kernel
theorem dL_arePairs_18 : decode cL_arePairs 18 = .ok (.iload_n 3, 1) := by decide +kernel
theorem dL_arePairs_19 : decode cL_arePairs 19 = .ok (.invokevirtual 29, 3) := by decide +kernel
theorem dL_arePairs_22 : decode cL_arePairs 22 = .ok (.istore 6, 2) := by decide +kernel
theorem dL_arePairs_24 : decode cL_arePairs 24 = .ok (.aload_n 0, 1) := by decide +kernel
theorem dL_arePairs_25 : decode cL_arePairs 25 = .ok (.iload_n 3, 1) := by decide +kernel
theorem dL_arePairs_26 : decode cL_arePairs 26 = .ok (.iload_n 2, 1) := by decide +kernel
theorem dL_arePairs_27 : decode cL_arePairs 27 = .ok (.invokevirtual 29, 3) := by decide +kernel
theorem dL_arePairs_30 : decode cL_arePairs 30 = .ok (.istore 7, 2) := by decide +kernel
theorem dL_arePairs_32 : decode cL_arePairs 32 = .ok (.aload_n 0, 1) := by decide +kernel
theorem dL_arePairs_33 : decode cL_arePairs 33 = .ok (.iload_n 1, 1) := by decide +kernel
theorem dL_arePairs_34 : decode cL_arePairs 34 = .ok (.iconst 1, 1) := by decide +kernel
theorem dL_arePairs_35 : decode cL_arePairs 35 = .ok (.invokevirtual 20, 3) := by decide +kernel
theorem dL_arePairs_38 : decode cL_arePairs 38 = .ok (.iconst 1, 1) := by decide +kernel
theorem dL_arePairs_39 : decode cL_arePairs 39 = .ok (.if_icmp .ne 17, 3) := by decide +kernel
theorem dL_arePairs_42 : decode cL_arePairs 42 = .ok (.aload_n 0, 1) := by decide +kernel
theorem dL_arePairs_43 : decode cL_arePairs 43 = .ok (.iload_n 2, 1) := by decide +kernel
theorem dL_arePairs_44 : decode cL_arePairs 44 = .ok (.iconst 1, 1) := by decide +kernel
theorem dL_arePairs_45 : decode cL_arePairs 45 = .ok (.invokevirtual 20, 3) := by decide +kernel
theorem dL_arePairs_48 : decode cL_arePairs 48 = .ok (.iconst 1, 1) := by decide +kernel
theorem dL_arePairs_49 : decode cL_arePairs 49 = .ok (.if_icmp .ne 7, 3) := by decide +kernel
theorem dL_arePairs_52 : decode cL_arePairs 52 = .ok (.iconst 1, 1) := by decide +kernel
theorem dL_arePairs_53 : decode cL_arePairs 53 = .ok (.goto 4, 3) := by decide +kernel
theorem dL_arePairs_56 : decode cL_arePairs 56 = .ok (.iconst 0, 1) := by decide +kernel
theorem dL_arePairs_57 : decode cL_arePairs 57 = .ok (.istore 8, 2) := by decide +kernel
theorem dL_arePairs_59 : decode cL_arePairs 59 = .ok (.iload 4, 2) := by decide +kernel
theorem dL_arePairs_61 : decode cL_arePairs 61 = .ok (.aload_n 0, 1) := by decide +kernel
theorem dL_arePairs_62 : decode cL_arePairs 62 = .ok (.iload_n 2, 1) := by decide +kernel
theorem dL_arePairs_63 : decode cL_arePairs 63 = .ok (.iload_n 1, 1) := by decide +kernel
theorem dL_arePairs_64 : decode cL_arePairs 64 = .ok (.invokevirtual 32, 3) := by decide +kernel
theorem dL_arePairs_67 : decode cL_arePairs 67 = .ok (.if_icmp .ne 128, 3) := by decide +kernel
theorem dL_arePairs_70 : decode cL_arePairs 70 = .ok (.iload 4, 2) := by decide +kernel
theorem dL_arePairs_72 : decode cL_arePairs 72 = .ok (.ifCond .lt 123, 3) := by decide +kernel
theorem dL_arePairs_75 : decode cL_arePairs 75 = .ok (.iload 4, 2) := by decide +kernel
theorem dL_arePairs_77 : decode cL_arePairs 77 = .ok (.bipush 6, 2) := by decide +kernel
theorem dL_arePairs_79 : decode cL_arePairs 79 = .ok (.if_icmp .gt 116, 3) := by decide +kernel
theorem dL_arePairs_82 : decode cL_arePairs 82 = .ok (.iload 4, 2) := by decide +kernel
theorem dL_arePairs_84 : decode cL_arePairs 84 = .ok (.aload_n 0, 1) := by decide +kernel
theorem dL_arePairs_85 : decode cL_arePairs 85 = .ok (.iload_n 1, 1) := by decide +kernel
theorem dL_arePairs_86 : decode cL_arePairs 86 = .ok (.iload_n 3, 1) := by decide +kernel
theorem dL_arePairs_87 : decode cL_arePairs 87 = .ok (.invokevirtual 32, 3) := by decide +kernel
theorem dL_arePairs_90 : decode cL_arePairs 90 = .ok (.aload_n 0, 1) := by decide +kernel
theorem dL_arePairs_91 : decode cL_arePairs 91 = .ok (.iload_n 3, 1) := by decide +kernel
theorem dL_arePairs_92 : decode cL_arePairs 92 = .ok (.iload_n 2, 1) := by decide +kernel
theorem dL_arePairs_93 : decode cL_arePairs 93 = .ok (.invokevirtual 32, 3) := by decide +kernel
theorem dL_arePairs_96 : decode cL_arePairs 96 = .ok (.iadd, 1) := by decide +kernel
theorem dL_arePairs_97 : decode cL_arePairs 97 = .ok (.if_icmp .gt 98, 3) := by decide +kernel
theorem dL_arePairs_100 : decode cL_arePairs 100 = .ok (.iload 5, 2) := by decide +kernel
theorem dL_arePairs_102 : decode cL_arePairs 102 = .ok (.aload_n 0, 1) := by decide +kernel
theorem dL_arePairs_103 : decode cL_arePairs 103 = .ok (.iload_n 2, 1) := by decide +kernel
theorem dL_arePairs_104 : decode cL_arePairs 104 = .ok (.iload_n 1, 1) := by decide +kernel
theorem dL_arePairs_105 : decode cL_arePairs 105 = .ok (.invokevirtual 29, 3) := by decide +kernel
theorem dL_arePairs_108 : decode cL_arePairs 108 = .ok (.if_icmp .ne 87, 3) := by decide +kernel
theorem dL_arePairs_111 : decode cL_arePairs 111 = .ok (.iload_n 1, 1) := by decide +kernel
theorem dL_arePairs_112 : decode cL_arePairs 112 = .ok (.iload_n 2, 1) := by decide +kernel
theorem dL_arePairs_113 : decode cL_arePairs 113 = .ok (.if_icmp .ne 7, 3) := by decide +kernel
theorem dL_arePairs_116 : decode cL_arePairs 116 = .ok (.iconst 1, 1) := by decide +kernel
theorem dL_arePairs_117 : decode cL_arePairs 117 = .ok (.goto 4, 3) := by decide +kernel
theorem dL_arePairs_120 : decode cL_arePairs 120 = .ok (.iconst 0, 1) := by decide +kernel
theorem dL_arePairs_121 : decode cL_arePairs 121 = .ok (.iload 5, 2) := by decide +kernel
theorem dL_arePairs_123 : decode cL_arePairs 123 = .ok (.ifCond .ne 7, 3) := by decide +kernel
theorem dL_arePairs_126 : decode cL_arePairs 126 = .ok (.iconst 1, 1) := by decide +kernel
theorem dL_arePairs_127 : decode cL_arePairs 127 = .ok (.goto 4, 3) := by decide +kernel
theorem dL_arePairs_130 : decode cL_arePairs 130 = .ok (.iconst 0, 1) := by decide +kernel
theorem dL_arePairs_131 : decode cL_arePairs 131 = .ok (.if_icmp .ne 64, 3) := by decide +kernel
theorem dL_arePairs_134 : decode cL_arePairs 134 = .ok (.iload 6, 2) := by decide +kernel
theorem dL_arePairs_136 : decode cL_arePairs 136 = .ok (.ifCond .lt 23, 3) := by decide +kernel
theorem dL_arePairs_139 : decode cL_arePairs 139 = .ok (.iload 7, 2) := by decide +kernel
theorem dL_arePairs_141 : decode cL_arePairs 141 = .ok (.ifCond .lt 18, 3) := by decide +kernel
theorem dL_arePairs_144 : decode cL_arePairs 144 = .ok (.iload 5, 2) := by decide +kernel
theorem dL_arePairs_146 : decode cL_arePairs 146 = .ok (.ifCond .lt 49, 3) := by decide +kernel
theorem dL_arePairs_149 : decode cL_arePairs 149 = .ok (.iload 5, 2) := by decide +kernel
theorem dL_arePairs_151 : decode cL_arePairs 151 = .ok (.iload 6, 2) := by decide +kernel
theorem dL_arePairs_153 : decode cL_arePairs 153 = .ok (.iload 7, 2) := by decide +kernel
theorem dL_arePairs_155 : decode cL_arePairs 155 = .ok (.iadd, 1) := by decide +kernel
theorem dL_arePairs_156 : decode cL_arePairs 156 = .ok (.if_icmp .gt 39, 3) := by decide +kernel
theorem dL_arePairs_159 : decode cL_arePairs 159 = .ok (.iload 6, 2) := by decide +kernel
theorem dL_arePairs_161 : decode cL_arePairs 161 = .ok (.ifCond .lt 15, 3) := by decide +kernel
theorem dL_arePairs_164 : decode cL_arePairs 164 = .ok (.iload 7, 2) := by decide +kernel
theorem dL_arePairs_166 : decode cL_arePairs 166 = .ok (.ifCond .ge 10, 3) := by decide +kernel
theorem dL_arePairs_169 : decode cL_arePairs 169 = .ok (.iload 5, 2) := by decide +kernel
theorem dL_arePairs_171 : decode cL_arePairs 171 = .ok (.bipush (-4), 2) := by decide +kernel
theorem dL_arePairs_173 : decode cL_arePairs 173 = .ok (.if_icmp .ne 22, 3) := by decide +kernel
theorem dL_arePairs_176 : decode cL_arePairs 176 = .ok (.iload 8, 2) := by decide +kernel
theorem dL_arePairs_178 : decode cL_arePairs 178 = .ok (.ifCond .eq 13, 3) := by decide +kernel
theorem dL_arePairs_181 : decode cL_arePairs 181 = .ok (.iload_n 1, 1) := by decide +kernel
theorem dL_arePairs_182 : decode cL_arePairs 182 = .ok (.iload_n 2, 1) := by decide +kernel
theorem dL_arePairs_183 : decode cL_arePairs 183 = .ok (.if_icmp .eq 8, 3) := by decide +kernel
theorem dL_arePairs_186 : decode cL_arePairs 186 = .ok (.iload 4, 2) := by decide +kernel
theorem dL_arePairs_188 : decode cL_arePairs 188 = .ok (.ifCond .le 7, 3) := by decide +kernel
theorem dL_arePairs_191 : decode cL_arePairs 191 = .ok (.iconst 1, 1) := by decide +kernel
theorem dL_arePairs_192 : decode cL_arePairs 192 = .ok (.goto 4, 3) := by decide +kernel
theorem dL_arePairs_195 : decode cL_arePairs 195 = .ok (.iconst 0, 1) := by decide +kernel
theorem dL_arePairs_196 : decode cL_arePairs 196 = .ok (.ireturn, 1) := by decide +kernel
theorem dL_isLine_0 : decode cL_isLine 0 = .ok (.aload_n 0, 1) := by decide +kernel
theorem dL_isLine_1 : decode cL_isLine 1 = .ok (.iload_n 1, 1) := by decide +kernel
theorem dL_isLine_2 : decode cL_isLine 2 = .ok (.iload_n 2, 1) := by decide +kernel
theorem dL_isLine_3 : decode cL_isLine 3 = .ok (.iconst 0, 1) := by decide +kernel
theorem dL_isLine_4 : decode cL_isLine 4 = .ok (.invokevirtual 44, 3) := by decide +kernel
theorem dL_isLine_7 : decode cL_isLine 7 = .ok (.istore_n 3, 1) := by decide +kernel
theorem dL_isLine_8 : decode cL_isLine 8 = .ok (.iconst 0, 1) := by decide +kernel
theorem dL_isLine_9 : decode cL_isLine 9 = .ok (.istore 4, 2) := by decide +kernel
theorem dL_isLine_11 : decode cL_isLine 11 = .ok (.iload_n 2, 1) := by decide +kernel
theorem dL_isLine_12 : decode cL_isLine 12 = .ok (.istore 5, 2) := by decide +kernel
theorem dL_isLine_14 : decode cL_isLine 14 = .ok (.iconst 0, 1) := by decide +kernel
theorem dL_isLine_15 : decode cL_isLine 15 = .ok (.istore 6, 2) := by decide +kernel
theorem dL_isLine_17 : decode cL_isLine 17 = .ok (.iload 6, 2) := by decide +kernel
theorem dL_isLine_19 : decode cL_isLine 19 = .ok (.bipush 6, 2) := by decide +kernel
theorem dL_isLine_21 : decode cL_isLine 21 = .ok (.if_icmp .ge 39, 3) := by decide +kernel
theorem dL_isLine_24 : decode cL_isLine 24 = .ok (.iload 4, 2) := by decide +kernel
theorem dL_isLine_26 : decode cL_isLine 26 = .ok (.iload 5, 2) := by decide +kernel
theorem dL_isLine_28 : decode cL_isLine 28 = .ok (.iconst 5, 1) := by decide +kernel
theorem dL_isLine_29 : decode cL_isLine 29 = .ok (.irem, 1) := by decide +kernel
theorem dL_isLine_30 : decode cL_isLine 30 = .ok (.aload_n 0, 1) := by decide +kernel
theorem dL_isLine_31 : decode cL_isLine 31 = .ok (.iload_n 1, 1) := by decide +kernel
theorem dL_isLine_32 : decode cL_isLine 32 = .ok (.iload 6, 2) := by decide +kernel
theorem dL_isLine_34 : decode cL_isLine 34 = .ok (.invokevirtual 48, 3) := by decide +kernel
theorem dL_isLine_37 : decode cL_isLine 37 = .ok (.if_icmp .ne 7, 3) := by decide +kernel
theorem dL_isLine_40 : decode cL_isLine 40 = .ok (.iconst 0, 1) := by decide +kernel
theorem dL_isLine_41 : decode cL_isLine 41 = .ok (.goto 4, 3) := by decide +kernel
theorem dL_isLine_44 : decode cL_isLine 44 = .ok (.iconst 1, 1) := by decide +kernel
theorem dL_isLine_45 : decode cL_isLine 45 = .ok (.iadd, 1) := by decide +kernel
theorem dL_isLine_46 : decode cL_isLine 46 = .ok (.istore 4, 2) := by decide +kernel
theorem dL_isLine_48 : decode cL_isLine 48 = .ok (.iload 5, 2) := by decide +kernel
theorem dL_isLine_50 : decode cL_isLine 50 = .ok (.iconst 5, 1) := by decide +kernel
theorem dL_isLine_51 : decode cL_isLine 51 = .ok (.idiv, 1) := by decide +kernel
theorem dL_isLine_52 : decode cL_isLine 52 = .ok (.istore 5, 2) := by decide +kernel
theorem dL_isLine_54 : decode cL_isLine 54 = .ok (.iinc 6 1, 3) := by decide +kernel
theorem dL_isLine_57 : decode cL_isLine 57 = .ok (.goto (-40), 3) := by decide +kernel
theorem dL_isLine_60 : decode cL_isLine 60 = .ok (.iload_n 3, 1) := by decide +kernel
theorem dL_isLine_61 : decode cL_isLine 61 = .ok (.aload_n 0, 1) := by decide +kernel
theorem dL_isLine_62 : decode cL_isLine 62 = .ok (.iload_n 1, 1) := by decide +kernel
theorem dL_isLine_63 : decode cL_isLine 63 = .ok (.iload_n 2, 1) := by decide +kernel
theorem dL_isLine_64 : decode cL_isLine 64 = .ok (.iconst 1, 1) := by decide +kernel
theorem dL_isLine_65 : decode cL_isLine 65 = .ok (.invokevirtual 44, 3) := by decide +kernel
theorem dL_isLine_68 : decode cL_isLine 68 = .ok (.if_icmp .ne 85, 3) := by decide +kernel
theorem dL_isLine_71 : decode cL_isLine 71 = .ok (.aload_n 0, 1) := by decide +kernel
theorem dL_isLine_72 : decode cL_isLine 72 = .ok (.iload_n 1, 1) := by decide +kernel
theorem dL_isLine_73 : decode cL_isLine 73 = .ok (.iconst 1, 1) := by decide +kernel
theorem dL_isLine_74 : decode cL_isLine 74 = .ok (.invokevirtual 20, 3) := by decide +kernel
theorem dL_isLine_77 : decode cL_isLine 77 = .ok (.ifCond .ne 12, 3) := by decide +kernel
theorem dL_isLine_80 : decode cL_isLine 80 = .ok (.iload_n 3, 1) := by decide +kernel
theorem dL_isLine_81 : decode cL_isLine 81 = .ok (.bipush (-2), 2) := by decide +kernel
theorem dL_isLine_83 : decode cL_isLine 83 = .ok (.if_icmp .ne 70, 3) := by decide +kernel
theorem dL_isLine_86 : decode cL_isLine 86 = .ok (.goto 63, 3) := by decide +kernel
theorem dL_isLine_89 : decode cL_isLine 89 = .ok (.aload_n 0, 1) := by decide +kernel
theorem dL_isLine_90 : decode cL_isLine 90 = .ok (.iload_n 2, 1) := by decide +kernel
theorem dL_isLine_91 : decode cL_isLine 91 = .ok (.invokevirtual 26, 3) := by decide +kernel
theorem dL_isLine_94 : decode cL_isLine 94 = .ok (.ifCond .lt 21, 3) := by decide +kernel
theorem dL_isLine_97 : decode cL_isLine 97 = .ok (.aload_n 0, 1) := by decide +kernel
theorem dL_isLine_98 : decode cL_isLine 98 = .ok (.iload_n 2, 1) := by decide +kernel
theorem dL_isLine_99 : decode cL_isLine 99 = .ok (.invokevirtual 26, 3) := by decide +kernel
theorem dL_isLine_102 : decode cL_isLine 102 = .ok (.iload_n 1, 1) := by decide +kernel
theorem dL_isLine_103 : decode cL_isLine 103 = .ok (.if_icmp .eq 12, 3) := by decide +kernel
theorem dL_isLine_106 : decode cL_isLine 106 = .ok (.iload_n 3, 1) := by decide +kernel
theorem dL_isLine_107 : decode cL_isLine 107 = .ok (.bipush (-4), 2) := by decide +kernel
theorem dL_isLine_109 : decode cL_isLine 109 = .ok (.if_icmp .ne 44, 3) := by decide +kernel
theorem dL_isLine_112 : decode cL_isLine 112 = .ok (.goto 37, 3) := by decide +kernel
theorem dL_isLine_115 : decode cL_isLine 115 = .ok (.iload_n 3, 1) := by decide +kernel
theorem dL_isLine_116 : decode cL_isLine 116 = .ok (.bipush (-4), 2) := by decide +kernel
theorem dL_isLine_118 : decode cL_isLine 118 = .ok (.if_icmp .eq 31, 3) := by decide +kernel
theorem dL_isLine_121 : decode cL_isLine 121 = .ok (.iload_n 3, 1) := by decide +kernel
theorem dL_isLine_122 : decode cL_isLine 122 = .ok (.iload 4, 2) := by decide +kernel
theorem dL_isLine_124 : decode cL_isLine 124 = .ok (.if_icmp .lt 29, 3) := by decide +kernel
theorem dL_isLine_127 : decode cL_isLine 127 = .ok (.iload_n 3, 1) := by decide +kernel
theorem dL_isLine_128 : decode cL_isLine 128 = .ok (.ifCond .le 7, 3) := by decide +kernel
theorem dL_isLine_131 : decode cL_isLine 131 = .ok (.iconst 1, 1) := by decide +kernel
theorem dL_isLine_132 : decode cL_isLine 132 = .ok (.goto 4, 3) := by decide +kernel
theorem dL_isLine_135 : decode cL_isLine 135 = .ok (.iconst 0, 1) := by decide +kernel
theorem dL_isLine_136 : decode cL_isLine 136 = .ok (.iload 4, 2) := by decide +kernel
theorem dL_isLine_138 : decode cL_isLine 138 = .ok (.ifCond .le 7, 3) := by decide +kernel
theorem dL_isLine_141 : decode cL_isLine 141 = .ok (.iconst 1, 1) := by decide +kernel
theorem dL_isLine_142 : decode cL_isLine 142 = .ok (.goto 4, 3) := by decide +kernel
theorem dL_isLine_145 : decode cL_isLine 145 = .ok (.iconst 0, 1) := by decide +kernel
theorem dL_isLine_146 : decode cL_isLine 146 = .ok (.if_icmp .ne 7, 3) := by decide +kernel
theorem dL_isLine_149 : decode cL_isLine 149 = .ok (.iconst 1, 1) := by decide +kernel
theorem dL_isLine_150 : decode cL_isLine 150 = .ok (.goto 4, 3) := by decide +kernel
theorem dL_isLine_153 : decode cL_isLine 153 = .ok (.iconst 0, 1) := by decide +kernel
theorem dL_isLine_154 : decode cL_isLine 154 = .ok (.ireturn, 1) := by decide +kernel
theorem dL_refusesAny_0 : decode cL_refusesAny 0 = .ok (.iload_n 1, 1) := by decide +kernel
theorem dL_refusesAny_1 : decode cL_refusesAny 1 = .ok (.iconst 2, 1) := by decide +kernel
theorem dL_refusesAny_2 : decode cL_refusesAny 2 = .ok (.irem, 1) := by decide +kernel
theorem dL_refusesAny_3 : decode cL_refusesAny 3 = .ok (.ifCond .ne 12, 3) := by decide +kernel
theorem dL_refusesAny_6 : decode cL_refusesAny 6 = .ok (.iconst (-1), 1) := by decide +kernel
theorem dL_refusesAny_7 : decode cL_refusesAny 7 = .ok (.iload_n 1, 1) := by decide +kernel
theorem dL_refusesAny_8 : decode cL_refusesAny 8 = .ok (.bipush 99, 2) := by decide +kernel
theorem dL_refusesAny_10 : decode cL_refusesAny 10 = .ok (.irem, 1) := by decide +kernel
theorem dL_refusesAny_11 : decode cL_refusesAny 11 = .ok (.isub, 1) := by decide +kernel
theorem dL_refusesAny_12 : decode cL_refusesAny 12 = .ok (.goto 13, 3) := by decide +kernel
theorem dL_refusesAny_15 : decode cL_refusesAny 15 = .ok (.aload_n 0, 1) := by decide +kernel
theorem dL_refusesAny_16 : decode cL_refusesAny 16 = .ok (.iconst 0, 1) := by decide +kernel
theorem dL_refusesAny_17 : decode cL_refusesAny 17 = .ok (.invokevirtual 14, 3) := by decide +kernel
theorem dL_refusesAny_20 : decode cL_refusesAny 20 = .ok (.iload_n 1, 1) := by decide +kernel
theorem dL_refusesAny_21 : decode cL_refusesAny 21 = .ok (.bipush 99, 2) := by decide +kernel
theorem dL_refusesAny_23 : decode cL_refusesAny 23 = .ok (.irem, 1) := by decide +kernel
theorem dL_refusesAny_24 : decode cL_refusesAny 24 = .ok (.iadd, 1) := by decide +kernel
theorem dL_refusesAny_25 : decode cL_refusesAny 25 = .ok (.istore_n 2, 1) := by decide +kernel
theorem dL_refusesAny_26 : decode cL_refusesAny 26 = .ok (.iload_n 1, 1) := by decide +kernel
theorem dL_refusesAny_27 : decode cL_refusesAny 27 = .ok (.iconst 2, 1) := by decide +kernel
theorem dL_refusesAny_28 : decode cL_refusesAny 28 = .ok (.irem, 1) := by decide +kernel
theorem dL_refusesAny_29 : decode cL_refusesAny 29 = .ok (.ifCond .ne 12, 3) := by decide +kernel
theorem dL_refusesAny_32 : decode cL_refusesAny 32 = .ok (.iconst (-1), 1) := by decide +kernel
theorem dL_refusesAny_33 : decode cL_refusesAny 33 = .ok (.iload_n 1, 1) := by decide +kernel
theorem dL_refusesAny_34 : decode cL_refusesAny 34 = .ok (.bipush 99, 2) := by decide +kernel
theorem dL_refusesAny_36 : decode cL_refusesAny 36 = .ok (.irem, 1) := by decide +kernel
theorem dL_refusesAny_37 : decode cL_refusesAny 37 = .ok (.isub, 1) := by decide +kernel
theorem dL_refusesAny_38 : decode cL_refusesAny 38 = .ok (.goto 11, 3) := by decide +kernel
theorem dL_refusesAny_41 : decode cL_refusesAny 41 = .ok (.sipush 15625, 3) := by decide +kernel
theorem dL_refusesAny_44 : decode cL_refusesAny 44 = .ok (.iload_n 1, 1) := by decide +kernel
theorem dL_refusesAny_45 : decode cL_refusesAny 45 = .ok (.bipush 99, 2) := by decide +kernel
theorem dL_refusesAny_47 : decode cL_refusesAny 47 = .ok (.irem, 1) := by decide +kernel
theorem dL_refusesAny_48 : decode cL_refusesAny 48 = .ok (.iadd, 1) := by decide +kernel
theorem dL_refusesAny_49 : decode cL_refusesAny 49 = .ok (.istore_n 3, 1) := by decide +kernel
theorem dL_refusesAny_50 : decode cL_refusesAny 50 = .ok (.iload_n 1, 1) := by decide +kernel
theorem dL_refusesAny_51 : decode cL_refusesAny 51 = .ok (.iconst 2, 1) := by decide +kernel
theorem dL_refusesAny_52 : decode cL_refusesAny 52 = .ok (.irem, 1) := by decide +kernel
theorem dL_refusesAny_53 : decode cL_refusesAny 53 = .ok (.ifCond .ne 12, 3) := by decide +kernel
theorem dL_refusesAny_56 : decode cL_refusesAny 56 = .ok (.iconst (-1), 1) := by decide +kernel
theorem dL_refusesAny_57 : decode cL_refusesAny 57 = .ok (.iload_n 1, 1) := by decide +kernel
theorem dL_refusesAny_58 : decode cL_refusesAny 58 = .ok (.bipush 99, 2) := by decide +kernel
theorem dL_refusesAny_60 : decode cL_refusesAny 60 = .ok (.irem, 1) := by decide +kernel
theorem dL_refusesAny_61 : decode cL_refusesAny 61 = .ok (.isub, 1) := by decide +kernel
theorem dL_refusesAny_62 : decode cL_refusesAny 62 = .ok (.goto 10, 3) := by decide +kernel
theorem dL_refusesAny_65 : decode cL_refusesAny 65 = .ok (.bipush 6, 2) := by decide +kernel
theorem dL_refusesAny_67 : decode cL_refusesAny 67 = .ok (.iload_n 1, 1) := by decide +kernel
theorem dL_refusesAny_68 : decode cL_refusesAny 68 = .ok (.bipush 99, 2) := by decide +kernel
theorem dL_refusesAny_70 : decode cL_refusesAny 70 = .ok (.irem, 1) := by decide +kernel
theorem dL_refusesAny_71 : decode cL_refusesAny 71 = .ok (.iadd, 1) := by decide +kernel
theorem dL_refusesAny_72 : decode cL_refusesAny 72 = .ok (.istore 4, 2) := by decide +kernel
theorem dL_refusesAny_74 : decode cL_refusesAny 74 = .ok (.iload_n 1, 1) := by decide +kernel
theorem dL_refusesAny_75 : decode cL_refusesAny 75 = .ok (.iconst 2, 1) := by decide +kernel
theorem dL_refusesAny_76 : decode cL_refusesAny 76 = .ok (.irem, 1) := by decide +kernel
theorem dL_refusesAny_77 : decode cL_refusesAny 77 = .ok (.ifCond .ne 12, 3) := by decide +kernel
theorem dL_refusesAny_80 : decode cL_refusesAny 80 = .ok (.iconst (-1), 1) := by decide +kernel
theorem dL_refusesAny_81 : decode cL_refusesAny 81 = .ok (.iload_n 1, 1) := by decide +kernel
theorem dL_refusesAny_82 : decode cL_refusesAny 82 = .ok (.bipush 99, 2) := by decide +kernel
theorem dL_refusesAny_84 : decode cL_refusesAny 84 = .ok (.irem, 1) := by decide +kernel
theorem dL_refusesAny_85 : decode cL_refusesAny 85 = .ok (.isub, 1) := by decide +kernel
theorem dL_refusesAny_86 : decode cL_refusesAny 86 = .ok (.goto 9, 3) := by decide +kernel
theorem dL_refusesAny_89 : decode cL_refusesAny 89 = .ok (.iconst 5, 1) := by decide +kernel
theorem dL_refusesAny_90 : decode cL_refusesAny 90 = .ok (.iload_n 1, 1) := by decide +kernel
theorem dL_refusesAny_91 : decode cL_refusesAny 91 = .ok (.bipush 99, 2) := by decide +kernel
theorem dL_refusesAny_93 : decode cL_refusesAny 93 = .ok (.irem, 1) := by decide +kernel
theorem dL_refusesAny_94 : decode cL_refusesAny 94 = .ok (.iadd, 1) := by decide +kernel
theorem dL_refusesAny_95 : decode cL_refusesAny 95 = .ok (.istore 5, 2) := by decide +kernel
theorem dL_refusesAny_97 : decode cL_refusesAny 97 = .ok (.aload_n 0, 1) := by decide +kernel
theorem dL_refusesAny_98 : decode cL_refusesAny 98 = .ok (.iconst 0, 1) := by decide +kernel
theorem dL_refusesAny_99 : decode cL_refusesAny 99 = .ok (.invokevirtual 14, 3) := by decide +kernel
theorem dL_refusesAny_102 : decode cL_refusesAny 102 = .ok (.ifCond .le 7, 3) := by decide +kernel
theorem dL_refusesAny_105 : decode cL_refusesAny 105 = .ok (.iconst 1, 1) := by decide +kernel
theorem dL_refusesAny_106 : decode cL_refusesAny 106 = .ok (.goto 4, 3) := by decide +kernel
theorem dL_refusesAny_109 : decode cL_refusesAny 109 = .ok (.iconst 0, 1) := by decide +kernel
theorem dL_refusesAny_110 : decode cL_refusesAny 110 = .ok (.istore 6, 2) := by decide +kernel
theorem dL_refusesAny_112 : decode cL_refusesAny 112 = .ok (.aload_n 0, 1) := by decide +kernel
theorem dL_refusesAny_113 : decode cL_refusesAny 113 = .ok (.iload_n 3, 1) := by decide +kernel
theorem dL_refusesAny_114 : decode cL_refusesAny 114 = .ok (.invokevirtual 51, 3) := by decide +kernel
theorem dL_refusesAny_117 : decode cL_refusesAny 117 = .ok (.iconst (-1), 1) := by decide +kernel
theorem dL_refusesAny_118 : decode cL_refusesAny 118 = .ok (.if_icmp .ne 122, 3) := by decide +kernel
theorem dL_refusesAny_121 : decode cL_refusesAny 121 = .ok (.aload_n 0, 1) := by decide +kernel
theorem dL_refusesAny_122 : decode cL_refusesAny 122 = .ok (.iload_n 2, 1) := by decide +kernel
theorem dL_refusesAny_123 : decode cL_refusesAny 123 = .ok (.iconst 0, 1) := by decide +kernel
theorem dL_refusesAny_124 : decode cL_refusesAny 124 = .ok (.iconst 0, 1) := by decide +kernel
theorem dL_refusesAny_125 : decode cL_refusesAny 125 = .ok (.invokevirtual 54, 3) := by decide +kernel
theorem dL_refusesAny_128 : decode cL_refusesAny 128 = .ok (.iconst (-1), 1) := by decide +kernel
theorem dL_refusesAny_129 : decode cL_refusesAny 129 = .ok (.if_icmp .ne 111, 3) := by decide +kernel
theorem dL_refusesAny_132 : decode cL_refusesAny 132 = .ok (.iload 6, 2) := by decide +kernel
theorem dL_refusesAny_134 : decode cL_refusesAny 134 = .ok (.ifCond .eq 27, 3) := by decide +kernel
theorem dL_refusesAny_137 : decode cL_refusesAny 137 = .ok (.aload_n 0, 1) := by decide +kernel
theorem dL_refusesAny_138 : decode cL_refusesAny 138 = .ok (.iconst 0, 1) := by decide +kernel
theorem dL_refusesAny_139 : decode cL_refusesAny 139 = .ok (.iload 4, 2) := by decide +kernel
theorem dL_refusesAny_141 : decode cL_refusesAny 141 = .ok (.iconst 0, 1) := by decide +kernel
theorem dL_refusesAny_142 : decode cL_refusesAny 142 = .ok (.invokevirtual 54, 3) := by decide +kernel
theorem dL_refusesAny_145 : decode cL_refusesAny 145 = .ok (.iconst (-1), 1) := by decide +kernel
theorem dL_refusesAny_146 : decode cL_refusesAny 146 = .ok (.if_icmp .ne 94, 3) := by decide +kernel
theorem dL_refusesAny_149 : decode cL_refusesAny 149 = .ok (.aload_n 0, 1) := by decide +kernel
theorem dL_refusesAny_150 : decode cL_refusesAny 150 = .ok (.iconst 0, 1) := by decide +kernel
theorem dL_refusesAny_151 : decode cL_refusesAny 151 = .ok (.iconst 0, 1) := by decide +kernel
theorem dL_refusesAny_152 : decode cL_refusesAny 152 = .ok (.iload 5, 2) := by decide +kernel
theorem dL_refusesAny_154 : decode cL_refusesAny 154 = .ok (.invokevirtual 54, 3) := by decide +kernel
theorem dL_refusesAny_157 : decode cL_refusesAny 157 = .ok (.iconst (-1), 1) := by decide +kernel
theorem dL_refusesAny_158 : decode cL_refusesAny 158 = .ok (.if_icmp .ne 82, 3) := by decide +kernel
theorem dL_refusesAny_161 : decode cL_refusesAny 161 = .ok (.aload_n 0, 1) := by decide +kernel
theorem dL_refusesAny_162 : decode cL_refusesAny 162 = .ok (.iconst 0, 1) := by decide +kernel
theorem dL_refusesAny_163 : decode cL_refusesAny 163 = .ok (.invokevirtual 14, 3) := by decide +kernel
theorem dL_refusesAny_166 : decode cL_refusesAny 166 = .ok (.bipush 20, 2) := by decide +kernel
theorem dL_refusesAny_168 : decode cL_refusesAny 168 = .ok (.if_icmp .lt 25, 3) := by decide +kernel
theorem dL_refusesAny_171 : decode cL_refusesAny 171 = .ok (.aload_n 0, 1) := by decide +kernel
theorem dL_refusesAny_172 : decode cL_refusesAny 172 = .ok (.iconst 5, 1) := by decide +kernel
theorem dL_refusesAny_173 : decode cL_refusesAny 173 = .ok (.invokevirtual 51, 3) := by decide +kernel
theorem dL_refusesAny_176 : decode cL_refusesAny 176 = .ok (.bipush (-3), 2) := by decide +kernel
theorem dL_refusesAny_178 : decode cL_refusesAny 178 = .ok (.if_icmp .ne 62, 3) := by decide +kernel
theorem dL_refusesAny_181 : decode cL_refusesAny 181 = .ok (.aload_n 0, 1) := by decide +kernel
theorem dL_refusesAny_182 : decode cL_refusesAny 182 = .ok (.iconst 0, 1) := by decide +kernel
theorem dL_refusesAny_183 : decode cL_refusesAny 183 = .ok (.iconst 0, 1) := by decide +kernel
theorem dL_refusesAny_184 : decode cL_refusesAny 184 = .ok (.iconst 0, 1) := by decide +kernel
theorem dL_refusesAny_185 : decode cL_refusesAny 185 = .ok (.invokevirtual 54, 3) := by decide +kernel
theorem dL_refusesAny_188 : decode cL_refusesAny 188 = .ok (.bipush (-3), 2) := by decide +kernel
theorem dL_refusesAny_190 : decode cL_refusesAny 190 = .ok (.if_icmp .ne 50, 3) := by decide +kernel
theorem dL_refusesAny_193 : decode cL_refusesAny 193 = .ok (.aload_n 0, 1) := by decide +kernel
theorem dL_refusesAny_194 : decode cL_refusesAny 194 = .ok (.iload_n 2, 1) := by decide +kernel
theorem dL_refusesAny_195 : decode cL_refusesAny 195 = .ok (.invokevirtual 57, 3) := by decide +kernel
theorem dL_refusesAny_198 : decode cL_refusesAny 198 = .ok (.iconst (-1), 1) := by decide +kernel
theorem dL_refusesAny_199 : decode cL_refusesAny 199 = .ok (.if_icmp .ne 41, 3) := by decide +kernel
theorem dL_refusesAny_202 : decode cL_refusesAny 202 = .ok (.aload_n 0, 1) := by decide +kernel
theorem dL_refusesAny_203 : decode cL_refusesAny 203 = .ok (.iload_n 2, 1) := by decide +kernel
theorem dL_refusesAny_204 : decode cL_refusesAny 204 = .ok (.invokevirtual 60, 3) := by decide +kernel
theorem dL_refusesAny_207 : decode cL_refusesAny 207 = .ok (.iconst (-1), 1) := by decide +kernel
theorem dL_refusesAny_208 : decode cL_refusesAny 208 = .ok (.if_icmp .ne 32, 3) := by decide +kernel
theorem dL_refusesAny_211 : decode cL_refusesAny 211 = .ok (.iload 6, 2) := by decide +kernel
theorem dL_refusesAny_213 : decode cL_refusesAny 213 = .ok (.ifCond .eq 23, 3) := by decide +kernel
theorem dL_refusesAny_216 : decode cL_refusesAny 216 = .ok (.aload_n 0, 1) := by decide +kernel
theorem dL_refusesAny_217 : decode cL_refusesAny 217 = .ok (.iconst 0, 1) := by decide +kernel
theorem dL_refusesAny_218 : decode cL_refusesAny 218 = .ok (.iconst 1, 1) := by decide +kernel
theorem dL_refusesAny_219 : decode cL_refusesAny 219 = .ok (.invokevirtual 20, 3) := by decide +kernel
theorem dL_refusesAny_222 : decode cL_refusesAny 222 = .ok (.iconst 1, 1) := by decide +kernel
theorem dL_refusesAny_223 : decode cL_refusesAny 223 = .ok (.if_icmp .eq 13, 3) := by decide +kernel
theorem dL_refusesAny_226 : decode cL_refusesAny 226 = .ok (.aload_n 0, 1) := by decide +kernel
theorem dL_refusesAny_227 : decode cL_refusesAny 227 = .ok (.iconst 0, 1) := by decide +kernel
theorem dL_refusesAny_228 : decode cL_refusesAny 228 = .ok (.invokevirtual 60, 3) := by decide +kernel
theorem dL_refusesAny_231 : decode cL_refusesAny 231 = .ok (.bipush (-2), 2) := by decide +kernel
theorem dL_refusesAny_233 : decode cL_refusesAny 233 = .ok (.if_icmp .ne 7, 3) := by decide +kernel
theorem dL_refusesAny_236 : decode cL_refusesAny 236 = .ok (.iconst 1, 1) := by decide +kernel
theorem dL_refusesAny_237 : decode cL_refusesAny 237 = .ok (.goto 4, 3) := by decide +kernel
theorem dL_refusesAny_240 : decode cL_refusesAny 240 = .ok (.iconst 0, 1) := by decide +kernel
theorem dL_refusesAny_241 : decode cL_refusesAny 241 = .ok (.istore 7, 2) := by decide +kernel
theorem dL_refusesAny_243 : decode cL_refusesAny 243 = .ok (.iload 7, 2) := by decide +kernel
theorem dL_refusesAny_245 : decode cL_refusesAny 245 = .ok (.ifCond .eq 355, 3) := by decide +kernel
theorem dL_refusesAny_248 : decode cL_refusesAny 248 = .ok (.aload_n 0, 1) := by decide +kernel
theorem dL_refusesAny_249 : decode cL_refusesAny 249 = .ok (.iload_n 2, 1) := by decide +kernel
theorem dL_refusesAny_250 : decode cL_refusesAny 250 = .ok (.iconst 0, 1) := by decide +kernel
theorem dL_refusesAny_251 : decode cL_refusesAny 251 = .ok (.invokevirtual 20, 3) := by decide +kernel
theorem dL_refusesAny_254 : decode cL_refusesAny 254 = .ok (.iconst (-1), 1) := by decide +kernel
theorem dL_refusesAny_255 : decode cL_refusesAny 255 = .ok (.if_icmp .ne 345, 3) := by decide +kernel
theorem dL_refusesAny_258 : decode cL_refusesAny 258 = .ok (.iload 6, 2) := by decide +kernel
theorem dL_refusesAny_260 : decode cL_refusesAny 260 = .ok (.ifCond .eq 184, 3) := by decide +kernel
theorem dL_refusesAny_263 : decode cL_refusesAny 263 = .ok (.aload_n 0, 1) := by decide +kernel
theorem dL_refusesAny_264 : decode cL_refusesAny 264 = .ok (.iconst 0, 1) := by decide +kernel
theorem dL_refusesAny_265 : decode cL_refusesAny 265 = .ok (.iload_n 1, 1) := by decide +kernel
theorem dL_refusesAny_266 : decode cL_refusesAny 266 = .ok (.iconst 2, 1) := by decide +kernel
theorem dL_refusesAny_267 : decode cL_refusesAny 267 = .ok (.irem, 1) := by decide +kernel
theorem dL_refusesAny_268 : decode cL_refusesAny 268 = .ok (.ifCond .ne 7, 3) := by decide +kernel
theorem dL_refusesAny_271 : decode cL_refusesAny 271 = .ok (.iconst (-1), 1) := by decide +kernel
theorem dL_refusesAny_272 : decode cL_refusesAny 272 = .ok (.goto 5, 3) := by decide +kernel
theorem dL_refusesAny_275 : decode cL_refusesAny 275 = .ok (.bipush 12, 2) := by decide +kernel
theorem dL_refusesAny_277 : decode cL_refusesAny 277 = .ok (.invokevirtual 20, 3) := by decide +kernel
theorem dL_refusesAny_280 : decode cL_refusesAny 280 = .ok (.iconst (-1), 1) := by decide +kernel
theorem dL_refusesAny_281 : decode cL_refusesAny 281 = .ok (.if_icmp .ne 319, 3) := by decide +kernel
theorem dL_refusesAny_284 : decode cL_refusesAny 284 = .ok (.aload_n 0, 1) := by decide +kernel
theorem dL_refusesAny_285 : decode cL_refusesAny 285 = .ok (.iconst 0, 1) := by decide +kernel
theorem dL_refusesAny_286 : decode cL_refusesAny 286 = .ok (.iload 4, 2) := by decide +kernel
theorem dL_refusesAny_288 : decode cL_refusesAny 288 = .ok (.invokevirtual 48, 3) := by decide +kernel
theorem dL_refusesAny_291 : decode cL_refusesAny 291 = .ok (.iconst (-1), 1) := by decide +kernel
theorem dL_refusesAny_292 : decode cL_refusesAny 292 = .ok (.if_icmp .ne 308, 3) := by decide +kernel
theorem dL_refusesAny_295 : decode cL_refusesAny 295 = .ok (.aload_n 0, 1) := by decide +kernel
theorem dL_refusesAny_296 : decode cL_refusesAny 296 = .ok (.iconst 0, 1) := by decide +kernel
theorem dL_refusesAny_297 : decode cL_refusesAny 297 = .ok (.iload 4, 2) := by decide +kernel
theorem dL_refusesAny_299 : decode cL_refusesAny 299 = .ok (.iconst 0, 1) := by decide +kernel
theorem dL_refusesAny_300 : decode cL_refusesAny 300 = .ok (.invokevirtual 63, 3) := by decide +kernel
theorem dL_refusesAny_303 : decode cL_refusesAny 303 = .ok (.iconst (-1), 1) := by decide +kernel
theorem dL_refusesAny_304 : decode cL_refusesAny 304 = .ok (.if_icmp .ne 296, 3) := by decide +kernel
theorem dL_refusesAny_307 : decode cL_refusesAny 307 = .ok (.aload_n 0, 1) := by decide +kernel
theorem dL_refusesAny_308 : decode cL_refusesAny 308 = .ok (.iconst 0, 1) := by decide +kernel
theorem dL_refusesAny_309 : decode cL_refusesAny 309 = .ok (.iconst 0, 1) := by decide +kernel
theorem dL_refusesAny_310 : decode cL_refusesAny 310 = .ok (.iload 5, 2) := by decide +kernel
theorem dL_refusesAny_312 : decode cL_refusesAny 312 = .ok (.invokevirtual 63, 3) := by decide +kernel
theorem dL_refusesAny_315 : decode cL_refusesAny 315 = .ok (.iconst (-1), 1) := by decide +kernel
theorem dL_refusesAny_316 : decode cL_refusesAny 316 = .ok (.if_icmp .ne 284, 3) := by decide +kernel
theorem dL_refusesAny_319 : decode cL_refusesAny 319 = .ok (.aload_n 0, 1) := by decide +kernel
theorem dL_refusesAny_320 : decode cL_refusesAny 320 = .ok (.iconst 0, 1) := by decide +kernel
theorem dL_refusesAny_321 : decode cL_refusesAny 321 = .ok (.iload_n 1, 1) := by decide +kernel
theorem dL_refusesAny_322 : decode cL_refusesAny 322 = .ok (.iconst 2, 1) := by decide +kernel
theorem dL_refusesAny_323 : decode cL_refusesAny 323 = .ok (.irem, 1) := by decide +kernel
theorem dL_refusesAny_324 : decode cL_refusesAny 324 = .ok (.ifCond .ne 7, 3) := by decide +kernel
theorem dL_refusesAny_327 : decode cL_refusesAny 327 = .ok (.iconst (-1), 1) := by decide +kernel
theorem dL_refusesAny_328 : decode cL_refusesAny 328 = .ok (.goto 4, 3) := by decide +kernel
theorem dL_refusesAny_331 : decode cL_refusesAny 331 = .ok (.iconst 2, 1) := by decide +kernel
theorem dL_refusesAny_332 : decode cL_refusesAny 332 = .ok (.invokevirtual 66, 3) := by decide +kernel
theorem dL_refusesAny_335 : decode cL_refusesAny 335 = .ok (.iconst (-1), 1) := by decide +kernel
theorem dL_refusesAny_336 : decode cL_refusesAny 336 = .ok (.if_icmp .ne 264, 3) := by decide +kernel
theorem dL_refusesAny_339 : decode cL_refusesAny 339 = .ok (.aload_n 0, 1) := by decide +kernel
theorem dL_refusesAny_340 : decode cL_refusesAny 340 = .ok (.iconst 0, 1) := by decide +kernel
theorem dL_refusesAny_341 : decode cL_refusesAny 341 = .ok (.iload_n 2, 1) := by decide +kernel
theorem dL_refusesAny_342 : decode cL_refusesAny 342 = .ok (.invokevirtual 32, 3) := by decide +kernel
theorem dL_refusesAny_345 : decode cL_refusesAny 345 = .ok (.iconst (-1), 1) := by decide +kernel
theorem dL_refusesAny_346 : decode cL_refusesAny 346 = .ok (.if_icmp .ne 254, 3) := by decide +kernel
theorem dL_refusesAny_349 : decode cL_refusesAny 349 = .ok (.aload_n 0, 1) := by decide +kernel
theorem dL_refusesAny_350 : decode cL_refusesAny 350 = .ok (.iload_n 2, 1) := by decide +kernel
theorem dL_refusesAny_351 : decode cL_refusesAny 351 = .ok (.iconst 0, 1) := by decide +kernel
theorem dL_refusesAny_352 : decode cL_refusesAny 352 = .ok (.invokevirtual 29, 3) := by decide +kernel
theorem dL_refusesAny_355 : decode cL_refusesAny 355 = .ok (.iconst (-1), 1) := by decide +kernel
theorem dL_refusesAny_356 : decode cL_refusesAny 356 = .ok (.if_icmp .ne 244, 3) := by decide +kernel
theorem dL_refusesAny_359 : decode cL_refusesAny 359 = .ok (.aload_n 0, 1) := by decide +kernel
theorem dL_refusesAny_360 : decode cL_refusesAny 360 = .ok (.iconst 0, 1) := by decide +kernel
theorem dL_refusesAny_361 : decode cL_refusesAny 361 = .ok (.iload_n 3, 1) := by decide +kernel
theorem dL_refusesAny_362 : decode cL_refusesAny 362 = .ok (.iconst 0, 1) := by decide +kernel
theorem dL_refusesAny_363 : decode cL_refusesAny 363 = .ok (.invokevirtual 44, 3) := by decide +kernel
theorem dL_refusesAny_366 : decode cL_refusesAny 366 = .ok (.iconst (-1), 1) := by decide +kernel
theorem dL_refusesAny_367 : decode cL_refusesAny 367 = .ok (.if_icmp .ne 233, 3) := by decide +kernel
theorem dL_refusesAny_370 : decode cL_refusesAny 370 = .ok (.aload_n 0, 1) := by decide +kernel
theorem dL_refusesAny_371 : decode cL_refusesAny 371 = .ok (.iconst 0, 1) := by decide +kernel
theorem dL_refusesAny_372 : decode cL_refusesAny 372 = .ok (.iconst 5, 1) := by decide +kernel
theorem dL_refusesAny_373 : decode cL_refusesAny 373 = .ok (.iload_n 1, 1) := by decide +kernel
theorem dL_refusesAny_374 : decode cL_refusesAny 374 = .ok (.iconst 2, 1) := by decide +kernel
theorem dL_refusesAny_375 : decode cL_refusesAny 375 = .ok (.irem, 1) := by decide +kernel
theorem dL_refusesAny_376 : decode cL_refusesAny 376 = .ok (.ifCond .ne 7, 3) := by decide +kernel
theorem dL_refusesAny_379 : decode cL_refusesAny 379 = .ok (.iconst (-1), 1) := by decide +kernel
theorem dL_refusesAny_380 : decode cL_refusesAny 380 = .ok (.goto 4, 3) := by decide +kernel
theorem dL_refusesAny_383 : decode cL_refusesAny 383 = .ok (.iconst 2, 1) := by decide +kernel
theorem dL_refusesAny_384 : decode cL_refusesAny 384 = .ok (.invokevirtual 44, 3) := by decide +kernel
theorem dL_refusesAny_387 : decode cL_refusesAny 387 = .ok (.iconst (-1), 1) := by decide +kernel
theorem dL_refusesAny_388 : decode cL_refusesAny 388 = .ok (.if_icmp .ne 212, 3) := by decide +kernel
theorem dL_refusesAny_391 : decode cL_refusesAny 391 = .ok (.aload_n 0, 1) := by decide +kernel
theorem dL_refusesAny_392 : decode cL_refusesAny 392 = .ok (.iconst 0, 1) := by decide +kernel
theorem dL_refusesAny_393 : decode cL_refusesAny 393 = .ok (.iload_n 1, 1) := by decide +kernel
theorem dL_refusesAny_394 : decode cL_refusesAny 394 = .ok (.iconst 2, 1) := by decide +kernel
theorem dL_refusesAny_395 : decode cL_refusesAny 395 = .ok (.irem, 1) := by decide +kernel
theorem dL_refusesAny_396 : decode cL_refusesAny 396 = .ok (.ifCond .ne 7, 3) := by decide +kernel
theorem dL_refusesAny_399 : decode cL_refusesAny 399 = .ok (.iconst (-1), 1) := by decide +kernel
theorem dL_refusesAny_400 : decode cL_refusesAny 400 = .ok (.goto 4, 3) := by decide +kernel
theorem dL_refusesAny_403 : decode cL_refusesAny 403 = .ok (.iconst 3, 1) := by decide +kernel
theorem dL_refusesAny_404 : decode cL_refusesAny 404 = .ok (.invokevirtual 69, 3) := by decide +kernel
theorem dL_refusesAny_407 : decode cL_refusesAny 407 = .ok (.iconst (-1), 1) := by decide +kernel
theorem dL_refusesAny_408 : decode cL_refusesAny 408 = .ok (.if_icmp .ne 192, 3) := by decide +kernel
theorem dL_refusesAny_411 : decode cL_refusesAny 411 = .ok (.aload_n 0, 1) := by decide +kernel
theorem dL_refusesAny_412 : decode cL_refusesAny 412 = .ok (.iconst 0, 1) := by decide +kernel
theorem dL_refusesAny_413 : decode cL_refusesAny 413 = .ok (.iconst 1, 1) := by decide +kernel
theorem dL_refusesAny_414 : decode cL_refusesAny 414 = .ok (.invokevirtual 20, 3) := by decide +kernel
theorem dL_refusesAny_417 : decode cL_refusesAny 417 = .ok (.iconst 1, 1) := by decide +kernel
theorem dL_refusesAny_418 : decode cL_refusesAny 418 = .ok (.if_icmp .eq 26, 3) := by decide +kernel
theorem dL_refusesAny_421 : decode cL_refusesAny 421 = .ok (.aload_n 0, 1) := by decide +kernel
theorem dL_refusesAny_422 : decode cL_refusesAny 422 = .ok (.iconst 0, 1) := by decide +kernel
theorem dL_refusesAny_423 : decode cL_refusesAny 423 = .ok (.iconst 0, 1) := by decide +kernel
theorem dL_refusesAny_424 : decode cL_refusesAny 424 = .ok (.invokevirtual 69, 3) := by decide +kernel
theorem dL_refusesAny_427 : decode cL_refusesAny 427 = .ok (.bipush (-2), 2) := by decide +kernel
theorem dL_refusesAny_429 : decode cL_refusesAny 429 = .ok (.if_icmp .ne 171, 3) := by decide +kernel
theorem dL_refusesAny_432 : decode cL_refusesAny 432 = .ok (.aload_n 0, 1) := by decide +kernel
theorem dL_refusesAny_433 : decode cL_refusesAny 433 = .ok (.iconst 0, 1) := by decide +kernel
theorem dL_refusesAny_434 : decode cL_refusesAny 434 = .ok (.iconst 5, 1) := by decide +kernel
theorem dL_refusesAny_435 : decode cL_refusesAny 435 = .ok (.iconst 0, 1) := by decide +kernel
theorem dL_refusesAny_436 : decode cL_refusesAny 436 = .ok (.invokevirtual 44, 3) := by decide +kernel
theorem dL_refusesAny_439 : decode cL_refusesAny 439 = .ok (.bipush (-2), 2) := by decide +kernel
theorem dL_refusesAny_441 : decode cL_refusesAny 441 = .ok (.if_icmp .ne 159, 3) := by decide +kernel
theorem dL_refusesAny_444 : decode cL_refusesAny 444 = .ok (.aload_n 0, 1) := by decide +kernel
theorem dL_refusesAny_445 : decode cL_refusesAny 445 = .ok (.iload_n 2, 1) := by decide +kernel
theorem dL_refusesAny_446 : decode cL_refusesAny 446 = .ok (.iconst 0, 1) := by decide +kernel
theorem dL_refusesAny_447 : decode cL_refusesAny 447 = .ok (.invokevirtual 48, 3) := by decide +kernel
theorem dL_refusesAny_450 : decode cL_refusesAny 450 = .ok (.iconst (-1), 1) := by decide +kernel
theorem dL_refusesAny_451 : decode cL_refusesAny 451 = .ok (.if_icmp .ne 149, 3) := by decide +kernel
theorem dL_refusesAny_454 : decode cL_refusesAny 454 = .ok (.aload_n 0, 1) := by decide +kernel
theorem dL_refusesAny_455 : decode cL_refusesAny 455 = .ok (.iload_n 2, 1) := by decide +kernel
theorem dL_refusesAny_456 : decode cL_refusesAny 456 = .ok (.iconst 0, 1) := by decide +kernel
theorem dL_refusesAny_457 : decode cL_refusesAny 457 = .ok (.iconst 0, 1) := by decide +kernel
theorem dL_refusesAny_458 : decode cL_refusesAny 458 = .ok (.invokevirtual 63, 3) := by decide +kernel
theorem dL_refusesAny_461 : decode cL_refusesAny 461 = .ok (.iconst (-1), 1) := by decide +kernel
theorem dL_refusesAny_462 : decode cL_refusesAny 462 = .ok (.if_icmp .ne 138, 3) := by decide +kernel
theorem dL_refusesAny_465 : decode cL_refusesAny 465 = .ok (.aload_n 0, 1) := by decide +kernel
theorem dL_refusesAny_466 : decode cL_refusesAny 466 = .ok (.iload_n 2, 1) := by decide +kernel
theorem dL_refusesAny_467 : decode cL_refusesAny 467 = .ok (.iconst 0, 1) := by decide +kernel
theorem dL_refusesAny_468 : decode cL_refusesAny 468 = .ok (.invokevirtual 66, 3) := by decide +kernel
theorem dL_refusesAny_471 : decode cL_refusesAny 471 = .ok (.iconst (-1), 1) := by decide +kernel
theorem dL_refusesAny_472 : decode cL_refusesAny 472 = .ok (.if_icmp .ne 128, 3) := by decide +kernel
theorem dL_refusesAny_475 : decode cL_refusesAny 475 = .ok (.aload_n 0, 1) := by decide +kernel
theorem dL_refusesAny_476 : decode cL_refusesAny 476 = .ok (.iload_n 2, 1) := by decide +kernel
theorem dL_refusesAny_477 : decode cL_refusesAny 477 = .ok (.invokevirtual 72, 3) := by decide +kernel
theorem dL_refusesAny_480 : decode cL_refusesAny 480 = .ok (.iconst (-1), 1) := by decide +kernel
theorem dL_refusesAny_481 : decode cL_refusesAny 481 = .ok (.if_icmp .ne 119, 3) := by decide +kernel
theorem dL_refusesAny_484 : decode cL_refusesAny 484 = .ok (.aload_n 0, 1) := by decide +kernel
theorem dL_refusesAny_485 : decode cL_refusesAny 485 = .ok (.iload_n 3, 1) := by decide +kernel
theorem dL_refusesAny_486 : decode cL_refusesAny 486 = .ok (.invokevirtual 26, 3) := by decide +kernel
theorem dL_refusesAny_489 : decode cL_refusesAny 489 = .ok (.iconst (-1), 1) := by decide +kernel
theorem dL_refusesAny_490 : decode cL_refusesAny 490 = .ok (.if_icmp .ne 110, 3) := by decide +kernel
theorem dL_refusesAny_493 : decode cL_refusesAny 493 = .ok (.aload_n 0, 1) := by decide +kernel
theorem dL_refusesAny_494 : decode cL_refusesAny 494 = .ok (.iload_n 2, 1) := by decide +kernel
theorem dL_refusesAny_495 : decode cL_refusesAny 495 = .ok (.iconst 5, 1) := by decide +kernel
theorem dL_refusesAny_496 : decode cL_refusesAny 496 = .ok (.iconst 0, 1) := by decide +kernel
theorem dL_refusesAny_497 : decode cL_refusesAny 497 = .ok (.invokevirtual 44, 3) := by decide +kernel
theorem dL_refusesAny_500 : decode cL_refusesAny 500 = .ok (.iconst (-1), 1) := by decide +kernel
theorem dL_refusesAny_501 : decode cL_refusesAny 501 = .ok (.if_icmp .ne 99, 3) := by decide +kernel
theorem dL_refusesAny_504 : decode cL_refusesAny 504 = .ok (.aload_n 0, 1) := by decide +kernel
theorem dL_refusesAny_505 : decode cL_refusesAny 505 = .ok (.iload_n 1, 1) := by decide +kernel
theorem dL_refusesAny_506 : decode cL_refusesAny 506 = .ok (.iconst 2, 1) := by decide +kernel
theorem dL_refusesAny_507 : decode cL_refusesAny 507 = .ok (.irem, 1) := by decide +kernel
theorem dL_refusesAny_508 : decode cL_refusesAny 508 = .ok (.ifCond .ne 7, 3) := by decide +kernel
theorem dL_refusesAny_511 : decode cL_refusesAny 511 = .ok (.iconst (-1), 1) := by decide +kernel
theorem dL_refusesAny_512 : decode cL_refusesAny 512 = .ok (.goto 5, 3) := by decide +kernel
theorem dL_refusesAny_515 : decode cL_refusesAny 515 = .ok (.bipush 12, 2) := by decide +kernel
theorem dL_refusesAny_517 : decode cL_refusesAny 517 = .ok (.invokevirtual 14, 3) := by decide +kernel
theorem dL_refusesAny_520 : decode cL_refusesAny 520 = .ok (.iconst (-1), 1) := by decide +kernel
theorem dL_refusesAny_521 : decode cL_refusesAny 521 = .ok (.if_icmp .ne 79, 3) := by decide +kernel
theorem dL_refusesAny_524 : decode cL_refusesAny 524 = .ok (.aload_n 0, 1) := by decide +kernel
theorem dL_refusesAny_525 : decode cL_refusesAny 525 = .ok (.iload 4, 2) := by decide +kernel
theorem dL_refusesAny_527 : decode cL_refusesAny 527 = .ok (.iconst 0, 1) := by decide +kernel
theorem dL_refusesAny_528 : decode cL_refusesAny 528 = .ok (.invokevirtual 35, 3) := by decide +kernel
theorem dL_refusesAny_531 : decode cL_refusesAny 531 = .ok (.iconst (-1), 1) := by decide +kernel
theorem dL_refusesAny_532 : decode cL_refusesAny 532 = .ok (.if_icmp .ne 68, 3) := by decide +kernel
theorem dL_refusesAny_535 : decode cL_refusesAny 535 = .ok (.aload_n 0, 1) := by decide +kernel
theorem dL_refusesAny_536 : decode cL_refusesAny 536 = .ok (.iconst 0, 1) := by decide +kernel
theorem dL_refusesAny_537 : decode cL_refusesAny 537 = .ok (.iload 5, 2) := by decide +kernel
theorem dL_refusesAny_539 : decode cL_refusesAny 539 = .ok (.invokevirtual 35, 3) := by decide +kernel
theorem dL_refusesAny_542 : decode cL_refusesAny 542 = .ok (.iconst (-1), 1) := by decide +kernel
theorem dL_refusesAny_543 : decode cL_refusesAny 543 = .ok (.if_icmp .ne 57, 3) := by decide +kernel
theorem dL_refusesAny_546 : decode cL_refusesAny 546 = .ok (.aload_n 0, 1) := by decide +kernel
theorem dL_refusesAny_547 : decode cL_refusesAny 547 = .ok (.iload_n 2, 1) := by decide +kernel
theorem dL_refusesAny_548 : decode cL_refusesAny 548 = .ok (.iconst 0, 1) := by decide +kernel
theorem dL_refusesAny_549 : decode cL_refusesAny 549 = .ok (.invokevirtual 69, 3) := by decide +kernel
theorem dL_refusesAny_552 : decode cL_refusesAny 552 = .ok (.iconst (-1), 1) := by decide +kernel
theorem dL_refusesAny_553 : decode cL_refusesAny 553 = .ok (.if_icmp .ne 47, 3) := by decide +kernel
theorem dL_refusesAny_556 : decode cL_refusesAny 556 = .ok (.aload_n 0, 1) := by decide +kernel
theorem dL_refusesAny_557 : decode cL_refusesAny 557 = .ok (.iload_n 1, 1) := by decide +kernel
theorem dL_refusesAny_558 : decode cL_refusesAny 558 = .ok (.iconst 2, 1) := by decide +kernel
theorem dL_refusesAny_559 : decode cL_refusesAny 559 = .ok (.irem, 1) := by decide +kernel
theorem dL_refusesAny_560 : decode cL_refusesAny 560 = .ok (.ifCond .ne 7, 3) := by decide +kernel
theorem dL_refusesAny_563 : decode cL_refusesAny 563 = .ok (.iconst (-1), 1) := by decide +kernel
theorem dL_refusesAny_564 : decode cL_refusesAny 564 = .ok (.goto 4, 3) := by decide +kernel
theorem dL_refusesAny_567 : decode cL_refusesAny 567 = .ok (.iconst 3, 1) := by decide +kernel
theorem dL_refusesAny_568 : decode cL_refusesAny 568 = .ok (.invokevirtual 75, 3) := by decide +kernel
theorem dL_refusesAny_571 : decode cL_refusesAny 571 = .ok (.iconst (-1), 1) := by decide +kernel
theorem dL_refusesAny_572 : decode cL_refusesAny 572 = .ok (.if_icmp .ne 28, 3) := by decide +kernel
theorem dL_refusesAny_575 : decode cL_refusesAny 575 = .ok (.aload_n 0, 1) := by decide +kernel
theorem dL_refusesAny_576 : decode cL_refusesAny 576 = .ok (.iload_n 1, 1) := by decide +kernel
theorem dL_refusesAny_577 : decode cL_refusesAny 577 = .ok (.iconst 2, 1) := by decide +kernel
theorem dL_refusesAny_578 : decode cL_refusesAny 578 = .ok (.irem, 1) := by decide +kernel
theorem dL_refusesAny_579 : decode cL_refusesAny 579 = .ok (.ifCond .ne 8, 3) := by decide +kernel
theorem dL_refusesAny_582 : decode cL_refusesAny 582 = .ok (.bipush 32, 2) := by decide +kernel
theorem dL_refusesAny_584 : decode cL_refusesAny 584 = .ok (.goto 5, 3) := by decide +kernel
theorem dL_refusesAny_587 : decode cL_refusesAny 587 = .ok (.bipush 127, 2) := by decide +kernel
theorem dL_refusesAny_589 : decode cL_refusesAny 589 = .ok (.invokevirtual 78, 3) := by decide +kernel
theorem dL_refusesAny_592 : decode cL_refusesAny 592 = .ok (.iconst (-1), 1) := by decide +kernel
theorem dL_refusesAny_593 : decode cL_refusesAny 593 = .ok (.if_icmp .ne 7, 3) := by decide +kernel
theorem dL_refusesAny_596 : decode cL_refusesAny 596 = .ok (.iconst 1, 1) := by decide +kernel
theorem dL_refusesAny_597 : decode cL_refusesAny 597 = .ok (.goto 4, 3) := by decide +kernel
theorem dL_refusesAny_600 : decode cL_refusesAny 600 = .ok (.iconst 0, 1) := by decide +kernel
theorem dL_refusesAny_601 : decode cL_refusesAny 601 = .ok (.istore 7, 2) := by decide +kernel
theorem dL_refusesAny_603 : decode cL_refusesAny 603 = .ok (.iload 7, 2) := by decide +kernel
theorem dL_refusesAny_605 : decode cL_refusesAny 605 = .ok (.ifCond .eq 30, 3) := by decide +kernel
theorem dL_refusesAny_608 : decode cL_refusesAny 608 = .ok (.aload_n 0, 1) := by decide +kernel
theorem dL_refusesAny_609 : decode cL_refusesAny 609 = .ok (.invokevirtual 81, 3) := by decide +kernel
theorem dL_refusesAny_612 : decode cL_refusesAny 612 = .ok (.ifCond .ne 23, 3) := by decide +kernel
theorem dL_refusesAny_615 : decode cL_refusesAny 615 = .ok (.aload_n 0, 1) := by decide +kernel
theorem dL_refusesAny_616 : decode cL_refusesAny 616 = .ok (.invokevirtual 85, 3) := by decide +kernel
theorem dL_refusesAny_619 : decode cL_refusesAny 619 = .ok (.bipush (-2), 2) := by decide +kernel
theorem dL_refusesAny_621 : decode cL_refusesAny 621 = .ok (.if_icmp .ne 14, 3) := by decide +kernel
theorem dL_refusesAny_624 : decode cL_refusesAny 624 = .ok (.aload_n 0, 1) := by decide +kernel
theorem dL_refusesAny_625 : decode cL_refusesAny 625 = .ok (.invokevirtual 88, 3) := by decide +kernel
theorem dL_refusesAny_628 : decode cL_refusesAny 628 = .ok (.ifCond .ne 7, 3) := by decide +kernel
theorem dL_refusesAny_631 : decode cL_refusesAny 631 = .ok (.iconst 1, 1) := by decide +kernel
theorem dL_refusesAny_632 : decode cL_refusesAny 632 = .ok (.goto 4, 3) := by decide +kernel
theorem dL_refusesAny_635 : decode cL_refusesAny 635 = .ok (.iconst 0, 1) := by decide +kernel
theorem dL_refusesAny_636 : decode cL_refusesAny 636 = .ok (.ireturn, 1) := by decide +kernel
theorem dL_refuses_0 : decode cL_refuses 0 = .ok (.aload_n 0, 1) := by decide +kernel
theorem dL_refuses_1 : decode cL_refuses 1 = .ok (.invokestatic 91, 3) := by decide +kernel
theorem dL_refuses_4 : decode cL_refuses 4 = .ok (.lstore_n 2, 1) := by decide +kernel
theorem dL_refuses_5 : decode cL_refuses 5 = .ok (.aload_n 0, 1) := by decide +kernel
theorem dL_refuses_6 : decode cL_refuses 6 = .ok (.bipush 11, 2) := by decide +kernel
theorem dL_refuses_8 : decode cL_refuses 8 = .ok (.invokevirtual 14, 3) := by decide +kernel
theorem dL_refuses_11 : decode cL_refuses 11 = .ok (.istore 4, 2) := by decide +kernel
theorem dL_refuses_13 : decode cL_refuses 13 = .ok (.aload_n 0, 1) := by decide +kernel
theorem dL_refuses_14 : decode cL_refuses 14 = .ok (.iload_n 1, 1) := by decide +kernel
theorem dL_refuses_15 : decode cL_refuses 15 = .ok (.invokestatic 95, 3) := by decide +kernel
theorem dL_refuses_18 : decode cL_refuses 18 = .ok (.ifCond .eq 27, 3) := by decide +kernel
theorem dL_refuses_21 : decode cL_refuses 21 = .ok (.aload_n 0, 1) := by decide +kernel
theorem dL_refuses_22 : decode cL_refuses 22 = .ok (.invokestatic 91, 3) := by decide +kernel
theorem dL_refuses_25 : decode cL_refuses 25 = .ok (.lload_n 2, 1) := by decide +kernel
theorem dL_refuses_26 : decode cL_refuses 26 = .ok (.lcmp, 1) := by decide +kernel
theorem dL_refuses_27 : decode cL_refuses 27 = .ok (.ifCond .ne 18, 3) := by decide +kernel
theorem dL_refuses_30 : decode cL_refuses 30 = .ok (.aload_n 0, 1) := by decide +kernel
theorem dL_refuses_31 : decode cL_refuses 31 = .ok (.bipush 11, 2) := by decide +kernel
theorem dL_refuses_33 : decode cL_refuses 33 = .ok (.invokevirtual 14, 3) := by decide +kernel
theorem dL_refuses_36 : decode cL_refuses 36 = .ok (.iload 4, 2) := by decide +kernel
theorem dL_refuses_38 : decode cL_refuses 38 = .ok (.if_icmp .ne 7, 3) := by decide +kernel
theorem dL_refuses_41 : decode cL_refuses 41 = .ok (.iconst 1, 1) := by decide +kernel
theorem dL_refuses_42 : decode cL_refuses 42 = .ok (.goto 4, 3) := by decide +kernel
theorem dL_refuses_45 : decode cL_refuses 45 = .ok (.iconst 0, 1) := by decide +kernel
theorem dL_refuses_46 : decode cL_refuses 46 = .ok (.ireturn, 1) := by decide +kernel
theorem dL_act_0 : decode cL_act 0 = .ok (.iload_n 1, 1) := by decide +kernel
theorem dL_act_1 : decode cL_act 1 = .ok (.bipush 12, 2) := by decide +kernel
theorem dL_act_3 : decode cL_act 3 = .ok (.irem, 1) := by decide +kernel
theorem dL_act_4 : decode cL_act 4 = .ok (.istore_n 2, 1) := by decide +kernel
theorem dL_act_5 : decode cL_act 5 = .ok (.iload_n 1, 1) := by decide +kernel
theorem dL_act_6 : decode cL_act 6 = .ok (.bipush 12, 2) := by decide +kernel
theorem dL_act_8 : decode cL_act 8 = .ok (.idiv, 1) := by decide +kernel
theorem dL_act_9 : decode cL_act 9 = .ok (.istore_n 3, 1) := by decide +kernel
theorem dL_act_10 : decode cL_act 10 = .ok (.aload_n 0, 1) := by decide +kernel
theorem dL_act_11 : decode cL_act 11 = .ok (.iconst 0, 1) := by decide +kernel
theorem dL_act_12 : decode cL_act 12 = .ok (.invokevirtual 14, 3) := by decide +kernel
theorem dL_act_15 : decode cL_act 15 = .ok (.istore 4, 2) := by decide +kernel
theorem dL_act_17 : decode cL_act 17 = .ok (.aload_n 0, 1) := by decide +kernel
theorem dL_act_18 : decode cL_act 18 = .ok (.iconst 1, 1) := by decide +kernel
theorem dL_act_19 : decode cL_act 19 = .ok (.invokevirtual 14, 3) := by decide +kernel
theorem dL_act_22 : decode cL_act 22 = .ok (.istore 5, 2) := by decide +kernel
theorem dL_act_24 : decode cL_act 24 = .ok (.iload_n 2, 1) := by decide +kernel
theorem dL_act_25 : decode cL_act 25 = .ok (.ifCond .eq 8, 3) := by decide +kernel
theorem dL_act_28 : decode cL_act 28 = .ok (.iload 4, 2) := by decide +kernel
theorem dL_act_30 : decode cL_act 30 = .ok (.ifCond .ne 135, 3) := by decide +kernel
theorem dL_act_33 : decode cL_act 33 = .ok (.iload 4, 2) := by decide +kernel
theorem dL_act_35 : decode cL_act 35 = .ok (.ifCond .eq 9, 3) := by decide +kernel
theorem dL_act_38 : decode cL_act 38 = .ok (.iload_n 3, 1) := by decide +kernel
theorem dL_act_39 : decode cL_act 39 = .ok (.iconst 2, 1) := by decide +kernel
theorem dL_act_40 : decode cL_act 40 = .ok (.irem, 1) := by decide +kernel
theorem dL_act_41 : decode cL_act 41 = .ok (.ifCond .ne 13, 3) := by decide +kernel
theorem dL_act_44 : decode cL_act 44 = .ok (.iload_n 3, 1) := by decide +kernel
theorem dL_act_45 : decode cL_act 45 = .ok (.iconst 2, 1) := by decide +kernel
theorem dL_act_46 : decode cL_act 46 = .ok (.idiv, 1) := by decide +kernel
theorem dL_act_47 : decode cL_act 47 = .ok (.sipush 15625, 3) := by decide +kernel
theorem dL_act_50 : decode cL_act 50 = .ok (.irem, 1) := by decide +kernel
theorem dL_act_51 : decode cL_act 51 = .ok (.goto 14, 3) := by decide +kernel
theorem dL_act_54 : decode cL_act 54 = .ok (.aload_n 0, 1) := by decide +kernel
theorem dL_act_55 : decode cL_act 55 = .ok (.iload_n 3, 1) := by decide +kernel
theorem dL_act_56 : decode cL_act 56 = .ok (.iconst 2, 1) := by decide +kernel
theorem dL_act_57 : decode cL_act 57 = .ok (.idiv, 1) := by decide +kernel
theorem dL_act_58 : decode cL_act 58 = .ok (.iload 4, 2) := by decide +kernel
theorem dL_act_60 : decode cL_act 60 = .ok (.irem, 1) := by decide +kernel
theorem dL_act_61 : decode cL_act 61 = .ok (.iconst 0, 1) := by decide +kernel
theorem dL_act_62 : decode cL_act 62 = .ok (.invokevirtual 20, 3) := by decide +kernel
theorem dL_act_65 : decode cL_act 65 = .ok (.istore 6, 2) := by decide +kernel
theorem dL_act_67 : decode cL_act 67 = .ok (.aload_n 0, 1) := by decide +kernel
theorem dL_act_68 : decode cL_act 68 = .ok (.iload 6, 2) := by decide +kernel
theorem dL_act_70 : decode cL_act 70 = .ok (.invokevirtual 26, 3) := by decide +kernel
theorem dL_act_73 : decode cL_act 73 = .ok (.istore 7, 2) := by decide +kernel
theorem dL_act_75 : decode cL_act 75 = .ok (.aload_n 0, 1) := by decide +kernel
theorem dL_act_76 : decode cL_act 76 = .ok (.iload 6, 2) := by decide +kernel
theorem dL_act_78 : decode cL_act 78 = .ok (.invokevirtual 51, 3) := by decide +kernel
theorem dL_act_81 : decode cL_act 81 = .ok (.istore 8, 2) := by decide +kernel
theorem dL_act_83 : decode cL_act 83 = .ok (.iload 8, 2) := by decide +kernel
theorem dL_act_85 : decode cL_act 85 = .ok (.iload 4, 2) := by decide +kernel
theorem dL_act_87 : decode cL_act 87 = .ok (.bipush 20, 2) := by decide +kernel
theorem dL_act_89 : decode cL_act 89 = .ok (.if_icmp .ne 8, 3) := by decide +kernel
theorem dL_act_92 : decode cL_act 92 = .ok (.bipush (-3), 2) := by decide +kernel
theorem dL_act_94 : decode cL_act 94 = .ok (.goto 17, 3) := by decide +kernel
theorem dL_act_97 : decode cL_act 97 = .ok (.iload 7, 2) := by decide +kernel
theorem dL_act_99 : decode cL_act 99 = .ok (.ifCond .lt 7, 3) := by decide +kernel
theorem dL_act_102 : decode cL_act 102 = .ok (.iconst 3, 1) := by decide +kernel
theorem dL_act_103 : decode cL_act 103 = .ok (.goto 8, 3) := by decide +kernel
theorem dL_act_106 : decode cL_act 106 = .ok (.bipush 10, 2) := by decide +kernel
theorem dL_act_108 : decode cL_act 108 = .ok (.iload 4, 2) := by decide +kernel
theorem dL_act_110 : decode cL_act 110 = .ok (.iadd, 1) := by decide +kernel
theorem dL_act_111 : decode cL_act 111 = .ok (.if_icmp .ne 51, 3) := by decide +kernel
theorem dL_act_114 : decode cL_act 114 = .ok (.iload 8, 2) := by decide +kernel
theorem dL_act_116 : decode cL_act 116 = .ok (.bipush 10, 2) := by decide +kernel
theorem dL_act_118 : decode cL_act 118 = .ok (.if_icmp .lt 39, 3) := by decide +kernel
theorem dL_act_121 : decode cL_act 121 = .ok (.aload_n 0, 1) := by decide +kernel
theorem dL_act_122 : decode cL_act 122 = .ok (.iload 4, 2) := by decide +kernel
theorem dL_act_124 : decode cL_act 124 = .ok (.iconst 0, 1) := by decide +kernel
theorem dL_act_125 : decode cL_act 125 = .ok (.invokevirtual 20, 3) := by decide +kernel
theorem dL_act_128 : decode cL_act 128 = .ok (.iload 6, 2) := by decide +kernel
theorem dL_act_130 : decode cL_act 130 = .ok (.if_icmp .ne 32, 3) := by decide +kernel
theorem dL_act_133 : decode cL_act 133 = .ok (.aload_n 0, 1) := by decide +kernel
theorem dL_act_134 : decode cL_act 134 = .ok (.iload 4, 2) := by decide +kernel
theorem dL_act_136 : decode cL_act 136 = .ok (.iconst 2, 1) := by decide +kernel
theorem dL_act_137 : decode cL_act 137 = .ok (.invokevirtual 20, 3) := by decide +kernel
theorem dL_act_140 : decode cL_act 140 = .ok (.bipush (-4), 2) := by decide +kernel
theorem dL_act_142 : decode cL_act 142 = .ok (.if_icmp .ne 20, 3) := by decide +kernel
theorem dL_act_145 : decode cL_act 145 = .ok (.aload_n 0, 1) := by decide +kernel
theorem dL_act_146 : decode cL_act 146 = .ok (.iconst 1, 1) := by decide +kernel
theorem dL_act_147 : decode cL_act 147 = .ok (.invokevirtual 14, 3) := by decide +kernel
theorem dL_act_150 : decode cL_act 150 = .ok (.iload 5, 2) := by decide +kernel
theorem dL_act_152 : decode cL_act 152 = .ok (.iconst 1, 1) := by decide +kernel
theorem dL_act_153 : decode cL_act 153 = .ok (.iadd, 1) := by decide +kernel
theorem dL_act_154 : decode cL_act 154 = .ok (.if_icmp .ne 8, 3) := by decide +kernel
theorem dL_act_157 : decode cL_act 157 = .ok (.iload 8, 2) := by decide +kernel
theorem dL_act_159 : decode cL_act 159 = .ok (.goto 5, 3) := by decide +kernel
theorem dL_act_162 : decode cL_act 162 = .ok (.bipush (-9), 2) := by decide +kernel
theorem dL_act_164 : decode cL_act 164 = .ok (.ireturn, 1) := by decide +kernel
theorem dL_act_165 : decode cL_act 165 = .ok (.iload_n 2, 1) := by decide +kernel
theorem dL_act_166 : decode cL_act 166 = .ok (.bipush 8, 2) := by decide +kernel
theorem dL_act_168 : decode cL_act 168 = .ok (.if_icmp .ge 212, 3) := by decide +kernel
theorem dL_act_171 : decode cL_act 171 = .ok (.iload_n 3, 1) := by decide +kernel
theorem dL_act_172 : decode cL_act 172 = .ok (.iconst 3, 1) := by decide +kernel
theorem dL_act_173 : decode cL_act 173 = .ok (.irem, 1) := by decide +kernel
theorem dL_act_174 : decode cL_act 174 = .ok (.ifCond .ne 12, 3) := by decide +kernel
theorem dL_act_177 : decode cL_act 177 = .ok (.iload_n 3, 1) := by decide +kernel
theorem dL_act_178 : decode cL_act 178 = .ok (.iconst 3, 1) := by decide +kernel
theorem dL_act_179 : decode cL_act 179 = .ok (.idiv, 1) := by decide +kernel
theorem dL_act_180 : decode cL_act 180 = .ok (.iload 4, 2) := by decide +kernel
theorem dL_act_182 : decode cL_act 182 = .ok (.irem, 1) := by decide +kernel
theorem dL_act_183 : decode cL_act 183 = .ok (.goto 19, 3) := by decide +kernel
theorem dL_act_186 : decode cL_act 186 = .ok (.iload_n 3, 1) := by decide +kernel
theorem dL_act_187 : decode cL_act 187 = .ok (.iconst 3, 1) := by decide +kernel
theorem dL_act_188 : decode cL_act 188 = .ok (.idiv, 1) := by decide +kernel
theorem dL_act_189 : decode cL_act 189 = .ok (.iload 4, 2) := by decide +kernel
theorem dL_act_191 : decode cL_act 191 = .ok (.iconst 4, 1) := by decide +kernel
theorem dL_act_192 : decode cL_act 192 = .ok (.if_icmp .ge 8, 3) := by decide +kernel
theorem dL_act_195 : decode cL_act 195 = .ok (.iload 4, 2) := by decide +kernel
theorem dL_act_197 : decode cL_act 197 = .ok (.goto 4, 3) := by decide +kernel
theorem dL_act_200 : decode cL_act 200 = .ok (.iconst 4, 1) := by decide +kernel
theorem dL_act_201 : decode cL_act 201 = .ok (.irem, 1) := by decide +kernel
theorem dL_act_202 : decode cL_act 202 = .ok (.istore 6, 2) := by decide +kernel
theorem dL_act_204 : decode cL_act 204 = .ok (.iload_n 3, 1) := by decide +kernel
theorem dL_act_205 : decode cL_act 205 = .ok (.bipush 60, 2) := by decide +kernel
theorem dL_act_207 : decode cL_act 207 = .ok (.idiv, 1) := by decide +kernel
theorem dL_act_208 : decode cL_act 208 = .ok (.bipush 6, 2) := by decide +kernel
theorem dL_act_210 : decode cL_act 210 = .ok (.irem, 1) := by decide +kernel
theorem dL_act_211 : decode cL_act 211 = .ok (.istore 7, 2) := by decide +kernel
theorem dL_act_213 : decode cL_act 213 = .ok (.iload_n 3, 1) := by decide +kernel
theorem dL_act_214 : decode cL_act 214 = .ok (.sipush 360, 3) := by decide +kernel
theorem dL_act_217 : decode cL_act 217 = .ok (.idiv, 1) := by decide +kernel
theorem dL_act_218 : decode cL_act 218 = .ok (.iconst 5, 1) := by decide +kernel
theorem dL_act_219 : decode cL_act 219 = .ok (.irem, 1) := by decide +kernel
theorem dL_act_220 : decode cL_act 220 = .ok (.istore 8, 2) := by decide +kernel
theorem dL_act_222 : decode cL_act 222 = .ok (.aload_n 0, 1) := by decide +kernel
theorem dL_act_223 : decode cL_act 223 = .ok (.iload 6, 2) := by decide +kernel
theorem dL_act_225 : decode cL_act 225 = .ok (.iload 7, 2) := by decide +kernel
theorem dL_act_227 : decode cL_act 227 = .ok (.iload 8, 2) := by decide +kernel
theorem dL_act_229 : decode cL_act 229 = .ok (.invokevirtual 63, 3) := by decide +kernel
theorem dL_act_232 : decode cL_act 232 = .ok (.istore 9, 2) := by decide +kernel
theorem dL_act_234 : decode cL_act 234 = .ok (.aload_n 0, 1) := by decide +kernel
theorem dL_act_235 : decode cL_act 235 = .ok (.iload 6, 2) := by decide +kernel
theorem dL_act_237 : decode cL_act 237 = .ok (.iconst 1, 1) := by decide +kernel
theorem dL_act_238 : decode cL_act 238 = .ok (.invokevirtual 66, 3) := by decide +kernel
theorem dL_act_241 : decode cL_act 241 = .ok (.istore 10, 2) := by decide +kernel
theorem dL_act_243 : decode cL_act 243 = .ok (.aload_n 0, 1) := by decide +kernel
theorem dL_act_244 : decode cL_act 244 = .ok (.iload 6, 2) := by decide +kernel
theorem dL_act_246 : decode cL_act 246 = .ok (.iload 7, 2) := by decide +kernel
theorem dL_act_248 : decode cL_act 248 = .ok (.iload 8, 2) := by decide +kernel
theorem dL_act_250 : decode cL_act 250 = .ok (.invokevirtual 54, 3) := by decide +kernel
theorem dL_act_253 : decode cL_act 253 = .ok (.istore 11, 2) := by decide +kernel
theorem dL_act_255 : decode cL_act 255 = .ok (.iload 11, 2) := by decide +kernel
theorem dL_act_257 : decode cL_act 257 = .ok (.iload 4, 2) := by decide +kernel
theorem dL_act_259 : decode cL_act 259 = .ok (.bipush 20, 2) := by decide +kernel
theorem dL_act_261 : decode cL_act 261 = .ok (.if_icmp .ne 8, 3) := by decide +kernel
theorem dL_act_264 : decode cL_act 264 = .ok (.bipush (-3), 2) := by decide +kernel
theorem dL_act_266 : decode cL_act 266 = .ok (.goto 18, 3) := by decide +kernel
theorem dL_act_269 : decode cL_act 269 = .ok (.iload 9, 2) := by decide +kernel
theorem dL_act_271 : decode cL_act 271 = .ok (.ifCond .le 8, 3) := by decide +kernel
theorem dL_act_274 : decode cL_act 274 = .ok (.iload 9, 2) := by decide +kernel
theorem dL_act_276 : decode cL_act 276 = .ok (.goto 8, 3) := by decide +kernel
theorem dL_act_279 : decode cL_act 279 = .ok (.bipush 10, 2) := by decide +kernel
theorem dL_act_281 : decode cL_act 281 = .ok (.iload 4, 2) := by decide +kernel
theorem dL_act_283 : decode cL_act 283 = .ok (.iadd, 1) := by decide +kernel
theorem dL_act_284 : decode cL_act 284 = .ok (.if_icmp .ne 93, 3) := by decide +kernel
theorem dL_act_287 : decode cL_act 287 = .ok (.iload 11, 2) := by decide +kernel
theorem dL_act_289 : decode cL_act 289 = .ok (.bipush 10, 2) := by decide +kernel
theorem dL_act_291 : decode cL_act 291 = .ok (.if_icmp .lt 81, 3) := by decide +kernel
theorem dL_act_294 : decode cL_act 294 = .ok (.iload 10, 2) := by decide +kernel
theorem dL_act_296 : decode cL_act 296 = .ok (.ifCond .le 81, 3) := by decide +kernel
theorem dL_act_299 : decode cL_act 299 = .ok (.aload_n 0, 1) := by decide +kernel
theorem dL_act_300 : decode cL_act 300 = .ok (.iload 4, 2) := by decide +kernel
theorem dL_act_302 : decode cL_act 302 = .ok (.iload 7, 2) := by decide +kernel
theorem dL_act_304 : decode cL_act 304 = .ok (.invokevirtual 48, 3) := by decide +kernel
theorem dL_act_307 : decode cL_act 307 = .ok (.iload 8, 2) := by decide +kernel
theorem dL_act_309 : decode cL_act 309 = .ok (.if_icmp .ne 68, 3) := by decide +kernel
theorem dL_act_312 : decode cL_act 312 = .ok (.aload_n 0, 1) := by decide +kernel
theorem dL_act_313 : decode cL_act 313 = .ok (.iload 4, 2) := by decide +kernel
theorem dL_act_315 : decode cL_act 315 = .ok (.iconst 2, 1) := by decide +kernel
theorem dL_act_316 : decode cL_act 316 = .ok (.invokevirtual 20, 3) := by decide +kernel
theorem dL_act_319 : decode cL_act 319 = .ok (.iload 6, 2) := by decide +kernel
theorem dL_act_321 : decode cL_act 321 = .ok (.if_icmp .ne 56, 3) := by decide +kernel
theorem dL_act_324 : decode cL_act 324 = .ok (.aload_n 0, 1) := by decide +kernel
theorem dL_act_325 : decode cL_act 325 = .ok (.iload 4, 2) := by decide +kernel
theorem dL_act_327 : decode cL_act 327 = .ok (.iconst 3, 1) := by decide +kernel
theorem dL_act_328 : decode cL_act 328 = .ok (.invokevirtual 20, 3) := by decide +kernel
theorem dL_act_331 : decode cL_act 331 = .ok (.iload 7, 2) := by decide +kernel
theorem dL_act_333 : decode cL_act 333 = .ok (.if_icmp .ne 44, 3) := by decide +kernel
theorem dL_act_336 : decode cL_act 336 = .ok (.aload_n 0, 1) := by decide +kernel
theorem dL_act_337 : decode cL_act 337 = .ok (.iload 4, 2) := by decide +kernel
theorem dL_act_339 : decode cL_act 339 = .ok (.iconst 4, 1) := by decide +kernel
theorem dL_act_340 : decode cL_act 340 = .ok (.invokevirtual 20, 3) := by decide +kernel
theorem dL_act_343 : decode cL_act 343 = .ok (.iload 8, 2) := by decide +kernel
theorem dL_act_345 : decode cL_act 345 = .ok (.if_icmp .ne 32, 3) := by decide +kernel
theorem dL_act_348 : decode cL_act 348 = .ok (.aload_n 0, 1) := by decide +kernel
theorem dL_act_349 : decode cL_act 349 = .ok (.iload 4, 2) := by decide +kernel
theorem dL_act_351 : decode cL_act 351 = .ok (.iload 6, 2) := by decide +kernel
theorem dL_act_353 : decode cL_act 353 = .ok (.invokevirtual 32, 3) := by decide +kernel
theorem dL_act_356 : decode cL_act 356 = .ok (.iconst 1, 1) := by decide +kernel
theorem dL_act_357 : decode cL_act 357 = .ok (.if_icmp .ne 20, 3) := by decide +kernel
theorem dL_act_360 : decode cL_act 360 = .ok (.aload_n 0, 1) := by decide +kernel
theorem dL_act_361 : decode cL_act 361 = .ok (.iconst 1, 1) := by decide +kernel
theorem dL_act_362 : decode cL_act 362 = .ok (.invokevirtual 14, 3) := by decide +kernel
theorem dL_act_365 : decode cL_act 365 = .ok (.iload 5, 2) := by decide +kernel
theorem dL_act_367 : decode cL_act 367 = .ok (.iconst 1, 1) := by decide +kernel
theorem dL_act_368 : decode cL_act 368 = .ok (.iadd, 1) := by decide +kernel
theorem dL_act_369 : decode cL_act 369 = .ok (.if_icmp .ne 8, 3) := by decide +kernel
theorem dL_act_372 : decode cL_act 372 = .ok (.iload 11, 2) := by decide +kernel
theorem dL_act_374 : decode cL_act 374 = .ok (.goto 5, 3) := by decide +kernel
theorem dL_act_377 : decode cL_act 377 = .ok (.bipush (-9), 2) := by decide +kernel
theorem dL_act_379 : decode cL_act 379 = .ok (.ireturn, 1) := by decide +kernel
theorem dL_act_380 : decode cL_act 380 = .ok (.iload_n 3, 1) := by decide +kernel
theorem dL_act_381 : decode cL_act 381 = .ok (.iload 4, 2) := by decide +kernel
theorem dL_act_383 : decode cL_act 383 = .ok (.irem, 1) := by decide +kernel
theorem dL_act_384 : decode cL_act 384 = .ok (.istore 6, 2) := by decide +kernel
theorem dL_act_386 : decode cL_act 386 = .ok (.aload_n 0, 1) := by decide +kernel
theorem dL_act_387 : decode cL_act 387 = .ok (.iload 6, 2) := by decide +kernel
theorem dL_act_389 : decode cL_act 389 = .ok (.iconst 1, 1) := by decide +kernel
theorem dL_act_390 : decode cL_act 390 = .ok (.invokevirtual 20, 3) := by decide +kernel
theorem dL_act_393 : decode cL_act 393 = .ok (.iconst 1, 1) := by decide +kernel
theorem dL_act_394 : decode cL_act 394 = .ok (.if_icmp .ne 7, 3) := by decide +kernel
theorem dL_act_397 : decode cL_act 397 = .ok (.iconst 1, 1) := by decide +kernel
theorem dL_act_398 : decode cL_act 398 = .ok (.goto 4, 3) := by decide +kernel
theorem dL_act_401 : decode cL_act 401 = .ok (.iconst 0, 1) := by decide +kernel
theorem dL_act_402 : decode cL_act 402 = .ok (.istore 7, 2) := by decide +kernel
theorem dL_act_404 : decode cL_act 404 = .ok (.iload_n 2, 1) := by decide +kernel
theorem dL_act_405 : decode cL_act 405 = .ok (.bipush 10, 2) := by decide +kernel
theorem dL_act_407 : decode cL_act 407 = .ok (.if_icmp .ge 49, 3) := by decide +kernel
theorem dL_act_410 : decode cL_act 410 = .ok (.aload_n 0, 1) := by decide +kernel
theorem dL_act_411 : decode cL_act 411 = .ok (.iload 6, 2) := by decide +kernel
theorem dL_act_413 : decode cL_act 413 = .ok (.invokevirtual 57, 3) := by decide +kernel
theorem dL_act_416 : decode cL_act 416 = .ok (.istore 8, 2) := by decide +kernel
theorem dL_act_418 : decode cL_act 418 = .ok (.iload 8, 2) := by decide +kernel
theorem dL_act_420 : decode cL_act 420 = .ok (.iload 7, 2) := by decide +kernel
theorem dL_act_422 : decode cL_act 422 = .ok (.ifCond .eq 11, 3) := by decide +kernel
theorem dL_act_425 : decode cL_act 425 = .ok (.bipush 9, 2) := by decide +kernel
theorem dL_act_427 : decode cL_act 427 = .ok (.iload 5, 2) := by decide +kernel
theorem dL_act_429 : decode cL_act 429 = .ok (.iadd, 1) := by decide +kernel
theorem dL_act_430 : decode cL_act 430 = .ok (.goto 5, 3) := by decide +kernel
theorem dL_act_433 : decode cL_act 433 = .ok (.bipush 6, 2) := by decide +kernel
theorem dL_act_435 : decode cL_act 435 = .ok (.if_icmp .ne 18, 3) := by decide +kernel
theorem dL_act_438 : decode cL_act 438 = .ok (.aload_n 0, 1) := by decide +kernel
theorem dL_act_439 : decode cL_act 439 = .ok (.iload 6, 2) := by decide +kernel
theorem dL_act_441 : decode cL_act 441 = .ok (.iconst 1, 1) := by decide +kernel
theorem dL_act_442 : decode cL_act 442 = .ok (.invokevirtual 20, 3) := by decide +kernel
theorem dL_act_445 : decode cL_act 445 = .ok (.ifCond .ne 8, 3) := by decide +kernel
theorem dL_act_448 : decode cL_act 448 = .ok (.iload 8, 2) := by decide +kernel
theorem dL_act_450 : decode cL_act 450 = .ok (.goto 5, 3) := by decide +kernel
theorem dL_act_453 : decode cL_act 453 = .ok (.bipush (-9), 2) := by decide +kernel
theorem dL_act_455 : decode cL_act 455 = .ok (.ireturn, 1) := by decide +kernel
theorem dL_act_456 : decode cL_act 456 = .ok (.aload_n 0, 1) := by decide +kernel
theorem dL_act_457 : decode cL_act 457 = .ok (.iload 6, 2) := by decide +kernel
theorem dL_act_459 : decode cL_act 459 = .ok (.iconst 2, 1) := by decide +kernel
theorem dL_act_460 : decode cL_act 460 = .ok (.invokevirtual 20, 3) := by decide +kernel
theorem dL_act_463 : decode cL_act 463 = .ok (.istore 8, 2) := by decide +kernel
theorem dL_act_465 : decode cL_act 465 = .ok (.aload_n 0, 1) := by decide +kernel
theorem dL_act_466 : decode cL_act 466 = .ok (.bipush 8, 2) := by decide +kernel
theorem dL_act_468 : decode cL_act 468 = .ok (.invokevirtual 14, 3) := by decide +kernel
theorem dL_act_471 : decode cL_act 471 = .ok (.istore 9, 2) := by decide +kernel
theorem dL_act_473 : decode cL_act 473 = .ok (.aload_n 0, 1) := by decide +kernel
theorem dL_act_474 : decode cL_act 474 = .ok (.iload 6, 2) := by decide +kernel
theorem dL_act_476 : decode cL_act 476 = .ok (.iconst 0, 1) := by decide +kernel
theorem dL_act_477 : decode cL_act 477 = .ok (.invokevirtual 20, 3) := by decide +kernel
theorem dL_act_480 : decode cL_act 480 = .ok (.istore 10, 2) := by decide +kernel
theorem dL_act_482 : decode cL_act 482 = .ok (.aload_n 0, 1) := by decide +kernel
theorem dL_act_483 : decode cL_act 483 = .ok (.iload 6, 2) := by decide +kernel
theorem dL_act_485 : decode cL_act 485 = .ok (.bipush 11, 2) := by decide +kernel
theorem dL_act_487 : decode cL_act 487 = .ok (.invokevirtual 20, 3) := by decide +kernel
theorem dL_act_490 : decode cL_act 490 = .ok (.istore 11, 2) := by decide +kernel
theorem dL_act_492 : decode cL_act 492 = .ok (.iload 7, 2) := by decide +kernel
theorem dL_act_494 : decode cL_act 494 = .ok (.ifCond .eq 22, 3) := by decide +kernel
theorem dL_act_497 : decode cL_act 497 = .ok (.iload 8, 2) := by decide +kernel
theorem dL_act_499 : decode cL_act 499 = .ok (.ifCond .lt 17, 3) := by decide +kernel
theorem dL_act_502 : decode cL_act 502 = .ok (.aload_n 0, 1) := by decide +kernel
theorem dL_act_503 : decode cL_act 503 = .ok (.iload 8, 2) := by decide +kernel
theorem dL_act_505 : decode cL_act 505 = .ok (.iconst 1, 1) := by decide +kernel
theorem dL_act_506 : decode cL_act 506 = .ok (.invokevirtual 20, 3) := by decide +kernel
theorem dL_act_509 : decode cL_act 509 = .ok (.ifCond .ne 7, 3) := by decide +kernel
theorem dL_act_512 : decode cL_act 512 = .ok (.iconst 1, 1) := by decide +kernel
theorem dL_act_513 : decode cL_act 513 = .ok (.goto 4, 3) := by decide +kernel
theorem dL_act_516 : decode cL_act 516 = .ok (.iconst 0, 1) := by decide +kernel
theorem dL_act_517 : decode cL_act 517 = .ok (.istore 12, 2) := by decide +kernel
theorem dL_act_519 : decode cL_act 519 = .ok (.iconst 0, 1) := by decide +kernel
theorem dL_act_520 : decode cL_act 520 = .ok (.istore 13, 2) := by decide +kernel
theorem dL_act_522 : decode cL_act 522 = .ok (.iload 13, 2) := by decide +kernel
theorem dL_act_524 : decode cL_act 524 = .ok (.iload 6, 2) := by decide +kernel
theorem dL_act_526 : decode cL_act 526 = .ok (.if_icmp .ge 43, 3) := by decide +kernel
theorem dL_act_529 : decode cL_act 529 = .ok (.iload 12, 2) := by decide +kernel
theorem dL_act_531 : decode cL_act 531 = .ok (.ifCond .eq 29, 3) := by decide +kernel
theorem dL_act_534 : decode cL_act 534 = .ok (.aload_n 0, 1) := by decide +kernel
theorem dL_act_535 : decode cL_act 535 = .ok (.iload 13, 2) := by decide +kernel
theorem dL_act_537 : decode cL_act 537 = .ok (.iconst 2, 1) := by decide +kernel
theorem dL_act_538 : decode cL_act 538 = .ok (.invokevirtual 20, 3) := by decide +kernel
theorem dL_act_541 : decode cL_act 541 = .ok (.iload 8, 2) := by decide +kernel
theorem dL_act_543 : decode cL_act 543 = .ok (.if_icmp .ne 13, 3) := by decide +kernel
theorem dL_act_546 : decode cL_act 546 = .ok (.aload_n 0, 1) := by decide +kernel
theorem dL_act_547 : decode cL_act 547 = .ok (.iload 13, 2) := by decide +kernel
theorem dL_act_549 : decode cL_act 549 = .ok (.iconst 1, 1) := by decide +kernel
theorem dL_act_550 : decode cL_act 550 = .ok (.invokevirtual 20, 3) := by decide +kernel
theorem dL_act_553 : decode cL_act 553 = .ok (.ifCond .ne 7, 3) := by decide +kernel
theorem dL_act_556 : decode cL_act 556 = .ok (.iconst 1, 1) := by decide +kernel
theorem dL_act_557 : decode cL_act 557 = .ok (.goto 4, 3) := by decide +kernel
theorem dL_act_560 : decode cL_act 560 = .ok (.iconst 0, 1) := by decide +kernel
theorem dL_act_561 : decode cL_act 561 = .ok (.istore 12, 2) := by decide +kernel
theorem dL_act_563 : decode cL_act 563 = .ok (.iinc 13 1, 3) := by decide +kernel
theorem dL_act_566 : decode cL_act 566 = .ok (.goto (-44), 3) := by decide +kernel
theorem dL_act_569 : decode cL_act 569 = .ok (.iload 12, 2) := by decide +kernel
theorem dL_act_571 : decode cL_act 571 = .ok (.ifCond .eq 23, 3) := by decide +kernel
theorem dL_act_574 : decode cL_act 574 = .ok (.aload_n 0, 1) := by decide +kernel
theorem dL_act_575 : decode cL_act 575 = .ok (.aload_n 0, 1) := by decide +kernel
theorem dL_act_576 : decode cL_act 576 = .ok (.iload 8, 2) := by decide +kernel
theorem dL_act_578 : decode cL_act 578 = .ok (.iconst 0, 1) := by decide +kernel
theorem dL_act_579 : decode cL_act 579 = .ok (.invokevirtual 20, 3) := by decide +kernel
theorem dL_act_582 : decode cL_act 582 = .ok (.invokevirtual 26, 3) := by decide +kernel
theorem dL_act_585 : decode cL_act 585 = .ok (.bipush (-4), 2) := by decide +kernel
theorem dL_act_587 : decode cL_act 587 = .ok (.if_icmp .ne 7, 3) := by decide +kernel
theorem dL_act_590 : decode cL_act 590 = .ok (.iconst 1, 1) := by decide +kernel
theorem dL_act_591 : decode cL_act 591 = .ok (.goto 4, 3) := by decide +kernel
theorem dL_act_594 : decode cL_act 594 = .ok (.iconst 0, 1) := by decide +kernel
theorem dL_act_595 : decode cL_act 595 = .ok (.istore 13, 2) := by decide +kernel
theorem dL_act_597 : decode cL_act 597 = .ok (.aload_n 0, 1) := by decide +kernel
theorem dL_act_598 : decode cL_act 598 = .ok (.iload 6, 2) := by decide +kernel
theorem dL_act_600 : decode cL_act 600 = .ok (.invokevirtual 60, 3) := by decide +kernel
theorem dL_act_603 : decode cL_act 603 = .ok (.istore 14, 2) := by decide +kernel
theorem dL_act_605 : decode cL_act 605 = .ok (.iload 7, 2) := by decide +kernel
theorem dL_act_607 : decode cL_act 607 = .ok (.ifCond .ne 18, 3) := by decide +kernel
theorem dL_act_610 : decode cL_act 610 = .ok (.iload 14, 2) := by decide +kernel
theorem dL_act_612 : decode cL_act 612 = .ok (.bipush (-2), 2) := by decide +kernel
theorem dL_act_614 : decode cL_act 614 = .ok (.if_icmp .ne 8, 3) := by decide +kernel
theorem dL_act_617 : decode cL_act 617 = .ok (.iload 14, 2) := by decide +kernel
theorem dL_act_619 : decode cL_act 619 = .ok (.goto 5, 3) := by decide +kernel
theorem dL_act_622 : decode cL_act 622 = .ok (.bipush (-9), 2) := by decide +kernel
theorem dL_act_624 : decode cL_act 624 = .ok (.ireturn, 1) := by decide +kernel
theorem dL_act_625 : decode cL_act 625 = .ok (.iload 13, 2) := by decide +kernel
theorem dL_act_627 : decode cL_act 627 = .ok (.ifCond .eq 47, 3) := by decide +kernel
theorem dL_act_630 : decode cL_act 630 = .ok (.iload 14, 2) := by decide +kernel
theorem dL_act_632 : decode cL_act 632 = .ok (.bipush 10, 2) := by decide +kernel
theorem dL_act_634 : decode cL_act 634 = .ok (.iload 11, 2) := by decide +kernel
theorem dL_act_636 : decode cL_act 636 = .ok (.iadd, 1) := by decide +kernel
theorem dL_act_637 : decode cL_act 637 = .ok (.if_icmp .ne 32, 3) := by decide +kernel
theorem dL_act_640 : decode cL_act 640 = .ok (.aload_n 0, 1) := by decide +kernel
theorem dL_act_641 : decode cL_act 641 = .ok (.iload 6, 2) := by decide +kernel
theorem dL_act_643 : decode cL_act 643 = .ok (.bipush 11, 2) := by decide +kernel
theorem dL_act_645 : decode cL_act 645 = .ok (.invokevirtual 20, 3) := by decide +kernel
theorem dL_act_648 : decode cL_act 648 = .ok (.ifCond .ne 21, 3) := by decide +kernel
theorem dL_act_651 : decode cL_act 651 = .ok (.aload_n 0, 1) := by decide +kernel
theorem dL_act_652 : decode cL_act 652 = .ok (.bipush 8, 2) := by decide +kernel
theorem dL_act_654 : decode cL_act 654 = .ok (.invokevirtual 14, 3) := by decide +kernel
theorem dL_act_657 : decode cL_act 657 = .ok (.iload 9, 2) := by decide +kernel
theorem dL_act_659 : decode cL_act 659 = .ok (.iconst 1, 1) := by decide +kernel
theorem dL_act_660 : decode cL_act 660 = .ok (.iadd, 1) := by decide +kernel
theorem dL_act_661 : decode cL_act 661 = .ok (.if_icmp .ne 8, 3) := by decide +kernel
theorem dL_act_664 : decode cL_act 664 = .ok (.iload 14, 2) := by decide +kernel
theorem dL_act_666 : decode cL_act 666 = .ok (.goto 110, 3) := by decide +kernel
theorem dL_act_669 : decode cL_act 669 = .ok (.bipush (-9), 2) := by decide +kernel
theorem dL_act_671 : decode cL_act 671 = .ok (.goto 105, 3) := by decide +kernel
theorem dL_act_674 : decode cL_act 674 = .ok (.iload 14, 2) := by decide +kernel
theorem dL_act_676 : decode cL_act 676 = .ok (.iconst 3, 1) := by decide +kernel
theorem dL_act_677 : decode cL_act 677 = .ok (.if_icmp .eq 17, 3) := by decide +kernel
theorem dL_act_680 : decode cL_act 680 = .ok (.iload 14, 2) := by decide +kernel
theorem dL_act_682 : decode cL_act 682 = .ok (.bipush 7, 2) := by decide +kernel
theorem dL_act_684 : decode cL_act 684 = .ok (.if_icmp .eq 10, 3) := by decide +kernel
theorem dL_act_687 : decode cL_act 687 = .ok (.iload 14, 2) := by decide +kernel
theorem dL_act_689 : decode cL_act 689 = .ok (.bipush 8, 2) := by decide +kernel
theorem dL_act_691 : decode cL_act 691 = .ok (.if_icmp .ne 83, 3) := by decide +kernel
theorem dL_act_694 : decode cL_act 694 = .ok (.iload 14, 2) := by decide +kernel
theorem dL_act_696 : decode cL_act 696 = .ok (.iconst 3, 1) := by decide +kernel
theorem dL_act_697 : decode cL_act 697 = .ok (.if_icmp .ne 7, 3) := by decide +kernel
theorem dL_act_700 : decode cL_act 700 = .ok (.iconst 1, 1) := by decide +kernel
theorem dL_act_701 : decode cL_act 701 = .ok (.goto 4, 3) := by decide +kernel
theorem dL_act_704 : decode cL_act 704 = .ok (.iconst 0, 1) := by decide +kernel
theorem dL_act_705 : decode cL_act 705 = .ok (.iload 12, 2) := by decide +kernel
theorem dL_act_707 : decode cL_act 707 = .ok (.if_icmp .ne 67, 3) := by decide +kernel
theorem dL_act_710 : decode cL_act 710 = .ok (.iload 14, 2) := by decide +kernel
theorem dL_act_712 : decode cL_act 712 = .ok (.bipush 7, 2) := by decide +kernel
theorem dL_act_714 : decode cL_act 714 = .ok (.if_icmp .ne 7, 3) := by decide +kernel
theorem dL_act_717 : decode cL_act 717 = .ok (.iconst 1, 1) := by decide +kernel
theorem dL_act_718 : decode cL_act 718 = .ok (.goto 4, 3) := by decide +kernel
theorem dL_act_721 : decode cL_act 721 = .ok (.iconst 0, 1) := by decide +kernel
theorem dL_act_722 : decode cL_act 722 = .ok (.iload 8, 2) := by decide +kernel
theorem dL_act_724 : decode cL_act 724 = .ok (.ifCond .lt 14, 3) := by decide +kernel
theorem dL_act_727 : decode cL_act 727 = .ok (.aload_n 0, 1) := by decide +kernel
theorem dL_act_728 : decode cL_act 728 = .ok (.iload 8, 2) := by decide +kernel
theorem dL_act_730 : decode cL_act 730 = .ok (.iconst 1, 1) := by decide +kernel
theorem dL_act_731 : decode cL_act 731 = .ok (.invokevirtual 20, 3) := by decide +kernel
theorem dL_act_734 : decode cL_act 734 = .ok (.iconst 1, 1) := by decide +kernel
theorem dL_act_735 : decode cL_act 735 = .ok (.if_icmp .ne 7, 3) := by decide +kernel
theorem dL_act_738 : decode cL_act 738 = .ok (.iconst 1, 1) := by decide +kernel
theorem dL_act_739 : decode cL_act 739 = .ok (.goto 4, 3) := by decide +kernel
theorem dL_act_742 : decode cL_act 742 = .ok (.iconst 0, 1) := by decide +kernel
theorem dL_act_743 : decode cL_act 743 = .ok (.if_icmp .ne 31, 3) := by decide +kernel
theorem dL_act_746 : decode cL_act 746 = .ok (.aload_n 0, 1) := by decide +kernel
theorem dL_act_747 : decode cL_act 747 = .ok (.iload 6, 2) := by decide +kernel
theorem dL_act_749 : decode cL_act 749 = .ok (.iconst 0, 1) := by decide +kernel
theorem dL_act_750 : decode cL_act 750 = .ok (.invokevirtual 20, 3) := by decide +kernel
theorem dL_act_753 : decode cL_act 753 = .ok (.iload 10, 2) := by decide +kernel
theorem dL_act_755 : decode cL_act 755 = .ok (.if_icmp .ne 19, 3) := by decide +kernel
theorem dL_act_758 : decode cL_act 758 = .ok (.aload_n 0, 1) := by decide +kernel
theorem dL_act_759 : decode cL_act 759 = .ok (.bipush 8, 2) := by decide +kernel
theorem dL_act_761 : decode cL_act 761 = .ok (.invokevirtual 14, 3) := by decide +kernel
theorem dL_act_764 : decode cL_act 764 = .ok (.iload 9, 2) := by decide +kernel
theorem dL_act_766 : decode cL_act 766 = .ok (.if_icmp .ne 8, 3) := by decide +kernel
theorem dL_act_769 : decode cL_act 769 = .ok (.iload 14, 2) := by decide +kernel
theorem dL_act_771 : decode cL_act 771 = .ok (.goto 5, 3) := by decide +kernel
theorem dL_act_774 : decode cL_act 774 = .ok (.bipush (-9), 2) := by decide +kernel
theorem dL_act_776 : decode cL_act 776 = .ok (.ireturn, 1) := by decide +kernel
theorem dL_law_0 : decode cL_law 0 = .ok (.new 15, 3) := by decide +kernel
theorem dL_law_3 : decode cL_law 3 = .ok (.dup, 1) := by decide +kernel
theorem dL_law_4 : decode cL_law 4 = .ok (.invokespecial 99, 3) := by decide +kernel
theorem dL_law_7 : decode cL_law 7 = .ok (.astore_n 1, 1) := by decide +kernel
theorem dL_law_8 : decode cL_law 8 = .ok (.aload_n 1, 1) := by decide +kernel
theorem dL_law_9 : decode cL_law 9 = .ok (.invokevirtual 100, 3) := by decide +kernel
theorem dL_law_12 : decode cL_law 12 = .ok (.bipush (-2), 2) := by decide +kernel
theorem dL_law_14 : decode cL_law 14 = .ok (.if_icmp .ne 49, 3) := by decide +kernel
theorem dL_law_17 : decode cL_law 17 = .ok (.aload_n 1, 1) := by decide +kernel
theorem dL_law_18 : decode cL_law 18 = .ok (.invokevirtual 103, 3) := by decide +kernel
theorem dL_law_21 : decode cL_law 21 = .ok (.bipush (-2), 2) := by decide +kernel
theorem dL_law_23 : decode cL_law 23 = .ok (.if_icmp .ne 40, 3) := by decide +kernel
theorem dL_law_26 : decode cL_law 26 = .ok (.aload_n 1, 1) := by decide +kernel
theorem dL_law_27 : decode cL_law 27 = .ok (.iconst 0, 1) := by decide +kernel
theorem dL_law_28 : decode cL_law 28 = .ok (.invokevirtual 75, 3) := by decide +kernel
theorem dL_law_31 : decode cL_law 31 = .ok (.bipush (-4), 2) := by decide +kernel
theorem dL_law_33 : decode cL_law 33 = .ok (.if_icmp .ne 30, 3) := by decide +kernel
theorem dL_law_36 : decode cL_law 36 = .ok (.aload_n 1, 1) := by decide +kernel
theorem dL_law_37 : decode cL_law 37 = .ok (.iconst 0, 1) := by decide +kernel
theorem dL_law_38 : decode cL_law 38 = .ok (.invokestatic 106, 3) := by decide +kernel
theorem dL_law_41 : decode cL_law 41 = .ok (.ifCond .eq 22, 3) := by decide +kernel
theorem dL_law_44 : decode cL_law 44 = .ok (.aload_n 1, 1) := by decide +kernel
theorem dL_law_45 : decode cL_law 45 = .ok (.iconst 1, 1) := by decide +kernel
theorem dL_law_46 : decode cL_law 46 = .ok (.invokestatic 106, 3) := by decide +kernel
theorem dL_law_49 : decode cL_law 49 = .ok (.ifCond .eq 14, 3) := by decide +kernel
theorem dL_law_52 : decode cL_law 52 = .ok (.aload_n 1, 1) := by decide +kernel
theorem dL_law_53 : decode cL_law 53 = .ok (.invokevirtual 109, 3) := by decide +kernel
theorem dL_law_56 : decode cL_law 56 = .ok (.ifCond .ne 7, 3) := by decide +kernel
theorem dL_law_59 : decode cL_law 59 = .ok (.iconst 1, 1) := by decide +kernel
theorem dL_law_60 : decode cL_law 60 = .ok (.goto 4, 3) := by decide +kernel
theorem dL_law_63 : decode cL_law 63 = .ok (.iconst 0, 1) := by decide +kernel
theorem dL_law_64 : decode cL_law 64 = .ok (.istore_n 2, 1) := by decide +kernel
theorem dL_law_65 : decode cL_law 65 = .ok (.aload_n 1, 1) := by decide +kernel
theorem dL_law_66 : decode cL_law 66 = .ok (.invokestatic 91, 3) := by decide +kernel
theorem dL_law_69 : decode cL_law 69 = .ok (.lstore_n 3, 1) := by decide +kernel
theorem dL_law_70 : decode cL_law 70 = .ok (.iconst 0, 1) := by decide +kernel
theorem dL_law_71 : decode cL_law 71 = .ok (.istore 5, 2) := by decide +kernel
theorem dL_law_73 : decode cL_law 73 = .ok (.iconst 0, 1) := by decide +kernel
theorem dL_law_74 : decode cL_law 74 = .ok (.istore 6, 2) := by decide +kernel
theorem dL_law_76 : decode cL_law 76 = .ok (.iload 6, 2) := by decide +kernel
theorem dL_law_78 : decode cL_law 78 = .ok (.bipush 50, 2) := by decide +kernel
theorem dL_law_80 : decode cL_law 80 = .ok (.if_icmp .ge 393, 3) := by decide +kernel
theorem dL_law_83 : decode cL_law 83 = .ok (.iload_n 2, 1) := by decide +kernel
theorem dL_law_84 : decode cL_law 84 = .ok (.ifCond .eq 389, 3) := by decide +kernel
theorem dL_law_87 : decode cL_law 87 = .ok (.aload_n 0, 1) := by decide +kernel
theorem dL_law_88 : decode cL_law 88 = .ok (.iload 6, 2) := by decide +kernel
theorem dL_law_90 : decode cL_law 90 = .ok (.invokestatic 112, 3) := by decide +kernel
theorem dL_law_93 : decode cL_law 93 = .ok (.istore 7, 2) := by decide +kernel
theorem dL_law_95 : decode cL_law 95 = .ok (.aload_n 1, 1) := by decide +kernel
theorem dL_law_96 : decode cL_law 96 = .ok (.invokestatic 91, 3) := by decide +kernel
theorem dL_law_99 : decode cL_law 99 = .ok (.lstore 8, 2) := by decide +kernel
theorem dL_law_101 : decode cL_law 101 = .ok (.aload_n 1, 1) := by decide +kernel
theorem dL_law_102 : decode cL_law 102 = .ok (.bipush 11, 2) := by decide +kernel
theorem dL_law_104 : decode cL_law 104 = .ok (.invokevirtual 14, 3) := by decide +kernel
theorem dL_law_107 : decode cL_law 107 = .ok (.istore 10, 2) := by decide +kernel
theorem dL_law_109 : decode cL_law 109 = .ok (.aload_n 1, 1) := by decide +kernel
theorem dL_law_110 : decode cL_law 110 = .ok (.bipush 9, 2) := by decide +kernel
theorem dL_law_112 : decode cL_law 112 = .ok (.invokevirtual 14, 3) := by decide +kernel
theorem dL_law_115 : decode cL_law 115 = .ok (.istore 11, 2) := by decide +kernel
theorem dL_law_117 : decode cL_law 117 = .ok (.aload_n 1, 1) := by decide +kernel
theorem dL_law_118 : decode cL_law 118 = .ok (.iload 7, 2) := by decide +kernel
theorem dL_law_120 : decode cL_law 120 = .ok (.invokestatic 116, 3) := by decide +kernel
theorem dL_law_123 : decode cL_law 123 = .ok (.istore 12, 2) := by decide +kernel
theorem dL_law_125 : decode cL_law 125 = .ok (.aload_n 1, 1) := by decide +kernel
theorem dL_law_126 : decode cL_law 126 = .ok (.bipush 11, 2) := by decide +kernel
theorem dL_law_128 : decode cL_law 128 = .ok (.invokevirtual 14, 3) := by decide +kernel
theorem dL_law_131 : decode cL_law 131 = .ok (.istore 13, 2) := by decide +kernel
theorem dL_law_133 : decode cL_law 133 = .ok (.iload 12, 2) := by decide +kernel
theorem dL_law_135 : decode cL_law 135 = .ok (.bipush (-9), 2) := by decide +kernel
theorem dL_law_137 : decode cL_law 137 = .ok (.if_icmp .eq 82, 3) := by decide +kernel
theorem dL_law_140 : decode cL_law 140 = .ok (.iload 12, 2) := by decide +kernel
theorem dL_law_142 : decode cL_law 142 = .ok (.ifCond .ge 23, 3) := by decide +kernel
theorem dL_law_145 : decode cL_law 145 = .ok (.iload 13, 2) := by decide +kernel
theorem dL_law_147 : decode cL_law 147 = .ok (.iload 10, 2) := by decide +kernel
theorem dL_law_149 : decode cL_law 149 = .ok (.if_icmp .ne 70, 3) := by decide +kernel
theorem dL_law_152 : decode cL_law 152 = .ok (.aload_n 1, 1) := by decide +kernel
theorem dL_law_153 : decode cL_law 153 = .ok (.invokestatic 91, 3) := by decide +kernel
theorem dL_law_156 : decode cL_law 156 = .ok (.lload 8, 2) := by decide +kernel
theorem dL_law_158 : decode cL_law 158 = .ok (.lcmp, 1) := by decide +kernel
theorem dL_law_159 : decode cL_law 159 = .ok (.ifCond .ne 60, 3) := by decide +kernel
theorem dL_law_162 : decode cL_law 162 = .ok (.goto 46, 3) := by decide +kernel
theorem dL_law_165 : decode cL_law 165 = .ok (.iload 13, 2) := by decide +kernel
theorem dL_law_167 : decode cL_law 167 = .ok (.iload 10, 2) := by decide +kernel
theorem dL_law_169 : decode cL_law 169 = .ok (.iconst 4, 1) := by decide +kernel
theorem dL_law_170 : decode cL_law 170 = .ok (.if_icmp .ge 10, 3) := by decide +kernel
theorem dL_law_173 : decode cL_law 173 = .ok (.iload 10, 2) := by decide +kernel
theorem dL_law_175 : decode cL_law 175 = .ok (.iconst 1, 1) := by decide +kernel
theorem dL_law_176 : decode cL_law 176 = .ok (.iadd, 1) := by decide +kernel
theorem dL_law_177 : decode cL_law 177 = .ok (.goto 4, 3) := by decide +kernel
theorem dL_law_180 : decode cL_law 180 = .ok (.iconst 4, 1) := by decide +kernel
theorem dL_law_181 : decode cL_law 181 = .ok (.if_icmp .ne 38, 3) := by decide +kernel
theorem dL_law_184 : decode cL_law 184 = .ok (.aload_n 1, 1) := by decide +kernel
theorem dL_law_185 : decode cL_law 185 = .ok (.bipush 9, 2) := by decide +kernel
theorem dL_law_187 : decode cL_law 187 = .ok (.invokevirtual 14, 3) := by decide +kernel
theorem dL_law_190 : decode cL_law 190 = .ok (.iload 11, 2) := by decide +kernel
theorem dL_law_192 : decode cL_law 192 = .ok (.iload 12, 2) := by decide +kernel
theorem dL_law_194 : decode cL_law 194 = .ok (.bipush 10, 2) := by decide +kernel
theorem dL_law_196 : decode cL_law 196 = .ok (.if_icmp .ge 7, 3) := by decide +kernel
theorem dL_law_199 : decode cL_law 199 = .ok (.iconst 1, 1) := by decide +kernel
theorem dL_law_200 : decode cL_law 200 = .ok (.goto 4, 3) := by decide +kernel
theorem dL_law_203 : decode cL_law 203 = .ok (.iconst 0, 1) := by decide +kernel
theorem dL_law_204 : decode cL_law 204 = .ok (.iadd, 1) := by decide +kernel
theorem dL_law_205 : decode cL_law 205 = .ok (.if_icmp .ne 14, 3) := by decide +kernel
theorem dL_law_208 : decode cL_law 208 = .ok (.aload_n 1, 1) := by decide +kernel
theorem dL_law_209 : decode cL_law 209 = .ok (.invokestatic 120, 3) := by decide +kernel
theorem dL_law_212 : decode cL_law 212 = .ok (.ifCond .eq 7, 3) := by decide +kernel
theorem dL_law_215 : decode cL_law 215 = .ok (.iconst 1, 1) := by decide +kernel
theorem dL_law_216 : decode cL_law 216 = .ok (.goto 4, 3) := by decide +kernel
theorem dL_law_219 : decode cL_law 219 = .ok (.iconst 0, 1) := by decide +kernel
theorem dL_law_220 : decode cL_law 220 = .ok (.istore_n 2, 1) := by decide +kernel
theorem dL_law_221 : decode cL_law 221 = .ok (.aload_n 1, 1) := by decide +kernel
theorem dL_law_222 : decode cL_law 222 = .ok (.iconst 0, 1) := by decide +kernel
theorem dL_law_223 : decode cL_law 223 = .ok (.invokevirtual 14, 3) := by decide +kernel
theorem dL_law_226 : decode cL_law 226 = .ok (.istore 14, 2) := by decide +kernel
theorem dL_law_228 : decode cL_law 228 = .ok (.iload_n 2, 1) := by decide +kernel
theorem dL_law_229 : decode cL_law 229 = .ok (.ifCond .eq 93, 3) := by decide +kernel
theorem dL_law_232 : decode cL_law 232 = .ok (.iload 14, 2) := by decide +kernel
theorem dL_law_234 : decode cL_law 234 = .ok (.ifCond .eq 34, 3) := by decide +kernel
theorem dL_law_237 : decode cL_law 237 = .ok (.aload_n 1, 1) := by decide +kernel
theorem dL_law_238 : decode cL_law 238 = .ok (.iload 7, 2) := by decide +kernel
theorem dL_law_240 : decode cL_law 240 = .ok (.iconst 3, 1) := by decide +kernel
theorem dL_law_241 : decode cL_law 241 = .ok (.idiv, 1) := by decide +kernel
theorem dL_law_242 : decode cL_law 242 = .ok (.iload 14, 2) := by decide +kernel
theorem dL_law_244 : decode cL_law 244 = .ok (.irem, 1) := by decide +kernel
theorem dL_law_245 : decode cL_law 245 = .ok (.iload 7, 2) := by decide +kernel
theorem dL_law_247 : decode cL_law 247 = .ok (.bipush 60, 2) := by decide +kernel
theorem dL_law_249 : decode cL_law 249 = .ok (.idiv, 1) := by decide +kernel
theorem dL_law_250 : decode cL_law 250 = .ok (.iload 14, 2) := by decide +kernel
theorem dL_law_252 : decode cL_law 252 = .ok (.irem, 1) := by decide +kernel
theorem dL_law_253 : decode cL_law 253 = .ok (.iload 7, 2) := by decide +kernel
theorem dL_law_255 : decode cL_law 255 = .ok (.sipush 1200, 3) := by decide +kernel
theorem dL_law_258 : decode cL_law 258 = .ok (.idiv, 1) := by decide +kernel
theorem dL_law_259 : decode cL_law 259 = .ok (.iload 14, 2) := by decide +kernel
theorem dL_law_261 : decode cL_law 261 = .ok (.irem, 1) := by decide +kernel
theorem dL_law_262 : decode cL_law 262 = .ok (.invokestatic 124, 3) := by decide +kernel
theorem dL_law_265 : decode cL_law 265 = .ok (.ifCond .eq 57, 3) := by decide +kernel
theorem dL_law_268 : decode cL_law 268 = .ok (.iload 6, 2) := by decide +kernel
theorem dL_law_270 : decode cL_law 270 = .ok (.bipush 8, 2) := by decide +kernel
theorem dL_law_272 : decode cL_law 272 = .ok (.irem, 1) := by decide +kernel
theorem dL_law_273 : decode cL_law 273 = .ok (.bipush 7, 2) := by decide +kernel
theorem dL_law_275 : decode cL_law 275 = .ok (.if_icmp .ne 43, 3) := by decide +kernel
theorem dL_law_278 : decode cL_law 278 = .ok (.aload_n 1, 1) := by decide +kernel
theorem dL_law_279 : decode cL_law 279 = .ok (.iload 7, 2) := by decide +kernel
theorem dL_law_281 : decode cL_law 281 = .ok (.bipush 7, 2) := by decide +kernel
theorem dL_law_283 : decode cL_law 283 = .ok (.idiv, 1) := by decide +kernel
theorem dL_law_284 : decode cL_law 284 = .ok (.invokestatic 106, 3) := by decide +kernel
theorem dL_law_287 : decode cL_law 287 = .ok (.ifCond .eq 35, 3) := by decide +kernel
theorem dL_law_290 : decode cL_law 290 = .ok (.iload 14, 2) := by decide +kernel
theorem dL_law_292 : decode cL_law 292 = .ok (.ifCond .eq 26, 3) := by decide +kernel
theorem dL_law_295 : decode cL_law 295 = .ok (.aload_n 1, 1) := by decide +kernel
theorem dL_law_296 : decode cL_law 296 = .ok (.iload 7, 2) := by decide +kernel
theorem dL_law_298 : decode cL_law 298 = .ok (.iconst 3, 1) := by decide +kernel
theorem dL_law_299 : decode cL_law 299 = .ok (.idiv, 1) := by decide +kernel
theorem dL_law_300 : decode cL_law 300 = .ok (.iload 14, 2) := by decide +kernel
theorem dL_law_302 : decode cL_law 302 = .ok (.irem, 1) := by decide +kernel
theorem dL_law_303 : decode cL_law 303 = .ok (.iload 7, 2) := by decide +kernel
theorem dL_law_305 : decode cL_law 305 = .ok (.bipush 60, 2) := by decide +kernel
theorem dL_law_307 : decode cL_law 307 = .ok (.idiv, 1) := by decide +kernel
theorem dL_law_308 : decode cL_law 308 = .ok (.sipush 15625, 3) := by decide +kernel
theorem dL_law_311 : decode cL_law 311 = .ok (.irem, 1) := by decide +kernel
theorem dL_law_312 : decode cL_law 312 = .ok (.invokestatic 128, 3) := by decide +kernel
theorem dL_law_315 : decode cL_law 315 = .ok (.ifCond .eq 7, 3) := by decide +kernel
theorem dL_law_318 : decode cL_law 318 = .ok (.iconst 1, 1) := by decide +kernel
theorem dL_law_319 : decode cL_law 319 = .ok (.goto 4, 3) := by decide +kernel
theorem dL_law_322 : decode cL_law 322 = .ok (.iconst 0, 1) := by decide +kernel
theorem dL_law_323 : decode cL_law 323 = .ok (.istore_n 2, 1) := by decide +kernel
theorem dL_law_324 : decode cL_law 324 = .ok (.iload_n 2, 1) := by decide +kernel
theorem dL_law_325 : decode cL_law 325 = .ok (.ifCond .eq 58, 3) := by decide +kernel
theorem dL_law_328 : decode cL_law 328 = .ok (.iload 12, 2) := by decide +kernel
theorem dL_law_330 : decode cL_law 330 = .ok (.ifCond .lt 53, 3) := by decide +kernel
theorem dL_law_333 : decode cL_law 333 = .ok (.iload 6, 2) := by decide +kernel
theorem dL_law_335 : decode cL_law 335 = .ok (.ifCond .le 48, 3) := by decide +kernel
theorem dL_law_338 : decode cL_law 338 = .ok (.iload 7, 2) := by decide +kernel
theorem dL_law_340 : decode cL_law 340 = .ok (.bipush 17, 2) := by decide +kernel
theorem dL_law_342 : decode cL_law 342 = .ok (.idiv, 1) := by decide +kernel
theorem dL_law_343 : decode cL_law 343 = .ok (.iconst 4, 1) := by decide +kernel
theorem dL_law_344 : decode cL_law 344 = .ok (.irem, 1) := by decide +kernel
theorem dL_law_345 : decode cL_law 345 = .ok (.ifCond .ne 38, 3) := by decide +kernel
theorem dL_law_348 : decode cL_law 348 = .ok (.aload_n 1, 1) := by decide +kernel
theorem dL_law_349 : decode cL_law 349 = .ok (.invokevirtual 100, 3) := by decide +kernel
theorem dL_law_352 : decode cL_law 352 = .ok (.iload 10, 2) := by decide +kernel
theorem dL_law_354 : decode cL_law 354 = .ok (.iconst 4, 1) := by decide +kernel
theorem dL_law_355 : decode cL_law 355 = .ok (.if_icmp .ge 8, 3) := by decide +kernel
theorem dL_law_358 : decode cL_law 358 = .ok (.iload 10, 2) := by decide +kernel
theorem dL_law_360 : decode cL_law 360 = .ok (.goto 4, 3) := by decide +kernel
theorem dL_law_363 : decode cL_law 363 = .ok (.iconst 3, 1) := by decide +kernel
theorem dL_law_364 : decode cL_law 364 = .ok (.if_icmp .ne 17, 3) := by decide +kernel
theorem dL_law_367 : decode cL_law 367 = .ok (.aload_n 1, 1) := by decide +kernel
theorem dL_law_368 : decode cL_law 368 = .ok (.invokestatic 91, 3) := by decide +kernel
theorem dL_law_371 : decode cL_law 371 = .ok (.lload 8, 2) := by decide +kernel
theorem dL_law_373 : decode cL_law 373 = .ok (.lcmp, 1) := by decide +kernel
theorem dL_law_374 : decode cL_law 374 = .ok (.ifCond .ne 7, 3) := by decide +kernel
theorem dL_law_377 : decode cL_law 377 = .ok (.iconst 1, 1) := by decide +kernel
theorem dL_law_378 : decode cL_law 378 = .ok (.goto 4, 3) := by decide +kernel
theorem dL_law_381 : decode cL_law 381 = .ok (.iconst 0, 1) := by decide +kernel
theorem dL_law_382 : decode cL_law 382 = .ok (.istore_n 2, 1) := by decide +kernel
theorem dL_law_383 : decode cL_law 383 = .ok (.iload_n 2, 1) := by decide +kernel
theorem dL_law_384 : decode cL_law 384 = .ok (.ifCond .eq 83, 3) := by decide +kernel
theorem dL_law_387 : decode cL_law 387 = .ok (.iload 6, 2) := by decide +kernel
theorem dL_law_389 : decode cL_law 389 = .ok (.bipush 12, 2) := by decide +kernel
theorem dL_law_391 : decode cL_law 391 = .ok (.irem, 1) := by decide +kernel
theorem dL_law_392 : decode cL_law 392 = .ok (.bipush 11, 2) := by decide +kernel
theorem dL_law_394 : decode cL_law 394 = .ok (.if_icmp .ne 73, 3) := by decide +kernel
theorem dL_law_397 : decode cL_law 397 = .ok (.aload_n 1, 1) := by decide +kernel
theorem dL_law_398 : decode cL_law 398 = .ok (.invokestatic 91, 3) := by decide +kernel
theorem dL_law_401 : decode cL_law 401 = .ok (.lstore 15, 2) := by decide +kernel
theorem dL_law_403 : decode cL_law 403 = .ok (.aload_n 1, 1) := by decide +kernel
theorem dL_law_404 : decode cL_law 404 = .ok (.iconst 1, 1) := by decide +kernel
theorem dL_law_405 : decode cL_law 405 = .ok (.invokevirtual 14, 3) := by decide +kernel
theorem dL_law_408 : decode cL_law 408 = .ok (.istore 17, 2) := by decide +kernel
theorem dL_law_410 : decode cL_law 410 = .ok (.aload_n 1, 1) := by decide +kernel
theorem dL_law_411 : decode cL_law 411 = .ok (.invokevirtual 103, 3) := by decide +kernel
theorem dL_law_414 : decode cL_law 414 = .ok (.iload 5, 2) := by decide +kernel
theorem dL_law_416 : decode cL_law 416 = .ok (.if_icmp .ne 42, 3) := by decide +kernel
theorem dL_law_419 : decode cL_law 419 = .ok (.aload_n 1, 1) := by decide +kernel
theorem dL_law_420 : decode cL_law 420 = .ok (.invokestatic 91, 3) := by decide +kernel
theorem dL_law_423 : decode cL_law 423 = .ok (.lload_n 3, 1) := by decide +kernel
theorem dL_law_424 : decode cL_law 424 = .ok (.lcmp, 1) := by decide +kernel
theorem dL_law_425 : decode cL_law 425 = .ok (.ifCond .ne 33, 3) := by decide +kernel
theorem dL_law_428 : decode cL_law 428 = .ok (.aload_n 1, 1) := by decide +kernel
theorem dL_law_429 : decode cL_law 429 = .ok (.invokevirtual 100, 3) := by decide +kernel
theorem dL_law_432 : decode cL_law 432 = .ok (.ifCond .lt 26, 3) := by decide +kernel
theorem dL_law_435 : decode cL_law 435 = .ok (.aload_n 1, 1) := by decide +kernel
theorem dL_law_436 : decode cL_law 436 = .ok (.invokestatic 91, 3) := by decide +kernel
theorem dL_law_439 : decode cL_law 439 = .ok (.lload 15, 2) := by decide +kernel
theorem dL_law_441 : decode cL_law 441 = .ok (.lcmp, 1) := by decide +kernel
theorem dL_law_442 : decode cL_law 442 = .ok (.ifCond .ne 16, 3) := by decide +kernel
theorem dL_law_445 : decode cL_law 445 = .ok (.aload_n 1, 1) := by decide +kernel
theorem dL_law_446 : decode cL_law 446 = .ok (.invokevirtual 109, 3) := by decide +kernel
theorem dL_law_449 : decode cL_law 449 = .ok (.iload 17, 2) := by decide +kernel
theorem dL_law_451 : decode cL_law 451 = .ok (.if_icmp .ne 7, 3) := by decide +kernel
theorem dL_law_454 : decode cL_law 454 = .ok (.iconst 1, 1) := by decide +kernel
theorem dL_law_455 : decode cL_law 455 = .ok (.goto 4, 3) := by decide +kernel
theorem dL_law_458 : decode cL_law 458 = .ok (.iconst 0, 1) := by decide +kernel
theorem dL_law_459 : decode cL_law 459 = .ok (.istore_n 2, 1) := by decide +kernel
theorem dL_law_460 : decode cL_law 460 = .ok (.lload 15, 2) := by decide +kernel
theorem dL_law_462 : decode cL_law 462 = .ok (.lstore_n 3, 1) := by decide +kernel
theorem dL_law_463 : decode cL_law 463 = .ok (.iload 17, 2) := by decide +kernel
theorem dL_law_465 : decode cL_law 465 = .ok (.istore 5, 2) := by decide +kernel
theorem dL_law_467 : decode cL_law 467 = .ok (.iinc 6 1, 3) := by decide +kernel
theorem dL_law_470 : decode cL_law 470 = .ok (.goto (-394), 3) := by decide +kernel
theorem dL_law_473 : decode cL_law 473 = .ok (.iload_n 2, 1) := by decide +kernel
theorem dL_law_474 : decode cL_law 474 = .ok (.ireturn, 1) := by decide +kernel
end
section
/-! ===== the abstract machine: a memory of numbers, references by kind and number, and the judgement Go over the kit's W ===== -/
/-- the tables' words that hold at every call, too -/
def k_tb : List Cond := lw_tbl.filter goodWord
abbrev KV : Type := Value ⊕ (Nat × Nat)
abbrev KM : Type := (Nat → Nat → Nat → Int32) × (Nat → Nat → Int64) × (Nat → Nat → Nat)
abbrev KG : Type := Nat × va_G × ClassId × ClassId × ClassId × ClassId
abbrev KI : Type := MethodName × ByteArray × Nat × Option FieldType × Room
abbrev vI (x : Int32) : KV := Sum.inl (Value.int x)
abbrev vJ (x : Int64) : KV := Sum.inl (Value.long x)
abbrev vD (x : UInt64) : KV := Sum.inl (Value.double x)
abbrev vN : KV := Sum.inl Value.null
abbrev vR (k i : Nat) : KV := Sum.inr (k, i)
/-- where the cell of a kind and number lies, behind the base -/
def k_off (k i : Nat) : Nat := match k with
  | 0 => 0
  | 1 => if i < 3 then 1 + 6 * i else 21 + 6 * (i - 3)
  | 2 => (if i < 3 then 1 + 6 * i else 21 + 6 * (i - 3)) + 1
  | 3 => (if i < 3 then 1 + 6 * i else 21 + 6 * (i - 3)) + 2
  | 4 => (if i < 3 then 1 + 6 * i else 21 + 6 * (i - 3)) + 3
  | 5 => (if i < 3 then 1 + 6 * i else 21 + 6 * (i - 3)) + 4
  | 6 => (if i < 3 then 1 + 6 * i else 21 + 6 * (i - 3)) + 5
  | 7 => 19
  | 8 => 20
  | 9 => 51
  | 10 => 52
  | 11 => 53
  | 12 => 54 + 2 * i
  | 13 => 55 + 2 * i
  | _ => 60
def k_cnt (k : Nat) : Nat := match k with
  | 0 => 1
  | 1 => 8
  | 2 => 8
  | 3 => 8
  | 4 => 8
  | 5 => 8
  | 6 => 8
  | 7 => 1
  | 8 => 1
  | 9 => 1
  | 10 => 1
  | 11 => 1
  | 12 => 3
  | 13 => 3
  | _ => 0
def k_inv (n : Nat) : Nat × Nat :=
  if n = 0 then (0, 0) else if n < 19 then ((n - 1) % 6 + 1, (n - 1) / 6) else if n = 19 then (7, 0) else if n = 20 then (8, 0)
  else if n < 51 then ((n - 21) % 6 + 1, (n - 21) / 6 + 3) else if n = 51 then (9, 0) else if n = 52 then (10, 0) else if n = 53 then (11, 0)
  else (12 + (n - 54) % 2, (n - 54) / 2)
theorem k_inv_ok : ∀ k, k < 14 → ∀ i, i < 8 → i < k_cnt k → k_inv (k_off k i) = (k, i) ∧ k_off k i < 60 := by decide +kernel
theorem k_cnt22 {k i : Nat} (h : i < k_cnt k) : k < 14 ∧ i < 8 := by
  unfold k_cnt at h
  split at h <;> omega
theorem k_off_lt {k i : Nat} (h : i < k_cnt k) : k_off k i < 60 := (k_inv_ok k (k_cnt22 h).1 i (k_cnt22 h).2 h).2
theorem k_off_inj {k i k' i' : Nat} (h : i < k_cnt k) (h' : i' < k_cnt k') (e : k_off k i = k_off k' i') : k = k' ∧ i = i' := by
  have h1 := (k_inv_ok k (k_cnt22 h).1 i (k_cnt22 h).2 h).1
  have h2 := (k_inv_ok k' (k_cnt22 h').1 i' (k_cnt22 h').2 h').1
  rw [e, h2] at h1
  exact ⟨(congrArg Prod.fst h1).symm, (congrArg Prod.snd h1).symm⟩
/-- the class of an object's kind; the length of an int array's kind -/
def k_oc (k : Nat) : Option Nat := match k with
  | 0 => some 5
  | 1 => some 3
  | 7 => some 0
  | 9 => some 2
  | 11 => some 1
  | 12 => some 4
  | _ => none
def k_ar (k : Nat) : Option Nat := match k with
  | 2 => some 20
  | 4 => some 20
  | 5 => some 20
  | 6 => some 20
  | 10 => some 60
  | _ => none
def k_fl (k i : Nat) (f : Nat → Int32) (r : Nat → Nat → Nat) : List KV := match k with
  | 0 => [vR 1 0, vR 1 1, vR 1 2, vR 7 0, vR 9 0, vR 11 0, vI (f 6), vI (f 7), vI (f 8), vI (f 9)]
  | 1 => [vR 2 i, vR 3 i, vR 4 i, vR 5 i, vR 6 i, vI (f 5), vI (f 6), vI (f 7)]
  | 7 => [vR 8 0, vI (f 1)]
  | 9 => [vR 10 0, vI (f 1)]
  | 11 => [vR 12 0, vR 12 (r 11 1), vR 12 (r 11 2)]
  | 12 => [vR 13 i]
  | _ => []
/-- which fields are numbers -/
def k_nf (k j : Nat) : Bool := match k with
  | 0 => decide (6 ≤ j) && decide (j ≤ 9)
  | 1 => decide (5 ≤ j) && decide (j ≤ 7)
  | 7 => j == 1
  | 9 => j == 1
  | _ => false
def k_cv (b : Nat) : KV → Value
  | .inl v => v
  | .inr q => .ref (b + k_off q.1 q.2)
def k_cat : KV → Nat
  | .inl v => v.category
  | .inr _ => 1
theorem k_cat_eq (b : Nat) (v : KV) : (k_cv b v).category = k_cat v := by cases v <;> rfl
def k_ce (G : KG) (k i : Nat) (f : Nat → Int32) (w : Nat → Int64) (r : Nat → Nat → Nat) : va_E := match k_oc k with
  | some ci => .inr (ci, (k_fl k i f r).map (k_cv G.1))
  | none => match k_ar k with
    | some n => .inl (G.2.2.1, n, .inl f)
    | none => if k = 3 then .inl (G.2.2.2.1, 20, .inl f) else if k = 13 then .inl (G.2.2.2.2.1, 245, .inr (.inl w)) else .inl (G.2.2.2.2.2, 5, .inr (.inr (.inr (.inr (fun j => some (G.1 + k_off 1 (r 8 j)))))))
theorem k_ce_obj {G : KG} {k i ci : Nat} {f : Nat → Int32} {w : Nat → Int64} {r : Nat → Nat → Nat} (h : k_oc k = some ci) : k_ce G k i f w r = .inr (ci, (k_fl k i f r).map (k_cv G.1)) := by unfold k_ce; rw [h]
theorem k_ce_ar {G : KG} {k i n : Nat} {f : Nat → Int32} {w : Nat → Int64} {r : Nat → Nat → Nat} (h0 : k_oc k = none) (h : k_ar k = some n) : k_ce G k i f w r = .inl (G.2.2.1, n, .inl f) := by unfold k_ce; rw [h0, h]
def k_HW (G : KG) (M : KM) (H : Heap) : Prop := ∀ k i, i < k_cnt k → va_at G.2.1 vwCl (G.1 + k_off k i, k_ce G k i (M.1 k i) (M.2.1 i) M.2.2) H
abbrev k_tys (G : KG) : List (ClassId × FieldType) := [(G.2.2.1, .int), (G.2.2.2.1, .boolean), (G.2.2.2.2.1, .long), (G.2.2.2.2.2, .object RX6)]
def k_rng (G : KG) (q : Nat) : Prop := G.1 ≤ q ∧ q < G.1 + 60
def k_FR (G : KG) (H0 H : Heap) : Prop := H.size = H0.size ∧ ∀ q : Nat, ¬ k_rng G q → H[q]? = H0[q]?
theorem k_FR.rf {G : KG} {H : Heap} : k_FR G H H := ⟨rfl, fun _ _ => rfl⟩
theorem k_FR.tr {G : KG} {H0 H H1 : Heap} (h : k_FR G H0 H) (h1 : k_FR G H H1) : k_FR G H0 H1 := ⟨h1.1.trans h.1, fun q hq => (h1.2 q hq).trans (h.2 q hq)⟩
/-- locals -/
def k_lc (b : Nat) : Nat → List (Option KV) → List (Nat × Value)
  | _, [] => []
  | n, none :: r => k_lc b (n + 1) r
  | n, some v :: r => (n, k_cv b v) :: k_lc b (n + 1) r
theorem k_lc_mem {b : Nat} : ∀ (loc : List (Option KV)) (n : Nat) (q : Nat × Value), q ∈ k_lc b n loc ↔ ∃ (j : Nat) (v : KV), loc[j]? = some (some v) ∧ q = (n + j, k_cv b v)
  | [], n, q => by simp [k_lc]
  | none :: r, n, q => by
    rw [k_lc, k_lc_mem r (n + 1) q]
    constructor
    · rintro ⟨j, v, h1, h2⟩
      exact ⟨j + 1, v, by simpa using h1, by rw [h2]; congr 1; omega⟩
    · rintro ⟨j, v, h1, h2⟩
      cases j with
      | zero => simp at h1
      | succ j => exact ⟨j, v, by simpa using h1, by rw [h2]; congr 1; omega⟩
  | some u :: r, n, q => by
    rw [k_lc, List.mem_cons, k_lc_mem r (n + 1) q]
    constructor
    · rintro (h | ⟨j, v, h1, h2⟩)
      · exact ⟨0, u, rfl, h⟩
      · exact ⟨j + 1, v, by simpa using h1, by rw [h2]; congr 1; omega⟩
    · rintro ⟨j, v, h1, h2⟩
      cases j with
      | zero =>
        left
        have : u = v := by simpa using h1
        rw [h2, this]; rfl
      | succ j => exact Or.inr ⟨j, v, by simpa using h1, by rw [h2]; congr 1; omega⟩
theorem k_lc_at {b nL j : Nat} {ls : Array Slot} {loc : List (Option KV)} {v : KV} (hl : lv_has ls nL (k_lc b 0 loc)) (h : loc[j]? = some (some v)) : ls[j]? = some (.val (k_cv b v)) := by
  have := hl.2.2 (j, k_cv b v) ((k_lc_mem loc 0 _).mpr ⟨j, v, h, by simp⟩)
  simpa using this
def k_nd (loc : List (Option KV)) (i : Nat) : Bool := match i with
  | 0 => true
  | j + 1 => match loc[j]? with
    | some (some v) => k_cat v == 1
    | _ => true
theorem k_lc_set {b nL i : Nat} {ls : Array Slot} {loc : List (Option KV)} {v : KV} (hd : k_nd loc i = true) (hl : lv_has ls nL ((i, k_cv b v) :: (k_lc b 0 loc).filter (fun q => !(q.1 == i) && !(q.1 + 1 == i && q.2.category == 2)))) : lv_has ls nL (k_lc b 0 (loc.set i (some v))) := by
  refine ⟨hl.1, hl.2.1, fun q hq => ?_⟩
  obtain ⟨j, u, h1, h2⟩ := (k_lc_mem _ 0 q).mp hq
  apply hl.2.2 q
  rw [h2]
  by_cases hji : j = i
  · subst hji
    have hlt : j < loc.length := by
      have := (List.getElem?_eq_some_iff.mp h1).1
      simpa using this
    rw [List.getElem?_set_self hlt] at h1
    have : v = u := by simpa using h1
    subst this
    simp
  · rw [List.getElem?_set_ne (fun e => hji e.symm)] at h1
    refine List.mem_cons_of_mem _ (List.mem_filter.mpr ⟨(k_lc_mem _ 0 _).mpr ⟨j, u, h1, rfl⟩, ?_⟩)
    simp only [Nat.zero_add, Bool.and_eq_true, Bool.not_eq_true']
    refine ⟨by simpa using hji, ?_⟩
    by_cases h3 : j + 1 = i
    · subst h3
      have h4 : k_cat u = 1 := by
        simp only [k_nd, h1] at hd
        simpa using hd
      rw [k_cat_eq, h4]
      simp
    · simp [h3]
/-- forgetting locals -/
def k_le : List (Option KV) → List (Option KV) → Prop := fun a b => ∀ (j : Nat) (v : KV), a[j]? = some (some v) → b[j]? = some (some v)
theorem k_lc_le {b nL : Nat} {ls : Array Slot} {l1 l2 : List (Option KV)} (h : k_le l1 l2) (hl : lv_has ls nL (k_lc b 0 l2)) : lv_has ls nL (k_lc b 0 l1) := by
  refine ⟨hl.1, hl.2.1, fun q hq => ?_⟩
  obtain ⟨j, u, h1, h2⟩ := (k_lc_mem _ 0 q).mp hq
  exact hl.2.2 q ((k_lc_mem _ 0 q).mpr ⟨j, u, h j u h1, h2⟩)
theorem k_le_nil {l : List (Option KV)} : k_le [] l := fun j v h => by simp at h
theorem k_le_n {u : Option KV} {a b : List (Option KV)} (h : k_le a b) : k_le (none :: a) (u :: b) := fun j v hj => by
  cases j with
  | zero => simp at hj
  | succ j => exact h j v (by simpa using hj)
theorem k_le_s {u : Option KV} {a b : List (Option KV)} (h : k_le a b) : k_le (u :: a) (u :: b) := fun j v hj => by
  cases j with
  | zero => exact hj
  | succ j => exact h j v (by simpa using hj)
/-- a method's context -/
def k_Cx (I : KI) (G : KG) (p : Program) (R : Room) (s : State) (m : MethodId) (args : Array Value) (meth : Method) (c : Code) (cells slots : Nat) : Prop :=
  p.tables.exec = Jvm.exec ∧ c.code = I.2.1 ∧ c.maxLocals = I.2.2.1 ∧ meth.sig.returnType = I.2.2.2.1 ∧ s.vm.findClass I.1.cls = some m.cls ∧ meth.locks = false ∧ (∀ w ∈ k_tb, w.before args s = true) ∧ va_K G.2.1 vwCl (k_tys G) s ∧ R.frames = I.2.2.2.2.frames ∧ R.locals = I.2.2.2.2.locals ∧ cells ≤ R.cells ∧ slots ≤ R.slots
abbrev KZ : Type := KG → Heap → Program → Launch → Env → Room → State → MethodId → Array Value → List Frame → Method → Code → Nat → Nat → (State → Prop) → Prop
def Go (I : KI) (Z : KZ) (M : KM) (loc : List (Option KV)) (st : List KV) (pc : Nat) : Prop :=
  ∀ (G : KG) (Hb : Heap) (p : Program) (l : Launch) (e : Env) (R : Room) (s : State) (m : MethodId) (args : Array Value) (below : List Frame) (meth : Method) (c : Code) (cells slots : Nat) (Qf : State → Prop),
    k_Cx I G p R s m args meth c cells slots → Z G Hb p l e R s m args below meth c cells slots Qf →
    ∀ (H : Heap) (ls : Array Slot) (locs : List Loc), k_HW G M H → k_FR G Hb H → (∀ q ∈ locs, k_rng G q.base) → lv_has ls I.2.2.1 (k_lc G.1 0 loc) →
      W p l e R s m args below meth c H locs cells slots Qf (F0 m pc ls (st.map (k_cv G.1)))
/-- a method's end -/
def k_Q (G : KG) (Q : Option KV → KM → Prop) : Array Value → State → Outcome → State → Prop := fun _ st o t => (∃ (r : Option KV) (M' : KM), Q r M' ∧ o = .returned (r.map (k_cv G.1)) ∧ k_HW G M' t.heap) ∧ k_FR G st.heap t.heap
def k_P (G : KG) (as : List KV) (M : KM) : Array Value → State → Prop := fun v U => v = (as.map (k_cv G.1)).toArray ∧ k_HW G M U.heap ∧ va_K G.2.1 vwCl (k_tys G) U
def Zm (Q : Option KV → KM → Prop) : KZ := fun G Hb _ _ _ _ s _ args below _ _ cells slots Qf => Hb = s.heap ∧ cells = 0 ∧ slots = 0 ∧ Qf = MQ below (k_Q G Q) args s 0 0 (k_rng G)
abbrev k_ws (I : KI) : List Cond := .code I.1 I.2.1 I.2.2.1 I.2.2.2.1 :: k_tb
def Ok (I : KI) (as : List KV) (M : KM) (Q : Option KV → KM → Prop) : Prop := ∀ (l : Launch) (G : KG), Met l I.1 (k_ws I) I.2.2.2.2 (k_P G as M) (k_Q G Q) 0 0 (k_rng G)
/-- a method that answers one value, and leaves one memory -/
def OkF (I : KI) (as : List KV) (M : KM) (r : Option KV) (M' : KM) : Prop := Ok I as M (fun a b => a = r ∧ b = M')
theorem k_lc_rep {b : Nat} : ∀ (l : List (Option KV)) (n k : Nat), k_lc b k (l ++ List.replicate n none) = k_lc b k l
  | [], 0, _ => rfl
  | [], n + 1, k => by
    show k_lc b k (List.replicate (n + 1) none) = _
    rw [List.replicate_succ, k_lc]
    exact k_lc_rep [] n (k + 1)
  | none :: r, n, k => by
    show k_lc b k (none :: (r ++ _)) = _
    rw [k_lc, k_lc]
    exact k_lc_rep r n (k + 1)
  | some v :: r, n, k => by
    show k_lc b k (some v :: (r ++ _)) = _
    rw [k_lc, k_lc, k_lc_rep r n (k + 1)]
theorem k_lc_args {b : Nat} : ∀ (as : List KV) (k : Nat), (∀ v ∈ as, k_cat v = 1) → lv_args k (as.map (k_cv b)) = k_lc b k (as.map some)
  | [], _, _ => rfl
  | v :: r, k, h => by
    have h1 : (k_cv b v).category = 1 := by rw [k_cat_eq]; exact h v List.mem_cons_self
    show lv_args k (k_cv b v :: r.map (k_cv b)) = k_lc b k (some v :: r.map some)
    rw [lv_args, k_lc, if_neg (by rw [h1]; decide), k_lc_args r (k + 1) (fun w hw => h w (List.mem_cons_of_mem _ hw))]
theorem k_sl_len {b : Nat} : ∀ (as : List KV), (∀ v ∈ as, k_cat v = 1) → (lg_sl (as.map (k_cv b))).length = as.length
  | [], _ => rfl
  | v :: r, h => by
    have h1 : (k_cv b v).category = 1 := by rw [k_cat_eq]; exact h v List.mem_cons_self
    have h2 := k_sl_len (b := b) r (fun w hw => h w (List.mem_cons_of_mem _ hw))
    unfold lg_sl at h2 ⊢
    rw [List.map_cons, List.flatMap_cons, if_neg (by rw [h1]; decide), List.length_append, h2]
    simp; omega
theorem ok_of {I : KI} {as : List KV} {M : KM} {Q : Option KV → KM → Prop} (hn : plainName I.1.cls = true) (hc : as.all (fun v => k_cat v == 1) = true) (hlen : as.length ≤ I.2.2.1)
    (hrm : I.2.2.2.2.cells = 0 ∧ I.2.2.2.2.slots = 0) (h : Go I (Zm Q) M (as.map some ++ List.replicate (I.2.2.1 - as.length) none) [] 0) : Ok I as M Q := by
  intro l G
  refine Met.ofW (cc := I.2.1) (maxL := I.2.2.1) (ret := I.2.2.2.1) (ws' := k_tb) hn rfl ?_
  intro p e s m args below meth c s₁ B hml hv
  obtain ⟨rfl, hW, hK⟩ := hv
  have hcat : ∀ v ∈ as, k_cat v = 1 := fun v hv => by simpa using List.all_eq_true.mp hc v hv
  have hts := atoms_spec (ws := k_ws I) B.pre
  have hl := lv_entry (as.map (k_cv G.1)) (n := I.2.2.1) (by rw [k_sl_len as hcat]; exact hlen)
  rw [lg_entry_eq]
  rw [k_lc_args as 0 hcat, ← k_lc_rep (as.map some) (I.2.2.1 - as.length) 0] at hl
  exact h G s.heap p l e _ s m _ below meth c 0 0 _ ⟨B.exec, B.bytes, hml, B.returns, findClass_of_methodNamed B.named, B.notSynchronized, fun w hw => hts w (List.mem_cons_of_mem _ hw), hK, rfl, rfl, Nat.zero_le _, Nat.zero_le _⟩ ⟨rfl, rfl, rfl, rfl⟩ s.heap _ [] hW k_FR.rf (fun q hq => by cases hq) hl
/-- entering a goal -/
theorem go_weak {I : KI} {Z : KZ} {M : KM} {l1 l2 : List (Option KV)} {st : List KV} {pc : Nat} (hle : k_le l1 l2) (h : Go I Z M l1 st pc) : Go I Z M l2 st pc := by
  intro G Hb p l e R s m args below meth c cells slots Qf hC hZ H ls locs hW hF hL hl
  exact h G Hb p l e R s m args below meth c cells slots Qf hC hZ H ls locs hW hF hL (k_lc_le hle hl)
theorem k_P1 {D : va_G} {a : Nat} {e : va_E} {H : Heap} (h : va_at D vwCl (a, e) H) : va_P D vwCl [(a, e)] H := fun k q hq => by
  cases k with
  | zero =>
    have : (a, e) = q := by simpa using hq
    rw [← this]; exact h
  | succ k => simp at hq
end
section
theorem go_iadd {I : KI} {Z : KZ} {M : KM} {loc : List (Option KV)} {st : List KV} {pc q : Nat} {x y : Int32} (hd : decode I.2.1 pc = .ok (.iadd, 1))  (hq : pc + 1 = q) (h : Go I Z M loc (vI (x + y) :: st) q) : Go I Z M loc (vI y :: vI x :: st) pc := by
  subst hq
  intro G Hb p l e R s m args below meth c cells slots Qf hC hZ H ls locs hW hF hL hl
  obtain ⟨hx, hb, hml, hrt, hown, hlk, hts, hK, hRf, hRl, hce, hsl⟩ := id hC
  exact lv_iadd hx hb hd  (h G Hb p l e R s m args below meth c cells slots Qf hC hZ H ls locs hW hF hL hl)
theorem go_isub {I : KI} {Z : KZ} {M : KM} {loc : List (Option KV)} {st : List KV} {pc q : Nat} {x y : Int32} (hd : decode I.2.1 pc = .ok (.isub, 1))  (hq : pc + 1 = q) (h : Go I Z M loc (vI (x - y) :: st) q) : Go I Z M loc (vI y :: vI x :: st) pc := by
  subst hq
  intro G Hb p l e R s m args below meth c cells slots Qf hC hZ H ls locs hW hF hL hl
  obtain ⟨hx, hb, hml, hrt, hown, hlk, hts, hK, hRf, hRl, hce, hsl⟩ := id hC
  exact lv_isub hx hb hd  (h G Hb p l e R s m args below meth c cells slots Qf hC hZ H ls locs hW hF hL hl)
theorem go_imul {I : KI} {Z : KZ} {M : KM} {loc : List (Option KV)} {st : List KV} {pc q : Nat} {x y : Int32} (hd : decode I.2.1 pc = .ok (.imul, 1))  (hq : pc + 1 = q) (h : Go I Z M loc (vI (x * y) :: st) q) : Go I Z M loc (vI y :: vI x :: st) pc := by
  subst hq
  intro G Hb p l e R s m args below meth c cells slots Qf hC hZ H ls locs hW hF hL hl
  obtain ⟨hx, hb, hml, hrt, hown, hlk, hts, hK, hRf, hRl, hce, hsl⟩ := id hC
  exact lv_imul hx hb hd  (h G Hb p l e R s m args below meth c cells slots Qf hC hZ H ls locs hW hF hL hl)
theorem go_iand {I : KI} {Z : KZ} {M : KM} {loc : List (Option KV)} {st : List KV} {pc q : Nat} {x y : Int32} (hd : decode I.2.1 pc = .ok (.iand, 1))  (hq : pc + 1 = q) (h : Go I Z M loc (vI (x &&& y) :: st) q) : Go I Z M loc (vI y :: vI x :: st) pc := by
  subst hq
  intro G Hb p l e R s m args below meth c cells slots Qf hC hZ H ls locs hW hF hL hl
  obtain ⟨hx, hb, hml, hrt, hown, hlk, hts, hK, hRf, hRl, hce, hsl⟩ := id hC
  exact lv_iand hx hb hd  (h G Hb p l e R s m args below meth c cells slots Qf hC hZ H ls locs hW hF hL hl)
theorem go_ishr {I : KI} {Z : KZ} {M : KM} {loc : List (Option KV)} {st : List KV} {pc q : Nat} {x y : Int32} (hd : decode I.2.1 pc = .ok (.ishr, 1))  (hq : pc + 1 = q) (h : Go I Z M loc (vI (x >>> (y &&& 31)) :: st) q) : Go I Z M loc (vI y :: vI x :: st) pc := by
  subst hq
  intro G Hb p l e R s m args below meth c cells slots Qf hC hZ H ls locs hW hF hL hl
  obtain ⟨hx, hb, hml, hrt, hown, hlk, hts, hK, hRf, hRl, hce, hsl⟩ := id hC
  exact lv_ishr hx hb hd  (h G Hb p l e R s m args below meth c cells slots Qf hC hZ H ls locs hW hF hL hl)
theorem go_idiv {I : KI} {Z : KZ} {M : KM} {loc : List (Option KV)} {st : List KV} {pc q : Nat} {x y : Int32} (hd : decode I.2.1 pc = .ok (.idiv, 1)) (hne : ¬ y = 0) (hq : pc + 1 = q) (h : Go I Z M loc (vI (x / y) :: st) q) : Go I Z M loc (vI y :: vI x :: st) pc := by
  subst hq
  intro G Hb p l e R s m args below meth c cells slots Qf hC hZ H ls locs hW hF hL hl
  obtain ⟨hx, hb, hml, hrt, hown, hlk, hts, hK, hRf, hRl, hce, hsl⟩ := id hC
  exact lv_idiv hx hb hd hne (h G Hb p l e R s m args below meth c cells slots Qf hC hZ H ls locs hW hF hL hl)
theorem go_irem {I : KI} {Z : KZ} {M : KM} {loc : List (Option KV)} {st : List KV} {pc q : Nat} {x y : Int32} (hd : decode I.2.1 pc = .ok (.irem, 1)) (hne : ¬ y = 0) (hq : pc + 1 = q) (h : Go I Z M loc (vI (x - x / y * y) :: st) q) : Go I Z M loc (vI y :: vI x :: st) pc := by
  subst hq
  intro G Hb p l e R s m args below meth c cells slots Qf hC hZ H ls locs hW hF hL hl
  obtain ⟨hx, hb, hml, hrt, hown, hlk, hts, hK, hRf, hRl, hce, hsl⟩ := id hC
  exact lv_irem hx hb hd hne (h G Hb p l e R s m args below meth c cells slots Qf hC hZ H ls locs hW hF hL hl)
theorem go_land {I : KI} {Z : KZ} {M : KM} {loc : List (Option KV)} {st : List KV} {pc q : Nat} {x y : Int64} (hd : decode I.2.1 pc = .ok (.land, 1))  (hq : pc + 1 = q) (h : Go I Z M loc (vJ (x &&& y) :: st) q) : Go I Z M loc (vJ y :: vJ x :: st) pc := by
  subst hq
  intro G Hb p l e R s m args below meth c cells slots Qf hC hZ H ls locs hW hF hL hl
  obtain ⟨hx, hb, hml, hrt, hown, hlk, hts, hK, hRf, hRl, hce, hsl⟩ := id hC
  exact lv_land hx hb hd  (h G Hb p l e R s m args below meth c cells slots Qf hC hZ H ls locs hW hF hL hl)
theorem go_lor {I : KI} {Z : KZ} {M : KM} {loc : List (Option KV)} {st : List KV} {pc q : Nat} {x y : Int64} (hd : decode I.2.1 pc = .ok (.lor, 1))  (hq : pc + 1 = q) (h : Go I Z M loc (vJ (x ||| y) :: st) q) : Go I Z M loc (vJ y :: vJ x :: st) pc := by
  subst hq
  intro G Hb p l e R s m args below meth c cells slots Qf hC hZ H ls locs hW hF hL hl
  obtain ⟨hx, hb, hml, hrt, hown, hlk, hts, hK, hRf, hRl, hce, hsl⟩ := id hC
  exact lv_lor hx hb hd  (h G Hb p l e R s m args below meth c cells slots Qf hC hZ H ls locs hW hF hL hl)
theorem go_lushr {I : KI} {Z : KZ} {M : KM} {loc : List (Option KV)} {st : List KV} {pc q : Nat} {x : Int64} {y : Int32} (hd : decode I.2.1 pc = .ok (.lushr, 1))  (hq : pc + 1 = q) (h : Go I Z M loc (vJ (x.toUInt64 >>> (y.toInt64.toUInt64 &&& Int64.toUInt64 63)).toInt64 :: st) q) : Go I Z M loc (vI y :: vJ x :: st) pc := by
  subst hq
  intro G Hb p l e R s m args below meth c cells slots Qf hC hZ H ls locs hW hF hL hl
  obtain ⟨hx, hb, hml, hrt, hown, hlk, hts, hK, hRf, hRl, hce, hsl⟩ := id hC
  exact lv_lushr hx hb hd rfl (h G Hb p l e R s m args below meth c cells slots Qf hC hZ H ls locs hW hF hL hl)
theorem go_lshl {I : KI} {Z : KZ} {M : KM} {loc : List (Option KV)} {st : List KV} {pc q : Nat} {x : Int64} {y : Int32} (hd : decode I.2.1 pc = .ok (.lshl, 1))  (hq : pc + 1 = q) (h : Go I Z M loc (vJ (x <<< (y.toInt64 &&& 63)) :: st) q) : Go I Z M loc (vI y :: vJ x :: st) pc := by
  subst hq
  intro G Hb p l e R s m args below meth c cells slots Qf hC hZ H ls locs hW hF hL hl
  obtain ⟨hx, hb, hml, hrt, hown, hlk, hts, hK, hRf, hRl, hce, hsl⟩ := id hC
  exact lv_lshl hx hb hd rfl (h G Hb p l e R s m args below meth c cells slots Qf hC hZ H ls locs hW hF hL hl)
theorem go_lcmp {I : KI} {Z : KZ} {M : KM} {loc : List (Option KV)} {st : List KV} {pc q : Nat} {x y : Int64} (hd : decode I.2.1 pc = .ok (.lcmp, 1))  (hq : pc + 1 = q) (h : Go I Z M loc (vI (lg_cmp x y) :: st) q) : Go I Z M loc (vJ y :: vJ x :: st) pc := by
  subst hq
  intro G Hb p l e R s m args below meth c cells slots Qf hC hZ H ls locs hW hF hL hl
  obtain ⟨hx, hb, hml, hrt, hown, hlk, hts, hK, hRf, hRl, hce, hsl⟩ := id hC
  exact W.lcmp hx hb hd  (h G Hb p l e R s m args below meth c cells slots Qf hC hZ H ls locs hW hF hL hl)
theorem go_iconst {I : KI} {Z : KZ} {M : KM} {loc : List (Option KV)} {st : List KV} {pc q : Nat} {n : Int} {v : Int32} (hd : decode I.2.1 pc = .ok (.iconst n, 1)) (hv : Int32.ofInt n = v) (hq : pc + 1 = q) (h : Go I Z M loc (vI v :: st) q) : Go I Z M loc (st) pc := by
  subst hq
  intro G Hb p l e R s m args below meth c cells slots Qf hC hZ H ls locs hW hF hL hl
  obtain ⟨hx, hb, hml, hrt, hown, hlk, hts, hK, hRf, hRl, hce, hsl⟩ := id hC
  exact lv_iconst hx hb hd hv (h G Hb p l e R s m args below meth c cells slots Qf hC hZ H ls locs hW hF hL hl)
theorem go_bipush {I : KI} {Z : KZ} {M : KM} {loc : List (Option KV)} {st : List KV} {pc q : Nat} {n : Int} {v : Int32} (hd : decode I.2.1 pc = .ok (.bipush n, 2)) (hv : (Int8.ofInt n).toInt32 = v) (hq : pc + 2 = q) (h : Go I Z M loc (vI v :: st) q) : Go I Z M loc (st) pc := by
  subst hq
  intro G Hb p l e R s m args below meth c cells slots Qf hC hZ H ls locs hW hF hL hl
  obtain ⟨hx, hb, hml, hrt, hown, hlk, hts, hK, hRf, hRl, hce, hsl⟩ := id hC
  exact lv_bipush hx hb hd hv (h G Hb p l e R s m args below meth c cells slots Qf hC hZ H ls locs hW hF hL hl)
theorem go_sipush {I : KI} {Z : KZ} {M : KM} {loc : List (Option KV)} {st : List KV} {pc q : Nat} {n : Int} {v : Int32} (hd : decode I.2.1 pc = .ok (.sipush n, 3)) (hv : (Int16.ofInt n).toInt32 = v) (hq : pc + 3 = q) (h : Go I Z M loc (vI v :: st) q) : Go I Z M loc (st) pc := by
  subst hq
  intro G Hb p l e R s m args below meth c cells slots Qf hC hZ H ls locs hW hF hL hl
  obtain ⟨hx, hb, hml, hrt, hown, hlk, hts, hK, hRf, hRl, hce, hsl⟩ := id hC
  exact lv_sipush hx hb hd hv (h G Hb p l e R s m args below meth c cells slots Qf hC hZ H ls locs hW hF hL hl)
theorem go_lconst {I : KI} {Z : KZ} {M : KM} {loc : List (Option KV)} {st : List KV} {pc q : Nat} {n : Fin 2} {v : Int64} (hd : decode I.2.1 pc = .ok (.lconst n, 1)) (hv : Int64.ofNat (n : Nat) = v) (hq : pc + 1 = q) (h : Go I Z M loc (vJ v :: st) q) : Go I Z M loc (st) pc := by
  subst hq
  intro G Hb p l e R s m args below meth c cells slots Qf hC hZ H ls locs hW hF hL hl
  obtain ⟨hx, hb, hml, hrt, hown, hlk, hts, hK, hRf, hRl, hce, hsl⟩ := id hC
  exact lv_lconst hx hb hd hv (h G Hb p l e R s m args below meth c cells slots Qf hC hZ H ls locs hW hF hL hl)
theorem go_null {I : KI} {Z : KZ} {M : KM} {loc : List (Option KV)} {st : List KV} {pc q : Nat}  (hd : decode I.2.1 pc = .ok (.aconst_null, 1))  (hq : pc + 1 = q) (h : Go I Z M loc (vN :: st) q) : Go I Z M loc (st) pc := by
  subst hq
  intro G Hb p l e R s m args below meth c cells slots Qf hC hZ H ls locs hW hF hL hl
  obtain ⟨hx, hb, hml, hrt, hown, hlk, hts, hK, hRf, hRl, hce, hsl⟩ := id hC
  exact lv_null hx hb hd  (h G Hb p l e R s m args below meth c cells slots Qf hC hZ H ls locs hW hF hL hl)
theorem go_dconst0 {I : KI} {Z : KZ} {M : KM} {loc : List (Option KV)} {st : List KV} {pc q : Nat}  (hd : decode I.2.1 pc = .ok (.dconst 0, 1))  (hq : pc + 1 = q) (h : Go I Z M loc (vD FP.dconst0 :: st) q) : Go I Z M loc (st) pc := by
  subst hq
  intro G Hb p l e R s m args below meth c cells slots Qf hC hZ H ls locs hW hF hL hl
  obtain ⟨hx, hb, hml, hrt, hown, hlk, hts, hK, hRf, hRl, hce, hsl⟩ := id hC
  exact lv_dconst0 hx hb hd  (h G Hb p l e R s m args below meth c cells slots Qf hC hZ H ls locs hW hF hL hl)
theorem go_i2d {I : KI} {Z : KZ} {M : KM} {loc : List (Option KV)} {st : List KV} {pc q : Nat} {x : Int32} (hd : decode I.2.1 pc = .ok (.i2d, 1))  (hq : pc + 1 = q) (h : Go I Z M loc (vD (FP.i2d x) :: st) q) : Go I Z M loc (vI x :: st) pc := by
  subst hq
  intro G Hb p l e R s m args below meth c cells slots Qf hC hZ H ls locs hW hF hL hl
  obtain ⟨hx, hb, hml, hrt, hown, hlk, hts, hK, hRf, hRl, hce, hsl⟩ := id hC
  exact lv_i2d hx hb hd  (h G Hb p l e R s m args below meth c cells slots Qf hC hZ H ls locs hW hF hL hl)
theorem go_dcmp {I : KI} {Z : KZ} {M : KM} {loc : List (Option KV)} {st : List KV} {pc q : Nat} {x y : UInt64} {op : CmpOp} (hd : decode I.2.1 pc = .ok (.dcmp op, 1))  (hq : pc + 1 = q) (h : Go I Z M loc (vI (Op.cmpValue (FP.dcmp x y) op) :: st) q) : Go I Z M loc (vD y :: vD x :: st) pc := by
  subst hq
  intro G Hb p l e R s m args below meth c cells slots Qf hC hZ H ls locs hW hF hL hl
  obtain ⟨hx, hb, hml, hrt, hown, hlk, hts, hK, hRf, hRl, hce, hsl⟩ := id hC
  exact lv_dcmp hx hb hd  (h G Hb p l e R s m args below meth c cells slots Qf hC hZ H ls locs hW hF hL hl)
theorem go_ddiv {I : KI} {Z : KZ} {M : KM} {loc : List (Option KV)} {st : List KV} {pc q : Nat} {x y : UInt64} (hd : decode I.2.1 pc = .ok (.ddiv, 1)) (hne : vf_n64 (FP.ddiv x y)) (hq : pc + 1 = q) (h : Go I Z M loc (vD (FP.ddiv x y) :: st) q) : Go I Z M loc (vD y :: vD x :: st) pc := by
  subst hq
  intro G Hb p l e R s m args below meth c cells slots Qf hC hZ H ls locs hW hF hL hl
  obtain ⟨hx, hb, hml, hrt, hown, hlk, hts, hK, hRf, hRl, hce, hsl⟩ := id hC
  exact lv_ddiv hx hb hd hne (h G Hb p l e R s m args below meth c cells slots Qf hC hZ H ls locs hW hF hL hl)
theorem go_dup {I : KI} {Z : KZ} {M : KM} {loc : List (Option KV)} {st : List KV} {pc q : Nat} {a : KV} (hd : decode I.2.1 pc = .ok (.dup, 1)) (ha : k_cat a = 1) (hq : pc + 1 = q) (h : Go I Z M loc (a :: a :: st) q) : Go I Z M loc (a :: st) pc := by
  subst hq
  intro G Hb p l e R s m args below meth c cells slots Qf hC hZ H ls locs hW hF hL hl
  obtain ⟨hx, hb, hml, hrt, hown, hlk, hts, hK, hRf, hRl, hce, hsl⟩ := id hC
  exact lv_dup hx hb hd (by rw [k_cat_eq]; exact ha) (h G Hb p l e R s m args below meth c cells slots Qf hC hZ H ls locs hW hF hL hl)
theorem go_pop {I : KI} {Z : KZ} {M : KM} {loc : List (Option KV)} {st : List KV} {pc q : Nat} {a : KV} (hd : decode I.2.1 pc = .ok (.pop, 1)) (ha : k_cat a = 1) (hq : pc + 1 = q) (h : Go I Z M loc (st) q) : Go I Z M loc (a :: st) pc := by
  subst hq
  intro G Hb p l e R s m args below meth c cells slots Qf hC hZ H ls locs hW hF hL hl
  obtain ⟨hx, hb, hml, hrt, hown, hlk, hts, hK, hRf, hRl, hce, hsl⟩ := id hC
  exact lv_pop hx hb hd (by rw [k_cat_eq]; exact ha) (h G Hb p l e R s m args below meth c cells slots Qf hC hZ H ls locs hW hF hL hl)
theorem go_dup2 {I : KI} {Z : KZ} {M : KM} {loc : List (Option KV)} {st : List KV} {pc q : Nat} {a b : KV} (hd : decode I.2.1 pc = .ok (.dup2, 1)) (ha : k_cat a = 1) (hb2 : k_cat b = 1) (hq : pc + 1 = q) (h : Go I Z M loc (a :: b :: a :: b :: st) q) : Go I Z M loc (a :: b :: st) pc := by
  subst hq
  intro G Hb p l e R s m args below meth c cells slots Qf hC hZ H ls locs hW hF hL hl
  obtain ⟨hx, hb, hml, hrt, hown, hlk, hts, hK, hRf, hRl, hce, hsl⟩ := id hC
  exact lv_dup2_11 hx hb hd (by rw [k_cat_eq]; exact ha) (by rw [k_cat_eq]; exact hb2) (h G Hb p l e R s m args below meth c cells slots Qf hC hZ H ls locs hW hF hL hl)
theorem go_ifnull {I : KI} {Z : KZ} {M : KM} {loc : List (Option KV)} {st : List KV} {pc q : Nat} {k i : Nat} {off : Int} (hd : decode I.2.1 pc = .ok (.ifnull off, 3))  (hq : pc + 3 = q) (h : Go I Z M loc (st) q) : Go I Z M loc (vR k i :: st) pc := by
  subst hq
  intro G Hb p l e R s m args below meth c cells slots Qf hC hZ H ls locs hW hF hL hl
  obtain ⟨hx, hb, hml, hrt, hown, hlk, hts, hK, hRf, hRl, hce, hsl⟩ := id hC
  exact lv_ifnull hx hb hd  (h G Hb p l e R s m args below meth c cells slots Qf hC hZ H ls locs hW hF hL hl)
theorem go_goto {I : KI} {Z : KZ} {M : KM} {loc : List (Option KV)} {st : List KV} {pc q : Nat} {off : Int} (hd : decode I.2.1 pc = .ok (.goto off, 3)) (ht : (pc : Int) + off = (q : Int)) (h : Go I Z M loc st q) : Go I Z M loc st pc := by
  intro G Hb p l e R s m args below meth c cells slots Qf hC hZ H ls locs hW hF hL hl
  obtain ⟨hx, hb, hml, hrt, hown, hlk, hts, hK, hRf, hRl, hce, hsl⟩ := id hC
  exact lv_goto hx hb hd ht (h G Hb p l e R s m args below meth c cells slots Qf hC hZ H ls locs hW hF hL hl)
theorem go_ifnullN {I : KI} {Z : KZ} {M : KM} {loc : List (Option KV)} {st : List KV} {pc q : Nat} {off : Int} (hd : decode I.2.1 pc = .ok (.ifnull off, 3)) (ht : (pc : Int) + off = (q : Int)) (h : Go I Z M loc st q) : Go I Z M loc (vN :: st) pc := by
  intro G Hb p l e R s m args below meth c cells slots Qf hC hZ H ls locs hW hF hL hl
  obtain ⟨hx, hb, hml, hrt, hown, hlk, hts, hK, hRf, hRl, hce, hsl⟩ := id hC
  exact lv_ifnullN hx hb hd ht (h G Hb p l e R s m args below meth c cells slots Qf hC hZ H ls locs hW hF hL hl)
theorem go_if_eq {I : KI} {Z : KZ} {M : KM} {loc : List (Option KV)} {st : List KV} {pc q t : Nat} {x : Int32} {off : Int} (hd : decode I.2.1 pc = .ok (.ifCond .eq off, 3)) (ht : (pc : Int) + off = (t : Int)) (hq : pc + 3 = q) (ht1 : x = 0 → Go I Z M loc st t) (hf1 : ¬ (x = 0) → Go I Z M loc st q) : Go I Z M loc (vI x :: st) pc := by
  subst hq
  intro G Hb p l e R s m args below meth c cells slots Qf hC hZ H ls locs hW hF hL hl
  obtain ⟨hx, hb, hml, hrt, hown, hlk, hts, hK, hRf, hRl, hce, hsl⟩ := id hC
  exact lv_if_eq hx hb hd ht (fun z => ht1 z G Hb p l e R s m args below meth c cells slots Qf hC hZ H ls locs hW hF hL hl) (fun z => hf1 z G Hb p l e R s m args below meth c cells slots Qf hC hZ H ls locs hW hF hL hl)
theorem go_if_lt {I : KI} {Z : KZ} {M : KM} {loc : List (Option KV)} {st : List KV} {pc q t : Nat} {x : Int32} {off : Int} (hd : decode I.2.1 pc = .ok (.ifCond .lt off, 3)) (ht : (pc : Int) + off = (t : Int)) (hq : pc + 3 = q) (ht1 : x < 0 → Go I Z M loc st t) (hf1 : ¬ (x < 0) → Go I Z M loc st q) : Go I Z M loc (vI x :: st) pc := by
  subst hq
  intro G Hb p l e R s m args below meth c cells slots Qf hC hZ H ls locs hW hF hL hl
  obtain ⟨hx, hb, hml, hrt, hown, hlk, hts, hK, hRf, hRl, hce, hsl⟩ := id hC
  exact lv_if_lt hx hb hd ht (fun z => ht1 z G Hb p l e R s m args below meth c cells slots Qf hC hZ H ls locs hW hF hL hl) (fun z => hf1 z G Hb p l e R s m args below meth c cells slots Qf hC hZ H ls locs hW hF hL hl)
theorem go_if_ge {I : KI} {Z : KZ} {M : KM} {loc : List (Option KV)} {st : List KV} {pc q t : Nat} {x : Int32} {off : Int} (hd : decode I.2.1 pc = .ok (.ifCond .ge off, 3)) (ht : (pc : Int) + off = (t : Int)) (hq : pc + 3 = q) (ht1 : 0 ≤ x → Go I Z M loc st t) (hf1 : ¬ (0 ≤ x) → Go I Z M loc st q) : Go I Z M loc (vI x :: st) pc := by
  subst hq
  intro G Hb p l e R s m args below meth c cells slots Qf hC hZ H ls locs hW hF hL hl
  obtain ⟨hx, hb, hml, hrt, hown, hlk, hts, hK, hRf, hRl, hce, hsl⟩ := id hC
  exact lv_if_ge hx hb hd ht (fun z => ht1 z G Hb p l e R s m args below meth c cells slots Qf hC hZ H ls locs hW hF hL hl) (fun z => hf1 z G Hb p l e R s m args below meth c cells slots Qf hC hZ H ls locs hW hF hL hl)
theorem go_if_gt {I : KI} {Z : KZ} {M : KM} {loc : List (Option KV)} {st : List KV} {pc q t : Nat} {x : Int32} {off : Int} (hd : decode I.2.1 pc = .ok (.ifCond .gt off, 3)) (ht : (pc : Int) + off = (t : Int)) (hq : pc + 3 = q) (ht1 : 0 < x → Go I Z M loc st t) (hf1 : ¬ (0 < x) → Go I Z M loc st q) : Go I Z M loc (vI x :: st) pc := by
  subst hq
  intro G Hb p l e R s m args below meth c cells slots Qf hC hZ H ls locs hW hF hL hl
  obtain ⟨hx, hb, hml, hrt, hown, hlk, hts, hK, hRf, hRl, hce, hsl⟩ := id hC
  exact lv_if_gt hx hb hd ht (fun z => ht1 z G Hb p l e R s m args below meth c cells slots Qf hC hZ H ls locs hW hF hL hl) (fun z => hf1 z G Hb p l e R s m args below meth c cells slots Qf hC hZ H ls locs hW hF hL hl)
theorem go_if_le {I : KI} {Z : KZ} {M : KM} {loc : List (Option KV)} {st : List KV} {pc q t : Nat} {x : Int32} {off : Int} (hd : decode I.2.1 pc = .ok (.ifCond .le off, 3)) (ht : (pc : Int) + off = (t : Int)) (hq : pc + 3 = q) (ht1 : x ≤ 0 → Go I Z M loc st t) (hf1 : ¬ (x ≤ 0) → Go I Z M loc st q) : Go I Z M loc (vI x :: st) pc := by
  subst hq
  intro G Hb p l e R s m args below meth c cells slots Qf hC hZ H ls locs hW hF hL hl
  obtain ⟨hx, hb, hml, hrt, hown, hlk, hts, hK, hRf, hRl, hce, hsl⟩ := id hC
  exact lv_if_le hx hb hd ht (fun z => ht1 z G Hb p l e R s m args below meth c cells slots Qf hC hZ H ls locs hW hF hL hl) (fun z => hf1 z G Hb p l e R s m args below meth c cells slots Qf hC hZ H ls locs hW hF hL hl)
theorem go_if_ne {I : KI} {Z : KZ} {M : KM} {loc : List (Option KV)} {st : List KV} {pc q t : Nat} {x : Int32} {off : Int} (hd : decode I.2.1 pc = .ok (.ifCond .ne off, 3)) (ht : (pc : Int) + off = (t : Int)) (hq : pc + 3 = q) (ht1 : x ≠ 0 → Go I Z M loc st t) (hf1 : ¬ (x ≠ 0) → Go I Z M loc st q) : Go I Z M loc (vI x :: st) pc := by
  subst hq
  intro G Hb p l e R s m args below meth c cells slots Qf hC hZ H ls locs hW hF hL hl
  obtain ⟨hx, hb, hml, hrt, hown, hlk, hts, hK, hRf, hRl, hce, hsl⟩ := id hC
  exact lv_if_ne hx hb hd ht (fun z => ht1 z G Hb p l e R s m args below meth c cells slots Qf hC hZ H ls locs hW hF hL hl) (fun z => hf1 (fun z2 => z2 z) G Hb p l e R s m args below meth c cells slots Qf hC hZ H ls locs hW hF hL hl)
theorem go_icmp_eq {I : KI} {Z : KZ} {M : KM} {loc : List (Option KV)} {st : List KV} {pc q t : Nat} {x y : Int32} {off : Int} (hd : decode I.2.1 pc = .ok (.if_icmp .eq off, 3)) (ht : (pc : Int) + off = (t : Int)) (hq : pc + 3 = q) (ht1 : x = y → Go I Z M loc st t) (hf1 : ¬ (x = y) → Go I Z M loc st q) : Go I Z M loc (vI y :: vI x :: st) pc := by
  subst hq
  intro G Hb p l e R s m args below meth c cells slots Qf hC hZ H ls locs hW hF hL hl
  obtain ⟨hx, hb, hml, hrt, hown, hlk, hts, hK, hRf, hRl, hce, hsl⟩ := id hC
  exact lv_icmp_eq hx hb hd ht (fun z => ht1 z G Hb p l e R s m args below meth c cells slots Qf hC hZ H ls locs hW hF hL hl) (fun z => hf1 z G Hb p l e R s m args below meth c cells slots Qf hC hZ H ls locs hW hF hL hl)
theorem go_icmp_lt {I : KI} {Z : KZ} {M : KM} {loc : List (Option KV)} {st : List KV} {pc q t : Nat} {x y : Int32} {off : Int} (hd : decode I.2.1 pc = .ok (.if_icmp .lt off, 3)) (ht : (pc : Int) + off = (t : Int)) (hq : pc + 3 = q) (ht1 : x < y → Go I Z M loc st t) (hf1 : ¬ (x < y) → Go I Z M loc st q) : Go I Z M loc (vI y :: vI x :: st) pc := by
  subst hq
  intro G Hb p l e R s m args below meth c cells slots Qf hC hZ H ls locs hW hF hL hl
  obtain ⟨hx, hb, hml, hrt, hown, hlk, hts, hK, hRf, hRl, hce, hsl⟩ := id hC
  exact lv_icmp_lt hx hb hd ht (fun z => ht1 z G Hb p l e R s m args below meth c cells slots Qf hC hZ H ls locs hW hF hL hl) (fun z => hf1 z G Hb p l e R s m args below meth c cells slots Qf hC hZ H ls locs hW hF hL hl)
theorem go_icmp_ge {I : KI} {Z : KZ} {M : KM} {loc : List (Option KV)} {st : List KV} {pc q t : Nat} {x y : Int32} {off : Int} (hd : decode I.2.1 pc = .ok (.if_icmp .ge off, 3)) (ht : (pc : Int) + off = (t : Int)) (hq : pc + 3 = q) (ht1 : y ≤ x → Go I Z M loc st t) (hf1 : ¬ (y ≤ x) → Go I Z M loc st q) : Go I Z M loc (vI y :: vI x :: st) pc := by
  subst hq
  intro G Hb p l e R s m args below meth c cells slots Qf hC hZ H ls locs hW hF hL hl
  obtain ⟨hx, hb, hml, hrt, hown, hlk, hts, hK, hRf, hRl, hce, hsl⟩ := id hC
  exact lv_icmp_ge hx hb hd ht (fun z => ht1 z G Hb p l e R s m args below meth c cells slots Qf hC hZ H ls locs hW hF hL hl) (fun z => hf1 z G Hb p l e R s m args below meth c cells slots Qf hC hZ H ls locs hW hF hL hl)
theorem go_icmp_gt {I : KI} {Z : KZ} {M : KM} {loc : List (Option KV)} {st : List KV} {pc q t : Nat} {x y : Int32} {off : Int} (hd : decode I.2.1 pc = .ok (.if_icmp .gt off, 3)) (ht : (pc : Int) + off = (t : Int)) (hq : pc + 3 = q) (ht1 : y < x → Go I Z M loc st t) (hf1 : ¬ (y < x) → Go I Z M loc st q) : Go I Z M loc (vI y :: vI x :: st) pc := by
  subst hq
  intro G Hb p l e R s m args below meth c cells slots Qf hC hZ H ls locs hW hF hL hl
  obtain ⟨hx, hb, hml, hrt, hown, hlk, hts, hK, hRf, hRl, hce, hsl⟩ := id hC
  exact lv_icmp_gt hx hb hd ht (fun z => ht1 z G Hb p l e R s m args below meth c cells slots Qf hC hZ H ls locs hW hF hL hl) (fun z => hf1 z G Hb p l e R s m args below meth c cells slots Qf hC hZ H ls locs hW hF hL hl)
theorem go_icmp_le {I : KI} {Z : KZ} {M : KM} {loc : List (Option KV)} {st : List KV} {pc q t : Nat} {x y : Int32} {off : Int} (hd : decode I.2.1 pc = .ok (.if_icmp .le off, 3)) (ht : (pc : Int) + off = (t : Int)) (hq : pc + 3 = q) (ht1 : x ≤ y → Go I Z M loc st t) (hf1 : ¬ (x ≤ y) → Go I Z M loc st q) : Go I Z M loc (vI y :: vI x :: st) pc := by
  subst hq
  intro G Hb p l e R s m args below meth c cells slots Qf hC hZ H ls locs hW hF hL hl
  obtain ⟨hx, hb, hml, hrt, hown, hlk, hts, hK, hRf, hRl, hce, hsl⟩ := id hC
  exact lv_icmp_le hx hb hd ht (fun z => ht1 z G Hb p l e R s m args below meth c cells slots Qf hC hZ H ls locs hW hF hL hl) (fun z => hf1 z G Hb p l e R s m args below meth c cells slots Qf hC hZ H ls locs hW hF hL hl)
theorem go_icmp_ne {I : KI} {Z : KZ} {M : KM} {loc : List (Option KV)} {st : List KV} {pc q t : Nat} {x y : Int32} {off : Int} (hd : decode I.2.1 pc = .ok (.if_icmp .ne off, 3)) (ht : (pc : Int) + off = (t : Int)) (hq : pc + 3 = q) (ht1 : x ≠ y → Go I Z M loc st t) (hf1 : ¬ (x ≠ y) → Go I Z M loc st q) : Go I Z M loc (vI y :: vI x :: st) pc := by
  subst hq
  intro G Hb p l e R s m args below meth c cells slots Qf hC hZ H ls locs hW hF hL hl
  obtain ⟨hx, hb, hml, hrt, hown, hlk, hts, hK, hRf, hRl, hce, hsl⟩ := id hC
  exact lv_icmp_ne hx hb hd ht (fun z => ht1 z G Hb p l e R s m args below meth c cells slots Qf hC hZ H ls locs hW hF hL hl) (fun z => hf1 (fun z2 => z2 z) G Hb p l e R s m args below meth c cells slots Qf hC hZ H ls locs hW hF hL hl)
theorem go_iload_n {I : KI} {Z : KZ} {M : KM} {loc : List (Option KV)} {st : List KV} {pc q : Nat} {k : Fin 4} {i : Nat} {x : Int32} (hd : decode I.2.1 pc = .ok (.iload_n k, 1)) (hi : (k : Nat) = i) (hv : loc[i]? = some (some (vI x))) (hq : pc + 1 = q) (h : Go I Z M loc (vI x :: st) q) : Go I Z M loc st pc := by
  subst hq
  intro G Hb p l e R s m args below meth c cells slots Qf hC hZ H ls locs hW hF hL hl
  obtain ⟨hx, hb, hml, hrt, hown, hlk, hts, hK, hRf, hRl, hce, hsl⟩ := id hC
  exact lv_iload_n hx hb hd hi (k_lc_at hl hv) (h G Hb p l e R s m args below meth c cells slots Qf hC hZ H ls locs hW hF hL hl)
theorem go_iload {I : KI} {Z : KZ} {M : KM} {loc : List (Option KV)} {st : List KV} {pc q : Nat} {i : Nat} {x : Int32} (hd : decode I.2.1 pc = .ok (.iload i, 2))  (hv : loc[i]? = some (some (vI x))) (hq : pc + 2 = q) (h : Go I Z M loc (vI x :: st) q) : Go I Z M loc st pc := by
  subst hq
  intro G Hb p l e R s m args below meth c cells slots Qf hC hZ H ls locs hW hF hL hl
  obtain ⟨hx, hb, hml, hrt, hown, hlk, hts, hK, hRf, hRl, hce, hsl⟩ := id hC
  exact lv_iload hx hb hd (k_lc_at hl hv) (h G Hb p l e R s m args below meth c cells slots Qf hC hZ H ls locs hW hF hL hl)
theorem go_dload_n {I : KI} {Z : KZ} {M : KM} {loc : List (Option KV)} {st : List KV} {pc q : Nat} {k : Fin 4} {i : Nat} {x : UInt64} (hd : decode I.2.1 pc = .ok (.dload_n k, 1)) (hi : (k : Nat) = i) (hv : loc[i]? = some (some (vD x))) (hq : pc + 1 = q) (h : Go I Z M loc (vD x :: st) q) : Go I Z M loc st pc := by
  subst hq
  intro G Hb p l e R s m args below meth c cells slots Qf hC hZ H ls locs hW hF hL hl
  obtain ⟨hx, hb, hml, hrt, hown, hlk, hts, hK, hRf, hRl, hce, hsl⟩ := id hC
  exact lv_dload_n hx hb hd hi (k_lc_at hl hv) (h G Hb p l e R s m args below meth c cells slots Qf hC hZ H ls locs hW hF hL hl)
theorem go_dload {I : KI} {Z : KZ} {M : KM} {loc : List (Option KV)} {st : List KV} {pc q : Nat} {i : Nat} {x : UInt64} (hd : decode I.2.1 pc = .ok (.dload i, 2))  (hv : loc[i]? = some (some (vD x))) (hq : pc + 2 = q) (h : Go I Z M loc (vD x :: st) q) : Go I Z M loc st pc := by
  subst hq
  intro G Hb p l e R s m args below meth c cells slots Qf hC hZ H ls locs hW hF hL hl
  obtain ⟨hx, hb, hml, hrt, hown, hlk, hts, hK, hRf, hRl, hce, hsl⟩ := id hC
  exact lv_dload hx hb hd (k_lc_at hl hv) (h G Hb p l e R s m args below meth c cells slots Qf hC hZ H ls locs hW hF hL hl)
theorem go_aload_n {I : KI} {Z : KZ} {M : KM} {loc : List (Option KV)} {st : List KV} {pc q : Nat} {k : Fin 4} {i a b : Nat} (hd : decode I.2.1 pc = .ok (.aload_n k, 1)) (hi : (k : Nat) = i) (hv : loc[i]? = some (some (vR a b))) (hq : pc + 1 = q) (h : Go I Z M loc (vR a b :: st) q) : Go I Z M loc st pc := by
  subst hq
  intro G Hb p l e R s m args below meth c cells slots Qf hC hZ H ls locs hW hF hL hl
  obtain ⟨hx, hb, hml, hrt, hown, hlk, hts, hK, hRf, hRl, hce, hsl⟩ := id hC
  exact lv_aload_n hx hb hd hi (k_lc_at hl hv) (h G Hb p l e R s m args below meth c cells slots Qf hC hZ H ls locs hW hF hL hl)
theorem go_aload {I : KI} {Z : KZ} {M : KM} {loc : List (Option KV)} {st : List KV} {pc q : Nat} {i a b : Nat} (hd : decode I.2.1 pc = .ok (.aload i, 2))  (hv : loc[i]? = some (some (vR a b))) (hq : pc + 2 = q) (h : Go I Z M loc (vR a b :: st) q) : Go I Z M loc st pc := by
  subst hq
  intro G Hb p l e R s m args below meth c cells slots Qf hC hZ H ls locs hW hF hL hl
  obtain ⟨hx, hb, hml, hrt, hown, hlk, hts, hK, hRf, hRl, hce, hsl⟩ := id hC
  exact lv_aload hx hb hd (k_lc_at hl hv) (h G Hb p l e R s m args below meth c cells slots Qf hC hZ H ls locs hW hF hL hl)
theorem go_istore_n {I : KI} {Z : KZ} {M : KM} {loc : List (Option KV)} {st : List KV} {pc q : Nat} {k : Fin 4} {i : Nat} {x : Int32} (hd : decode I.2.1 pc = .ok (.istore_n k, 1)) (hi : (k : Nat) = i) (hn : i < I.2.2.1) (hc : k_nd loc i = true) (hq : pc + 1 = q) (h : Go I Z M (loc.set i (some (vI x))) st q) : Go I Z M loc (vI x :: st) pc := by
  subst hq
  intro G Hb p l e R s m args below meth c cells slots Qf hC hZ H ls locs hW hF hL hl
  obtain ⟨hx, hb, hml, hrt, hown, hlk, hts, hK, hRf, hRl, hce, hsl⟩ := id hC
  exact lv_istore_n hx hb hd hi hl hn rfl (fun ls' hl' => h G Hb p l e R s m args below meth c cells slots Qf hC hZ H ls' locs hW hF hL (k_lc_set hc hl'))
theorem go_istore {I : KI} {Z : KZ} {M : KM} {loc : List (Option KV)} {st : List KV} {pc q : Nat} {i : Nat} {x : Int32} (hd : decode I.2.1 pc = .ok (.istore i, 2))  (hn : i < I.2.2.1) (hc : k_nd loc i = true) (hq : pc + 2 = q) (h : Go I Z M (loc.set i (some (vI x))) st q) : Go I Z M loc (vI x :: st) pc := by
  subst hq
  intro G Hb p l e R s m args below meth c cells slots Qf hC hZ H ls locs hW hF hL hl
  obtain ⟨hx, hb, hml, hrt, hown, hlk, hts, hK, hRf, hRl, hce, hsl⟩ := id hC
  exact lv_istore hx hb hd hl hn rfl (fun ls' hl' => h G Hb p l e R s m args below meth c cells slots Qf hC hZ H ls' locs hW hF hL (k_lc_set hc hl'))
theorem go_astore_n {I : KI} {Z : KZ} {M : KM} {loc : List (Option KV)} {st : List KV} {pc q : Nat} {k : Fin 4} {i a b : Nat} (hd : decode I.2.1 pc = .ok (.astore_n k, 1)) (hi : (k : Nat) = i) (hn : i < I.2.2.1) (hc : k_nd loc i = true) (hq : pc + 1 = q) (h : Go I Z M (loc.set i (some (vR a b))) st q) : Go I Z M loc (vR a b :: st) pc := by
  subst hq
  intro G Hb p l e R s m args below meth c cells slots Qf hC hZ H ls locs hW hF hL hl
  obtain ⟨hx, hb, hml, hrt, hown, hlk, hts, hK, hRf, hRl, hce, hsl⟩ := id hC
  exact lv_astore_n hx hb hd hi hl hn rfl (fun ls' hl' => h G Hb p l e R s m args below meth c cells slots Qf hC hZ H ls' locs hW hF hL (k_lc_set hc hl'))
theorem go_astore {I : KI} {Z : KZ} {M : KM} {loc : List (Option KV)} {st : List KV} {pc q : Nat} {i a b : Nat} (hd : decode I.2.1 pc = .ok (.astore i, 2))  (hn : i < I.2.2.1) (hc : k_nd loc i = true) (hq : pc + 2 = q) (h : Go I Z M (loc.set i (some (vR a b))) st q) : Go I Z M loc (vR a b :: st) pc := by
  subst hq
  intro G Hb p l e R s m args below meth c cells slots Qf hC hZ H ls locs hW hF hL hl
  obtain ⟨hx, hb, hml, hrt, hown, hlk, hts, hK, hRf, hRl, hce, hsl⟩ := id hC
  exact lv_astore hx hb hd hl hn rfl (fun ls' hl' => h G Hb p l e R s m args below meth c cells slots Qf hC hZ H ls' locs hW hF hL (k_lc_set hc hl'))
theorem go_iinc {I : KI} {Z : KZ} {M : KM} {loc : List (Option KV)} {st : List KV} {pc q : Nat} {i : Nat} {n : Int} {x v : Int32} (hd : decode I.2.1 pc = .ok (.iinc i n, 3)) (hv : Int32.ofInt n = v) (hx0 : loc[i]? = some (some (vI x))) (hn : i < I.2.2.1) (hc : k_nd loc i = true) (hq : pc + 3 = q) (h : Go I Z M (loc.set i (some (vI (x + v)))) st q) : Go I Z M loc st pc := by
  subst hq; subst hv
  intro G Hb p l e R s m args below meth c cells slots Qf hC hZ H ls locs hW hF hL hl
  obtain ⟨hx, hb, hml, hrt, hown, hlk, hts, hK, hRf, hRl, hce, hsl⟩ := id hC
  obtain ⟨k, hk⟩ := List.mem_iff_getElem?.mp ((k_lc_mem loc 0 (i, .int x)).mpr ⟨i, vI x, hx0, by simp [k_cv]⟩)
  exact lv_iinc hx hb hd hl hk rfl hn rfl (fun ls' hl' => h G Hb p l e R s m args below meth c cells slots Qf hC hZ H ls' locs hW hF hL (k_lc_set hc hl'))
theorem go_ireti {I : KI} {Q : Option KV → KM → Prop} {M : KM} {loc : List (Option KV)} {pc : Nat} {x : Int32} (hd : decode I.2.1 pc = .ok (.ireturn, 1)) (hr : I.2.2.2.1 = some .int)  (h : Q (some (vI x)) M) : Go I (Zm Q) M loc ([vI x]) pc := by
  intro G Hb p l e R s m args below meth c cells slots Qf hC hZ H ls locs hW hF hL hl
  obtain ⟨hx, hb, hml, hrt, hown, hlk, hts, hK, hRf, hRl, hce, hsl⟩ := id hC
  obtain ⟨rfl, rfl, rfl, rfl⟩ := hZ
  exact W.iret hx hb (hrt.trans hr) (fun t ht _ => ⟨⟨_, M, h, rfl, by rw [ht]; exact hW⟩, by rw [ht]; exact hF⟩) hL hd (hlocks := hlk)
theorem go_iretz {I : KI} {Q : Option KV → KM → Prop} {M : KM} {loc : List (Option KV)} {pc : Nat} {x : Int32} (hd : decode I.2.1 pc = .ok (.ireturn, 1)) (hr : I.2.2.2.1 = some .boolean) (hz : narrow .boolean (.int x) = .int x) (h : Q (some (vI x)) M) : Go I (Zm Q) M loc ([vI x]) pc := by
  intro G Hb p l e R s m args below meth c cells slots Qf hC hZ H ls locs hW hF hL hl
  obtain ⟨hx, hb, hml, hrt, hown, hlk, hts, hK, hRf, hRl, hce, hsl⟩ := id hC
  obtain ⟨rfl, rfl, rfl, rfl⟩ := hZ
  exact W.zret hx hb (hrt.trans hr) hz (fun t ht _ => ⟨⟨_, M, h, rfl, by rw [ht]; exact hW⟩, by rw [ht]; exact hF⟩) hL hd (hlocks := hlk)
theorem go_vret {I : KI} {Q : Option KV → KM → Prop} {M : KM} {loc : List (Option KV)} {pc : Nat}  (hd : decode I.2.1 pc = .ok (.return_, 1)) (hr : I.2.2.2.1 = none)  (h : Q (none) M) : Go I (Zm Q) M loc ([]) pc := by
  intro G Hb p l e R s m args below meth c cells slots Qf hC hZ H ls locs hW hF hL hl
  obtain ⟨hx, hb, hml, hrt, hown, hlk, hts, hK, hRf, hRl, hce, hsl⟩ := id hC
  obtain ⟨rfl, rfl, rfl, rfl⟩ := hZ
  exact W.vret hx hb (hrt.trans hr) (fun t ht _ => ⟨⟨_, M, h, rfl, by rw [ht]; exact hW⟩, by rw [ht]; exact hF⟩) hL hd (hlocks := hlk)
theorem go_dret {I : KI} {Q : Option KV → KM → Prop} {M : KM} {loc : List (Option KV)} {pc : Nat} {x : UInt64} (hd : decode I.2.1 pc = .ok (.dreturn, 1)) (hr : I.2.2.2.1 = some .double)  (h : Q (some (vD x)) M) : Go I (Zm Q) M loc ([vD x]) pc := by
  intro G Hb p l e R s m args below meth c cells slots Qf hC hZ H ls locs hW hF hL hl
  obtain ⟨hx, hb, hml, hrt, hown, hlk, hts, hK, hRf, hRl, hce, hsl⟩ := id hC
  obtain ⟨rfl, rfl, rfl, rfl⟩ := hZ
  exact W.dret hx hb (hrt.trans hr) (fun t ht _ => ⟨⟨_, M, h, rfl, by rw [ht]; exact hW⟩, by rw [ht]; exact hF⟩) hL hd (hlocks := hlk)
theorem go_aret {I : KI} {Q : Option KV → KM → Prop} {M : KM} {loc : List (Option KV)} {pc : Nat} {a b : Nat} {C : String} (hd : decode I.2.1 pc = .ok (.areturn, 1)) (hr : I.2.2.2.1 = some (.object C))  (h : Q (some (vR a b)) M) : Go I (Zm Q) M loc ([vR a b]) pc := by
  intro G Hb p l e R s m args below meth c cells slots Qf hC hZ H ls locs hW hF hL hl
  obtain ⟨hx, hb, hml, hrt, hown, hlk, hts, hK, hRf, hRl, hce, hsl⟩ := id hC
  obtain ⟨rfl, rfl, rfl, rfl⟩ := hZ
  exact W.aret hx hb (hrt.trans hr) (Or.inl ⟨C, rfl⟩) (Or.inr ⟨_, rfl⟩) (fun t ht _ => ⟨⟨_, M, h, rfl, by rw [ht]; exact hW⟩, by rw [ht]; exact hF⟩) hL hd (hlocks := hlk)
/-- a field's site: in the class own, entry idx: field j of class ci -/
def KF (own : String) (idx ci j : Nat) : Prop := ∃ (C : String) (T : u_T) (N : Nat), vwCl[ci]? = some (C, T, N) ∧ j < N ∧ (∀ w ∈ u_ws C T N, w ∈ k_tb) ∧ Cond.fieldLink own idx (T j).1 (T j).2.1 (T j).2.2.1 ∈ k_tb
def KP (own : String) (idx ci j : Nat) (ty : FieldType) : Prop := ∃ (C : String) (T : u_T) (N : Nat) (ty0 : Nat → FieldType), vwCl[ci]? = some (C, T, N) ∧ j < N ∧ (∀ w ∈ u_ws C T N, w ∈ k_tb) ∧ Cond.fieldLink own idx (T j).1 (T j).2.1 (T j).2.2.1 ∈ k_tb ∧ (∀ k, k < N → parseFieldDescriptor (T k).2.2.1 = some (ty0 k)) ∧ (∀ a, a < N → ∀ b, b < N → a ≠ b → (T a).2.1 ≠ (T b).2.1) ∧ (T j).2.2.2 = false ∧ parseFieldDescriptor (T j).2.2.1 = some ty
theorem go_getf {I : KI} {Z : KZ} {M : KM} {loc : List (Option KV)} {st : List KV} {pc q idx ci j k i : Nat} {v : KV} (hd : decode I.2.1 pc = .ok (.getfield idx, 3)) (hs : KF I.1.cls idx ci j) (ho : k_oc k = some ci) (hi : i < k_cnt k) (hv : (k_fl k i (M.1 k i) M.2.2)[j]? = some v) (hq : pc + 3 = q) (h : Go I Z M loc (v :: st) q) : Go I Z M loc (vR k i :: st) pc := by
  subst hq
  intro G Hb p l e R s m args below meth c cells slots Qf hC hZ H ls locs hW hF hL hl
  obtain ⟨hx, hb, hml, hrt, hown, hlk, hts, hK, hRf, hRl, hce, hsl⟩ := id hC
  obtain ⟨C, T, N, hc, hj, hin, hlk2⟩ := hs
  have hat := hW k i hi
  rw [k_ce_obj ho] at hat
  exact va_get hx hb hts hin hown hK (k_P1 hat) 0 rfl hc j hj (hts _ hlk2) (fun _ h => h) (by rw [List.getElem?_map, hv]; rfl) hd (h G Hb p l e R s m args below meth c cells slots Qf hC hZ H ls locs hW hF hL hl)
theorem k_kinds : ∀ k, k < 14 → k_oc k = none → k_ar k = none → k ≠ 8 → k = 3 ∨ k = 13 := by decide +kernel
def k_si (M : KM) (k i j : Nat) (v : Int32) : KM := (fun a b c => if a = k ∧ c = j ∧ b = i then v else M.1 a b c, M.2)
def k_sl (M : KM) (i j : Nat) (v : Int64) : KM := (M.1, (fun b c => if b = i ∧ c = j then v else M.2.1 b c), M.2.2)
def k_sr (M : KM) (a j v : Nat) : KM := (M.1, M.2.1, fun b c => if b = a ∧ c = j then v else M.2.2 b c)
theorem k_si_self (M : KM) (k i j : Nat) (v : Int32) : (k_si M k i j v).1 k i = upd (M.1 k i) j v := by
  funext c
  simp [k_si, upd]
theorem k_si_ne (M : KM) {k i j k' i' : Nat} (v : Int32) (h : ¬ (k' = k ∧ i' = i)) : (k_si M k i j v).1 k' i' = M.1 k' i' := by
  funext c
  show (if k' = k ∧ c = j ∧ i' = i then v else M.1 k' i' c) = _
  rw [if_neg (fun z => h ⟨z.1, z.2.2⟩)]
theorem k_HW_put {G : KG} {M M' : KM} {H H1 : Heap} {k i : Nat} (hW : k_HW G M H) (hi : i < k_cnt k) (oq : ∀ q : Nat, q ≠ G.1 + k_off k i → H1[q]? = H[q]?)
    (hat : va_at G.2.1 vwCl (G.1 + k_off k i, k_ce G k i (M'.1 k i) (M'.2.1 i) M'.2.2) H1)
    (hs : ∀ k' i', i' < k_cnt k' → ¬ (k' = k ∧ i' = i) → k_ce G k' i' (M'.1 k' i') (M'.2.1 i') M'.2.2 = k_ce G k' i' (M.1 k' i') (M.2.1 i') M.2.2) : k_HW G M' H1 := by
  intro k' i' hi'
  by_cases h : k' = k ∧ i' = i
  · obtain ⟨rfl, rfl⟩ := h
    exact hat
  · rw [hs k' i' hi' h]
    refine (hW k' i' hi').kept (oq _ ?_)
    intro e
    have e' : G.1 + k_off k' i' = G.1 + k_off k i := e
    exact h (k_off_inj hi' hi (by omega))
theorem k_FR_put {G : KG} {Hb H H1 : Heap} {k i : Nat} (hF : k_FR G Hb H) (hi : i < k_cnt k) (z : H1.size = H.size) (oq : ∀ q : Nat, q ≠ G.1 + k_off k i → H1[q]? = H[q]?) : k_FR G Hb H1 := by
  refine ⟨z.trans hF.1, fun q hq => ?_⟩
  rw [oq q (fun e => hq (by rw [e]; exact ⟨Nat.le_add_right _ _, Nat.add_lt_add_left (k_off_lt hi) _⟩))]
  exact hF.2 q hq
theorem k_L_put {G : KG} {locs : List Loc} {k i t : Nat} (hL : ∀ q ∈ locs, k_rng G q.base) (hi : i < k_cnt k) : ∀ q ∈ locs ++ [(⟨G.1 + k_off k i, t⟩ : Loc)], k_rng G q.base := by
  intro q hq
  rcases List.mem_append.mp hq with h | h
  · exact hL q h
  · rw [List.mem_singleton.mp h]
    exact ⟨Nat.le_add_right _ _, Nat.add_lt_add_left (k_off_lt hi) _⟩
theorem k_fl_set {k i j : Nat} {f : Nat → Int32} {r : Nat → Nat → Nat} {v : Int32} (h : k_nf k j = true) : k_fl k i (upd f j v) r = (k_fl k i f r).set j (vI v) := by
  unfold k_nf at h
  split at h
  · have h2 : 6 ≤ j ∧ j ≤ 9 := by simpa using h
    rcases (show j = 6 ∨ j = 7 ∨ j = 8 ∨ j = 9 by omega) with rfl | rfl | rfl | rfl <;> rfl
  · have h2 : 5 ≤ j ∧ j ≤ 7 := by simpa using h
    rcases (show j = 5 ∨ j = 6 ∨ j = 7 by omega) with rfl | rfl | rfl <;> rfl
  · have h2 : j = 1 := by simpa using h
    subst h2; rfl
  · have h2 : j = 1 := by simpa using h
    subst h2; rfl
  · cases h
theorem k_fl_r {k i : Nat} {f : Nat → Int32} {r r' : Nat → Nat → Nat} (h : ∀ c, r 11 c = r' 11 c) : k_fl k i f r = k_fl k i f r' := by
  unfold k_fl
  split <;> simp [h]
section KPut
variable {p : Program} {l : Launch} {e : Env} {R : Room} {s : State} {m : MethodId} {args : Array Value} {below : List Frame} {meth : Method} {c : Code} {H : Heap} {locs : List Loc} {cells slots : Nat} {Q : State → Prop}
variable {cc : ByteArray} {pc : Nat} {ls : Array Slot} {rest : List Value} {D : va_G} {cl : List vw_C} {a : Nat} {tys : List (ClassId × FieldType)}
theorem k_putW (hexec : p.tables.exec = Jvm.exec) (hb : c.code = cc) {own C : String} {T : u_T} {N ci index : Nat} {Ts : List Cond} (hts : ∀ w ∈ Ts, w.before args s = true) (hin : ∀ w ∈ u_ws C T N, w ∈ Ts) (ty0 : Nat → FieldType) (hty : ∀ k, k < N → parseFieldDescriptor (T k).2.2.1 = some (ty0 k)) (hnm : ∀ a, a < N → ∀ b, b < N → a ≠ b → (T a).2.1 ≠ (T b).2.1) (hown : s.vm.findClass own = some m.cls) (hK : va_K D cl tys s) {fs : List Value} (hat : va_at D cl (a, .inr (ci, fs)) H) (hc : cl[ci]? = some (C, T, N)) (k : Nat) (hk : k < N) (hlink : (Cond.fieldLink own index (T k).1 (T k).2.1 (T k).2.2.1).before args s = true) (hfin : (T k).2.2.2 = false) {ty : FieldType} {v : Value} (hd : parseFieldDescriptor (T k).2.2.1 = some ty) (hn : narrow ty v = v) (hfit : fits ty v = true) (hl : k < fs.length)
    (hdg : decode cc pc = .ok (.putfield index, 3)) (kk : ∀ (H1 : Heap) (j : Nat), va_at D cl (a, .inr (ci, fs.set k v)) H1 → H1.size = H.size → (∀ q, q ≠ a → H1[q]? = H[q]?) → W p l e R s m args below meth c H1 (locs ++ [⟨a, j⟩]) cells slots Q (F0 m (pc + 3) ls rest)) : W p l e R s m args below meth c H locs cells slots Q (F0 m pc ls (v :: .ref a :: rest)) := by
  have hap := va_apart (own := own) hts hin ty0 hty hnm hK hc
  obtain ⟨r, h1, cell, q1, q2, q3, q4⟩ := hat
  have hr : r = (C, T, N) := Option.some.inj (h1.symm.trans hc)
  subst hr
  obtain ⟨hS, hfc, kC, hkC, hkind⟩ := hK.1 ci _ hc
  obtain ⟨cf, kf, fi, f, hi, hsl⟩ := hS k hk
  have hlay := hts _ (hin _ (u_in_lay hk))
  unfold u_lay at hlay
  rw [if_neg (by rw [hfin]; decide)] at hlay
  have hst := (u_facts hfc hkC (u_lays hts hin hk) hi).1
  have h6 := u_store hfc hkC hkind hlay hi hd hn hfit
  refine W.putK hexec hb (f := f) ⟨hown, hlink, ⟨_, _, _, hi⟩, hst⟩ (by rw [q2]; exact h6) q1 q3 (by rw [hsl]; exact k2_hasslot (q4 k hk)) rfl rfl hdg fun H' e1 e2 e3 => ?_
  rw [hsl] at e1
  exact kk H' _ ⟨_, hc, t_OB.to (V := updV (vp_V fs) k v) ⟨_, e1, q2, q3, t_set q4 hap hk v⟩ (fun j _ => vp_updV_set hl v j)⟩ e2 e3
end KPut
theorem go_puti {I : KI} {Z : KZ} {M : KM} {loc : List (Option KV)} {st : List KV} {pc q idx ci j k i : Nat} {v : Int32} {ty : FieldType} (hd : decode I.2.1 pc = .ok (.putfield idx, 3)) (hs : KP I.1.cls idx ci j ty) (ho : k_oc k = some ci) (hi : i < k_cnt k) (hnf : k_nf k j = true) (hn : narrow ty (.int v) = .int v) (hfit : fits ty (.int v) = true) (hl2 : j < (k_fl k i (M.1 k i) M.2.2).length) (hq : pc + 3 = q) (h : Go I Z (k_si M k i j v) loc st q) : Go I Z M loc (vI v :: vR k i :: st) pc := by
  subst hq
  intro G Hb p l e R s m args below meth c cells slots Qf hC hZ H ls locs hW hF hL hl
  obtain ⟨hx, hb, hml, hrt, hown, hlk, hts, hK, hRf, hRl, hce, hsl⟩ := id hC
  obtain ⟨C, T, N, ty0, hc, hj, hin, hlk2, hty, hnm, hfin, hpd⟩ := hs
  have hat := hW k i hi
  rw [k_ce_obj ho] at hat
  refine k_putW hx hb hts hin ty0 hty hnm hown hK hat hc j hj (hts _ hlk2) hfin hpd hn hfit (by rw [List.length_map]; exact hl2) hd (fun H1 t hat1 z oq => ?_)
  refine h G Hb p l e R s m args below meth c cells slots Qf hC hZ H1 ls _ (k_HW_put hW hi oq ?_ ?_) (k_FR_put hF hi z oq) (k_L_put hL hi) hl
  · rw [k_ce_obj ho, k_si_self]
    show va_at _ _ (_, .inr (ci, (k_fl k i (upd (M.1 k i) j v) M.2.2).map _)) _
    rw [k_fl_set hnf, List.map_set]
    exact hat1
  · intro k' i' _ hne
    rw [k_si_ne M v hne]
    rfl
theorem go_putr {I : KI} {Z : KZ} {M : KM} {loc : List (Option KV)} {st : List KV} {pc q idx j v : Nat} (hd : decode I.2.1 pc = .ok (.putfield idx, 3)) (hs : KP I.1.cls idx 1 j (.object RX7)) (hj2 : j = 1 ∨ j = 2) (hq : pc + 3 = q) (h : Go I Z (k_sr M 11 j v) loc st q) : Go I Z M loc (vR 12 v :: vR 11 0 :: st) pc := by
  subst hq
  intro G Hb p l e R s m args below meth c cells slots Qf hC hZ H ls locs hW hF hL hl
  obtain ⟨hx, hb, hml, hrt, hown, hlk, hts, hK, hRf, hRl, hce, hsl⟩ := id hC
  obtain ⟨C, T, N, ty0, hc, hj, hin, hlk2, hty, hnm, hfin, hpd⟩ := hs
  have hi : 0 < k_cnt 11 := by decide
  have hat := hW 11 0 hi
  rw [k_ce_obj (ci := 1) rfl] at hat
  refine k_putW hx hb hts hin ty0 hty hnm hown hK hat hc j hj (hts _ hlk2) hfin hpd rfl rfl (by rw [List.length_map]; rcases hj2 with rfl | rfl <;> exact Nat.le_of_ble_eq_true rfl) hd (fun H1 t hat1 z oq => ?_)
  refine h G Hb p l e R s m args below meth c cells slots Qf hC hZ H1 ls _ (k_HW_put hW hi oq ?_ ?_) (k_FR_put hF hi z oq) (k_L_put hL hi) hl
  · rw [k_ce_obj (ci := 1) rfl]
    rcases hj2 with rfl | rfl <;> exact hat1
  · intro k' i' _ hne
    have hk : ¬ k' = 11 ∨ ¬ i' = 0 := by
      by_cases z1 : k' = 11
      · exact Or.inr (fun z2 => hne ⟨z1, z2⟩)
      · exact Or.inl z1
    by_cases hk11 : k' = 11
    · subst hk11
      exfalso
      have : i' < 1 := by assumption
      omega
    · show k_ce G k' i' (M.1 k' i') (M.2.1 i') _ = _
      unfold k_ce
      have h8 : ∀ c, (k_sr M 11 j v).2.2 8 c = M.2.2 8 c := fun c => by simp [k_sr]
      have hfl : k_fl k' i' (M.1 k' i') (k_sr M 11 j v).2.2 = k_fl k' i' (M.1 k' i') M.2.2 := by
        unfold k_fl
        split <;> first | rfl | exact absurd rfl hk11
      simp only [h8, hfl]
theorem go_iald {I : KI} {Z : KZ} {M : KM} {loc : List (Option KV)} {st : List KV} {pc q k i n : Nat} (j : Nat) {x : Int32} (hd : decode I.2.1 pc = .ok (.iaload, 1)) (ho : k_oc k = none) (ha : k_ar k = some n) (hi : i < k_cnt k) (hxj : x = nI j) (hj : j < n) (hq : pc + 1 = q) (h : Go I Z M loc (vI (M.1 k i j) :: st) q) : Go I Z M loc (vI x :: vR k i :: st) pc := by
  subst hq; subst hxj
  intro G Hb p l e R s m args below meth c cells slots Qf hC hZ H ls locs hW hF hL hl
  obtain ⟨hx, hb, hml, hrt, hown, hlk, hts, hK, hRf, hRl, hce, hsl⟩ := id hC
  have hn : n ≤ 15625 := by
    unfold k_ar at ha
    split at ha <;> first | (cases ha; decide) | cases ha
  have hat := hW k i hi
  rw [k_ce_ar ho ha] at hat
  have k0 := (h G Hb p l e R s m args below meth c cells slots Qf hC hZ H ls locs hW hF hL hl)
  have hcl : (nI j).toNatClampNeg = j := nI_clamp (by omega)
  refine va_iald hx hb hK (k_P1 hat) 0 0 rfl rfl (vp_in_nI hj (by omega)) hd ?_
  rw [hcl]
  exact k0
theorem go_zald {I : KI} {Z : KZ} {M : KM} {loc : List (Option KV)} {st : List KV} {pc q i : Nat} (j : Nat) {x : Int32} (hd : decode I.2.1 pc = .ok (.baload, 1)) (hi : i < 8) (hxj : x = nI j) (hj : j < 20) (hq : pc + 1 = q) (h : Go I Z M loc (vI (M.1 3 i j) :: st) q) : Go I Z M loc (vI x :: vR 3 i :: st) pc := by
  subst hq; subst hxj
  intro G Hb p l e R s m args below meth c cells slots Qf hC hZ H ls locs hW hF hL hl
  obtain ⟨hx, hb, hml, hrt, hown, hlk, hts, hK, hRf, hRl, hce, hsl⟩ := id hC
  have hat : va_at G.2.1 vwCl (G.1 + k_off 3 i, .inl (G.2.2.2.1, 20, .inl (M.1 3 i))) H := hW 3 i hi
  have k0 := (h G Hb p l e R s m args below meth c cells slots Qf hC hZ H ls locs hW hF hL hl)
  have hcl : (nI j).toNatClampNeg = j := nI_clamp (by omega)
  refine va_zald hx hb hK (k_P1 hat) 0 1 rfl rfl (vp_in_nI hj (by omega)) hd ?_
  rw [hcl]
  exact k0
theorem go_lald {I : KI} {Z : KZ} {M : KM} {loc : List (Option KV)} {st : List KV} {pc q i : Nat} (j : Nat) {x : Int32} (hd : decode I.2.1 pc = .ok (.laload, 1)) (hi : i < 3) (hxj : x = nI j) (hj : j < 245) (hq : pc + 1 = q) (h : Go I Z M loc (vJ (M.2.1 i j) :: st) q) : Go I Z M loc (vI x :: vR 13 i :: st) pc := by
  subst hq; subst hxj
  intro G Hb p l e R s m args below meth c cells slots Qf hC hZ H ls locs hW hF hL hl
  obtain ⟨hx, hb, hml, hrt, hown, hlk, hts, hK, hRf, hRl, hce, hsl⟩ := id hC
  have hat : va_at G.2.1 vwCl (G.1 + k_off 13 i, .inl (G.2.2.2.2.1, 245, .inr (.inl (M.2.1 i)))) H := hW 13 i hi
  have k0 := (h G Hb p l e R s m args below meth c cells slots Qf hC hZ H ls locs hW hF hL hl)
  have hcl : (nI j).toNatClampNeg = j := nI_clamp (by omega)
  refine va_lald hx hb hK (k_P1 hat) 0 2 rfl rfl (vp_in_nI hj (by omega)) hd ?_
  rw [hcl]
  exact k0
theorem go_aald {I : KI} {Z : KZ} {M : KM} {loc : List (Option KV)} {st : List KV} {pc q : Nat} (j : Nat) {x : Int32} (hd : decode I.2.1 pc = .ok (.aaload, 1)) (hxj : x = nI j) (hj : j < 5) (hq : pc + 1 = q) (h : Go I Z M loc (vR 1 (M.2.2 8 j) :: st) q) : Go I Z M loc (vI x :: vR 8 0 :: st) pc := by
  subst hq; subst hxj
  intro G Hb p l e R s m args below meth c cells slots Qf hC hZ H ls locs hW hF hL hl
  obtain ⟨hx, hb, hml, hrt, hown, hlk, hts, hK, hRf, hRl, hce, hsl⟩ := id hC
  have hat : va_at G.2.1 vwCl (G.1 + k_off 8 0, .inl (G.2.2.2.2.2, 5, .inr (.inr (.inr (.inr (fun j => some (G.1 + k_off 1 (M.2.2 8 j)))))))) H := hW 8 0 (by decide)
  have k0 := (h G Hb p l e R s m args below meth c cells slots Qf hC hZ H ls locs hW hF hL hl)
  have hcl : (nI j).toNatClampNeg = j := nI_clamp (by omega)
  refine va_aldq hx hb hK (k_P1 hat) 0 3 rfl rfl (vp_in_nI hj (by omega)) hd ?_
  rw [hcl]
  exact k0
theorem go_iast {I : KI} {Z : KZ} {M : KM} {loc : List (Option KV)} {st : List KV} {pc q k i n : Nat} (j : Nat) {x v : Int32} (hd : decode I.2.1 pc = .ok (.iastore, 1)) (ho : k_oc k = none) (ha : k_ar k = some n) (hi : i < k_cnt k) (hxj : x = nI j) (hj : j < n) (hq : pc + 1 = q) (h : Go I Z (k_si M k i j v) loc st q) : Go I Z M loc (vI v :: vI x :: vR k i :: st) pc := by
  subst hq; subst hxj
  intro G Hb p l e R s m args below meth c cells slots Qf hC hZ H ls locs hW hF hL hl
  obtain ⟨hx, hb, hml, hrt, hown, hlk, hts, hK, hRf, hRl, hce, hsl⟩ := id hC
  have hn : n ≤ 15625 := by
    unfold k_ar at ha
    split at ha <;> first | (cases ha; decide) | cases ha
  have hat := hW k i hi
  rw [k_ce_ar ho ha] at hat
  have hcl : (nI j).toNatClampNeg = j := nI_clamp (by omega)
  refine W.iast hx hb hat ((hK.2 0 _ rfl).1 n (fun j => .int (M.1 k i j))) (fun q => by cases q) (by show ¬ (nI j < 0 ∨ (arrV _ _ _).slots.size ≤ _); rw [arrV_size]; exact vp_in_nI (N := n) hj (by omega)) rfl rfl hd fun H1 e1 z oq => ?_
  refine h G Hb p l e R s m args below meth c cells slots Qf hC hZ H1 ls _ (k_HW_put hW hi oq ?_ ?_) (k_FR_put hF hi z oq) (k_L_put hL hi) hl
  · rw [k_ce_ar ho ha, k_si_self]
    show H1[_]? = some (vp_cell _ _)
    rw [e1, hcl]
    rw [vp_cell_i, vp_cell_i, arrV_store]
    congr 2
    funext q
    by_cases hq : q = j <;> simp [updV, upd, hq]
  · intro k' i' _ hne
    rw [k_si_ne M v hne]
    rfl
theorem go_zast {I : KI} {Z : KZ} {M : KM} {loc : List (Option KV)} {st : List KV} {pc q i : Nat} (j : Nat) {x v : Int32} (hd : decode I.2.1 pc = .ok (.bastore, 1)) (hi : i < 8) (hxj : x = nI j) (hj : j < 20) (hv : narrow .boolean (.int v) = .int v) (hq : pc + 1 = q) (h : Go I Z (k_si M 3 i j v) loc st q) : Go I Z M loc (vI v :: vI x :: vR 3 i :: st) pc := by
  subst hq; subst hxj
  intro G Hb p l e R s m args below meth c cells slots Qf hC hZ H ls locs hW hF hL hl
  obtain ⟨hx, hb, hml, hrt, hown, hlk, hts, hK, hRf, hRl, hce, hsl⟩ := id hC
  have hat : va_at G.2.1 vwCl (G.1 + k_off 3 i, .inl (G.2.2.2.1, 20, .inl (M.1 3 i))) H := hW 3 i hi
  have hcl : (nI j).toNatClampNeg = j := nI_clamp (by omega)
  refine W.zast hx hb hat ((hK.2 1 _ rfl).1 20 (fun j => .int (M.1 3 i j))) (fun q => by cases q) (by show ¬ (nI j < 0 ∨ (arrV _ _ _).slots.size ≤ _); rw [arrV_size]; exact vp_in_nI (N := 20) hj (by decide)) rfl rfl hd fun H1 e1 z oq => ?_
  refine h G Hb p l e R s m args below meth c cells slots Qf hC hZ H1 ls _ (k_HW_put hW hi oq ?_ ?_) (k_FR_put hF hi z oq) (k_L_put hL hi) hl
  · show va_at _ _ (_, .inl (G.2.2.2.1, 20, .inl ((k_si M 3 i j v).1 3 i))) _
    rw [k_si_self]
    show H1[_]? = some (vp_cell _ _)
    rw [e1, hcl, hv]
    rw [vp_cell_i, vp_cell_i, arrV_store]
    congr 2
    funext q
    by_cases hq : q = j <;> simp [updV, upd, hq]
  · intro k' i' _ hne
    rw [k_si_ne M v hne]
    rfl
section KLast
variable {p : Program} {l : Launch} {e : Env} {R : Room} {s : State} {m : MethodId} {args : Array Value} {below : List Frame} {meth : Method} {c : Code} {H : Heap} {locs : List Loc} {cells slots : Nat} {Q : State → Prop}
variable {cc : ByteArray} {pc : Nat} {ls : Array Slot} {rest : List Value} {a : Nat}
theorem k_last0 (hexec : p.tables.exec = Jvm.exec) (hb : c.code = cc) {cA : ClassId} {n j : Nat} {f : Nat → Int64} {v : Int64} (hc : H[a]? = some (vp_cell cA (n, .inr (.inl f)))) (hA : ArrOfT s cA .long) (hj : j < n) (hn : n < 2 ^ 31) (hd : decode cc pc = .ok (.lastore, 1))
    (kk : ∀ H1 : Heap, H1[a]? = some (vp_cell cA (n, .inr (.inl (vp_updL f j v)))) → H1.size = H.size → (∀ q, q ≠ a → H1[q]? = H[q]?) → W p l e R s m args below meth c H1 (locs ++ [⟨a, j⟩]) cells slots Q (F0 m (pc + 1) ls rest)) : W p l e R s m args below meth c H locs cells slots Q (F0 m pc ls (.long v :: .int (nI j) :: .ref a :: rest)) := by
  have hcl : (nI j).toNatClampNeg = j := nI_clamp (by omega)
  refine W.last hexec hb hc (hA n (fun j => .long (f j))) (fun q => by cases q) (by show ¬ (nI j < 0 ∨ (arrV _ _ _).slots.size ≤ _); rw [arrV_size]; exact vp_in_nI (N := n) hj hn) rfl rfl hd fun H1 e1 z oq => ?_
  rw [hcl] at e1 ⊢
  refine kk H1 ?_ z oq
  rw [e1]
  rw [vp_cell_l, vp_cell_l, arrV_store]
  congr 2
  funext q
  by_cases hq : q = j <;> simp [updV, vp_updL, hq]
end KLast
theorem k_sl_self (M : KM) (i j : Nat) (v : Int64) : (k_sl M i j v).2.1 i = vp_updL (M.2.1 i) j v := by
  funext c
  simp [k_sl, vp_updL]
theorem go_last {I : KI} {Z : KZ} {M : KM} {loc : List (Option KV)} {st : List KV} {pc q i : Nat} (j : Nat) {x : Int32} {v : Int64} (hd : decode I.2.1 pc = .ok (.lastore, 1)) (hi : i < 3) (hxj : x = nI j) (hj : j < 245) (hq : pc + 1 = q) (h : Go I Z (k_sl M i j v) loc st q) : Go I Z M loc (vJ v :: vI x :: vR 13 i :: st) pc := by
  subst hq; subst hxj
  intro G Hb p l e R s m args below meth c cells slots Qf hC hZ H ls locs hW hF hL hl
  obtain ⟨hx, hb, hml, hrt, hown, hlk, hts, hK, hRf, hRl, hce, hsl⟩ := id hC
  have hat : va_at G.2.1 vwCl (G.1 + k_off 13 i, .inl (G.2.2.2.2.1, 245, .inr (.inl (M.2.1 i)))) H := hW 13 i hi
  refine k_last0 hx hb hat (hK.2 2 _ rfl).1 hj (by decide) hd fun H1 e1 z oq => ?_
  refine h G Hb p l e R s m args below meth c cells slots Qf hC hZ H1 ls _ (k_HW_put (k := 13) (i := i) hW hi oq ?_ ?_) (k_FR_put (k := 13) (i := i) hF hi z oq) (k_L_put (k := 13) (i := i) hL hi) hl
  · show va_at _ _ (_, .inl (G.2.2.2.2.1, 245, .inr (.inl ((k_sl M i j v).2.1 i)))) H1
    rw [k_sl_self]
    exact e1
  · intro k' i' hi' hne
    show k_ce G k' i' (M.1 k' i') ((k_sl M i j v).2.1 i') M.2.2 = _
    by_cases h1 : i' = i
    · have h13 : ¬ k' = 13 := fun z => hne ⟨z, h1⟩
      unfold k_ce
      simp [h13]
    · have h2 : (k_sl M i j v).2.1 i' = M.2.1 i' := by funext c; simp [k_sl, h1]
      rw [h2]
theorem go_aast {I : KI} {Z : KZ} {M : KM} {loc : List (Option KV)} {st : List KV} {pc q v : Nat} (j : Nat) {x : Int32} (hd : decode I.2.1 pc = .ok (.aastore, 1)) (hv8 : v < 8) (hxj : x = nI j) (hj : j < 5) (hq : pc + 1 = q) (h : Go I Z (k_sr M 8 j v) loc st q) : Go I Z M loc (vR 1 v :: vI x :: vR 8 0 :: st) pc := by
  subst hq; subst hxj
  intro G Hb p l e R s m args below meth c cells slots Qf hC hZ H ls locs hW hF hL hl
  obtain ⟨hx, hb, hml, hrt, hown, hlk, hts, hK, hRf, hRl, hce, hsl⟩ := id hC
  have hat : va_at G.2.1 vwCl (G.1 + k_off 8 0, .inl (G.2.2.2.2.2, 5, .inr (.inr (.inr (.inr (fun j => some (G.1 + k_off 1 (M.2.2 8 j)))))))) H := hW 8 0 (by decide)
  have hi : 0 < k_cnt 8 := by decide
  have hcl : (nI j).toNatClampNeg = j := nI_clamp (by omega)
  obtain ⟨r', hr', cellV, g1, g2, g3, -⟩ := hW 1 v hv8
  have hr3 : (RX6, TX6, 8) = r' := Option.some.inj ((show vwCl[3]? = some (RX6, TX6, 8) from rfl).symm.trans hr')
  subst hr3
  have hcls := (hK.1 3 (RX6, TX6, 8) rfl).2
  obtain ⟨kA, comp, k1, k2, k3, -⟩ := (hK.2 3 _ rfl).2
  have hcomp : comp = G.2.1.1 3 := Option.some.inj (k3.symm.trans hcls.1)
  subst hcomp
  obtain ⟨kC, hkC, -⟩ := hcls.2
  refine W.aast hx hb hat (fun q h => by cases h) (fun h => by cases h) k1 k2 rfl hkC ⟨fun q => vp_in_nI hj (by omega) (Or.inl q), by show _ < (arrV _ _ _).slots.size; rw [arrV_size, hcl]; exact hj⟩ g1 (fun q h => by rw [g3] at h; cases h) (by rw [g2]; exact hkC) (by rw [g2]; exact va_assign hcls) rfl rfl hd fun H1 e1 z oq => ?_
  refine h G Hb p l e R s m args below meth c cells slots Qf hC hZ H1 ls _ (k_HW_put (k := 8) (i := 0) hW hi oq ?_ ?_) (k_FR_put (k := 8) (i := 0) hF hi z oq) (k_L_put (k := 8) (i := 0) hL hi) hl
  · show H1[_]? = some (vp_cell _ (5, .inr (.inr (.inr (.inr (fun t => some (G.1 + k_off 1 ((k_sr M 8 j v).2.2 8 t))))))))
    rw [e1, hcl]
    rw [vp_cell_q, vp_cell_q, arrV_store]
    congr 2
    funext q
    by_cases hq : q = j <;> simp [updV, k_sr, va_rf, hq]
  · intro k' i' hi' hne
    have h8 : ¬ k' = 8 := by
      intro z1
      subst z1
      have : i' < 1 := hi'
      exact hne ⟨rfl, by omega⟩
    show k_ce G k' i' (M.1 k' i') (M.2.1 i') (k_sr M 8 j v).2.2 = _
    have h11 : ∀ c, (k_sr M 8 j v).2.2 11 c = M.2.2 11 c := fun c => by simp [k_sr]
    unfold k_ce
    rw [k_fl_r h11]
    split
    · rfl
    · rename_i ho
      split
      · rfl
      · rename_i hr
        have h22 := (k_cnt22 hi').1
        rcases k_kinds k' h22 ho hr h8 with rfl | rfl <;> rfl
theorem k_goodIn {w0 : Cond} (h : w0 ∈ k_tb) : GoodIn k_tb (w0 :: k_tb) := by
  intro w hw
  have hm : w ∈ k_tb := by
    rcases List.mem_cons.mp hw with rfl | h1
    · exact h
    · exact h1
  exact ⟨hm, good_of_word (List.mem_filter.mp hm).2⟩
def KC (I : KI) (n : Nat) : Prop := Cond.code I.1 I.2.1 I.2.2.1 I.2.2.2.1 ∈ k_tb ∧ Cond.initialized I.1.cls ∈ k_tb ∧ (I.1.cls ≠ "java/lang/invoke/MethodHandle" ∧ I.1.cls ≠ "java/lang/invoke/VarHandle" ∧ (parseMethodDescriptor I.1.desc).map (fun d => d.parameters.length) = some n) ∧ I.2.2.2.2.cells = 0 ∧ I.2.2.2.2.slots = 0
def KCV (I : KI) (n : Nat) : Prop := KC I n ∧ Cond.instanceMethod I.1 ∈ k_tb ∧ Cond.selects I.1.cls I.1 I.1 ∈ k_tb
def KCS (I : KI) (n : Nat) : Prop := KC I n ∧ Cond.static I.1 ∈ k_tb
abbrev KR (I cal : KI) : Prop := cal.2.2.2.2.frames + 1 ≤ I.2.2.2.2.frames ∧ 8 + (cal.2.2.1 + 11) + cal.2.2.2.2.locals ≤ I.2.2.2.2.locals
theorem k_catsum {b : Nat} (rest : List KV) : ((rest.map (k_cv b)).map (fun v => v.category)).sum = (rest.map k_cat).sum := by
  rw [List.map_map]
  congr 1
  apply List.map_congr_left
  intro v _
  exact k_cat_eq b v
theorem k_blind {G : KG} {as : List KV} {M : KM} : FrameBlind (k_P G as M) := fun a U g mk h => ⟨h.1, h.2.1, va_K.moved (u := U) (U := U.calling g mk a) (Vm.Alike.refl U.vm) h.2.2⟩
theorem go_callV {I cal : KI} {Z : KZ} {M : KM} {loc : List (Option KV)} {rest : List KV} {pc q idx n k i : Nat} (as : List KV) {Q1 : Option KV → KM → Prop} (hd : decode I.2.1 pc = .ok (.invokevirtual idx, 3)) (hlink : Cond.methodLink I.1.cls idx cal.1 ∈ k_tb) (hc : KCV cal n) (hR : KR I cal) (hn : as.length = n) (hcls : (k_oc k).bind (fun ci => (vwCl[ci]?).map (fun q => q.1)) = some cal.1.cls) (hi : i < k_cnt k) (hr : (rest.map k_cat).sum ≤ 8) (hok : Ok cal (vR k i :: as) M Q1) (hq : pc + 3 = q) (kk : ∀ r M1, Q1 r M1 → Go I Z M1 loc (r.toList ++ rest) q) : Go I Z M loc (as.reverse ++ vR k i :: rest) pc := by
  subst hq
  intro G Hb p l e R s m args below meth c cells slots Qf hC hZ H ls locs hW hF hL hl
  obtain ⟨hx, hb, hml, hrt, hown, hlk, hts, hK, hRf, hRl, hce, hsl⟩ := id hC
  obtain ⟨⟨hcode, hini, hdd, hrc, hrs⟩, hinst, hsel⟩ := hc
  have hG := k_goodIn hcode
  have hcw := callB_of (R := R) (s := s) (args := args) (own := I.1.cls) (index := idx) n hts hG rfl hrc hrs (hts _ hini) (hts _ hlink) hdd (by rw [hRf, hRl]; exact hR)
  obtain ⟨ci, hci, hcq⟩ := Option.bind_eq_some_iff.mp hcls
  obtain ⟨qd, hqd, hqe⟩ := Option.map_eq_some_iff.mp hcq
  have hat := hW k i hi
  rw [k_ce_obj hci] at hat
  have hrec := va_recv hK (k_P1 hat) hqd (q0 := 0) rfl
  rw [hqe] at hrec
  have hrun := va_runV (p := p) (l := l) (e := e) (R := R) (below := below) (meth := meth) (H := H) (locs := locs) (cells := cells) (slots := slots) (As := as.map (k_cv G.1)) (rest := rest.map (k_cv G.1)) (g := F0 m pc ls ((as.reverse ++ vR k i :: rest).map (k_cv G.1))) ⟨hx, hb, hml, hown, hts⟩ (hok l G) ⟨hcw, hts _ hinst, hts _ hsel⟩
    ⟨k_blind, hrec, fun U hU hw => ⟨rfl, by rw [hU]; exact hW, va_K.moved hw.alike hK⟩⟩ rfl (by rw [List.length_map]; exact hn) hl.1 (by simp [k_cv]) (lv_room (by rw [k_catsum]; exact hr)) hd ⟨hce, hsl⟩
  intro T hT X
  obtain ⟨v, st₀, t, T', L, h0, X', hLf, e1, e2, ⟨⟨r, M1, hQ, hv, hW1⟩, hF1⟩, st9⟩ := hrun T hT X
  have hv2 : v = r.map (k_cv G.1) := by injection hv
  subst hv2
  rw [h0] at hF1
  have hst : (r.map (k_cv G.1)).toList ++ rest.map (k_cv G.1) = (r.toList ++ rest).map (k_cv G.1) := by cases r <;> simp
  rw [hst] at st9
  obtain ⟨t2, a1, b1⟩ := kk r M1 hQ G Hb p l e R s m args below meth c cells slots Qf hC hZ t.heap ls (locs ++ L) hW1 (hF.tr hF1) (fun q hq => by
    rcases List.mem_append.mp hq with h | h
    · exact hL q h
    · exact hLf q h) hl T' e1 X'
  exact ⟨t2, st9 t2 a1, b1⟩
theorem go_callS {I cal : KI} {Z : KZ} {M : KM} {loc : List (Option KV)} {rest : List KV} {pc q idx n : Nat} (as : List KV) {Q1 : Option KV → KM → Prop} (hd : decode I.2.1 pc = .ok (.invokestatic idx, 3)) (hlink : Cond.methodLink I.1.cls idx cal.1 ∈ k_tb) (hc : KCS cal n) (hR : KR I cal) (hn : as.length = n) (hr : (rest.map k_cat).sum ≤ 8) (hok : Ok cal as M Q1) (hq : pc + 3 = q) (kk : ∀ r M1, Q1 r M1 → Go I Z M1 loc (r.toList ++ rest) q) : Go I Z M loc (as.reverse ++ rest) pc := by
  subst hq
  intro G Hb p l e R s m args below meth c cells slots Qf hC hZ H ls locs hW hF hL hl
  obtain ⟨hx, hb, hml, hrt, hown, hlk, hts, hK, hRf, hRl, hce, hsl⟩ := id hC
  obtain ⟨⟨hcode, hini, hdd, hrc, hrs⟩, hstat⟩ := hc
  have hG := k_goodIn hcode
  have hcw := callB_of (R := R) (s := s) (args := args) (own := I.1.cls) (index := idx) n hts hG rfl hrc hrs (hts _ hini) (hts _ hlink) hdd (by rw [hRf, hRl]; exact hR)
  have hrun := va_runS (p := p) (l := l) (e := e) (R := R) (below := below) (meth := meth) (H := H) (locs := locs) (cells := cells) (slots := slots) (As := as.map (k_cv G.1)) (rest := rest.map (k_cv G.1)) (g := F0 m pc ls ((as.reverse ++ rest).map (k_cv G.1))) ⟨hx, hb, hml, hown, hts⟩ (hok l G) ⟨hcw, hts _ hstat⟩
    ⟨k_blind, fun U hU hw => ⟨rfl, by rw [hU]; exact hW, va_K.moved hw.alike hK⟩⟩ rfl (by rw [List.length_map]; exact hn) hl.1 (by simp) (lv_room (by rw [k_catsum]; exact hr)) hd ⟨hce, hsl⟩
  intro T hT X
  obtain ⟨v, st₀, t, T', L, h0, X', hLf, e1, e2, ⟨⟨r, M1, hQ, hv, hW1⟩, hF1⟩, st9⟩ := hrun T hT X
  have hv2 : v = r.map (k_cv G.1) := by injection hv
  subst hv2
  rw [h0] at hF1
  have hst : (r.map (k_cv G.1)).toList ++ rest.map (k_cv G.1) = (r.toList ++ rest).map (k_cv G.1) := by cases r <;> simp
  rw [hst] at st9
  obtain ⟨t2, a1, b1⟩ := kk r M1 hQ G Hb p l e R s m args below meth c cells slots Qf hC hZ t.heap ls (locs ++ L) hW1 (hF.tr hF1) (fun q hq => by
    rcases List.mem_append.mp hq with h | h
    · exact hL q h
    · exact hLf q h) hl T' e1 X'
  exact ⟨t2, st9 t2 a1, b1⟩
theorem go_cV0 {I cal : KI} {Z : KZ} {M M1 : KM} {loc : List (Option KV)} {rest : List KV} {pc q idx : Nat} {k i : Nat} {v : KV} (hd : decode I.2.1 pc = .ok (.invokevirtual idx, 3)) (hlink : Cond.methodLink I.1.cls idx cal.1 ∈ k_tb) (hc : KCV cal 0) (hR : KR I cal) (hcls : (k_oc k).bind (fun ci => (vwCl[ci]?).map (fun q => q.1)) = some cal.1.cls) (hi : i < k_cnt k) (hr : (rest.map k_cat).sum ≤ 8) (hok : OkF cal (vR k i :: []) M (some v) M1) (hq : pc + 3 = q) (kk : Go I Z M1 loc (v :: rest) q) : Go I Z M loc (vR k i :: rest) pc :=
  go_callV [] hd hlink hc hR rfl hcls hi hr hok hq (fun r M2 hrm => by obtain ⟨rfl, rfl⟩ := hrm; exact kk)
theorem go_uV0 {I cal : KI} {Z : KZ} {M M1 : KM} {loc : List (Option KV)} {rest : List KV} {pc q idx : Nat} {k i : Nat}  (hd : decode I.2.1 pc = .ok (.invokevirtual idx, 3)) (hlink : Cond.methodLink I.1.cls idx cal.1 ∈ k_tb) (hc : KCV cal 0) (hR : KR I cal) (hcls : (k_oc k).bind (fun ci => (vwCl[ci]?).map (fun q => q.1)) = some cal.1.cls) (hi : i < k_cnt k) (hr : (rest.map k_cat).sum ≤ 8) (hok : OkF cal (vR k i :: []) M none M1) (hq : pc + 3 = q) (kk : Go I Z M1 loc rest q) : Go I Z M loc (vR k i :: rest) pc :=
  go_callV [] hd hlink hc hR rfl hcls hi hr hok hq (fun r M2 hrm => by obtain ⟨rfl, rfl⟩ := hrm; exact kk)
theorem go_cS0 {I cal : KI} {Z : KZ} {M M1 : KM} {loc : List (Option KV)} {rest : List KV} {pc q idx : Nat}  {v : KV} (hd : decode I.2.1 pc = .ok (.invokestatic idx, 3)) (hlink : Cond.methodLink I.1.cls idx cal.1 ∈ k_tb) (hc : KCS cal 0) (hR : KR I cal)  (hr : (rest.map k_cat).sum ≤ 8) (hok : OkF cal [] M (some v) M1) (hq : pc + 3 = q) (kk : Go I Z M1 loc (v :: rest) q) : Go I Z M loc (rest) pc :=
  go_callS [] hd hlink hc hR rfl hr hok hq (fun r M2 hrm => by obtain ⟨rfl, rfl⟩ := hrm; exact kk)
theorem go_uS0 {I cal : KI} {Z : KZ} {M M1 : KM} {loc : List (Option KV)} {rest : List KV} {pc q idx : Nat}   (hd : decode I.2.1 pc = .ok (.invokestatic idx, 3)) (hlink : Cond.methodLink I.1.cls idx cal.1 ∈ k_tb) (hc : KCS cal 0) (hR : KR I cal)  (hr : (rest.map k_cat).sum ≤ 8) (hok : OkF cal [] M none M1) (hq : pc + 3 = q) (kk : Go I Z M1 loc rest q) : Go I Z M loc (rest) pc :=
  go_callS [] hd hlink hc hR rfl hr hok hq (fun r M2 hrm => by obtain ⟨rfl, rfl⟩ := hrm; exact kk)
theorem go_cV1 {I cal : KI} {Z : KZ} {M M1 : KM} {loc : List (Option KV)} {rest : List KV} {pc q idx : Nat} {a0 : KV} {k i : Nat} {v : KV} (hd : decode I.2.1 pc = .ok (.invokevirtual idx, 3)) (hlink : Cond.methodLink I.1.cls idx cal.1 ∈ k_tb) (hc : KCV cal 1) (hR : KR I cal) (hcls : (k_oc k).bind (fun ci => (vwCl[ci]?).map (fun q => q.1)) = some cal.1.cls) (hi : i < k_cnt k) (hr : (rest.map k_cat).sum ≤ 8) (hok : OkF cal (vR k i :: [a0]) M (some v) M1) (hq : pc + 3 = q) (kk : Go I Z M1 loc (v :: rest) q) : Go I Z M loc (a0 :: vR k i :: rest) pc :=
  go_callV [a0] hd hlink hc hR rfl hcls hi hr hok hq (fun r M2 hrm => by obtain ⟨rfl, rfl⟩ := hrm; exact kk)
theorem go_uV1 {I cal : KI} {Z : KZ} {M M1 : KM} {loc : List (Option KV)} {rest : List KV} {pc q idx : Nat} {a0 : KV} {k i : Nat}  (hd : decode I.2.1 pc = .ok (.invokevirtual idx, 3)) (hlink : Cond.methodLink I.1.cls idx cal.1 ∈ k_tb) (hc : KCV cal 1) (hR : KR I cal) (hcls : (k_oc k).bind (fun ci => (vwCl[ci]?).map (fun q => q.1)) = some cal.1.cls) (hi : i < k_cnt k) (hr : (rest.map k_cat).sum ≤ 8) (hok : OkF cal (vR k i :: [a0]) M none M1) (hq : pc + 3 = q) (kk : Go I Z M1 loc rest q) : Go I Z M loc (a0 :: vR k i :: rest) pc :=
  go_callV [a0] hd hlink hc hR rfl hcls hi hr hok hq (fun r M2 hrm => by obtain ⟨rfl, rfl⟩ := hrm; exact kk)
theorem go_cS1 {I cal : KI} {Z : KZ} {M M1 : KM} {loc : List (Option KV)} {rest : List KV} {pc q idx : Nat} {a0 : KV}  {v : KV} (hd : decode I.2.1 pc = .ok (.invokestatic idx, 3)) (hlink : Cond.methodLink I.1.cls idx cal.1 ∈ k_tb) (hc : KCS cal 1) (hR : KR I cal)  (hr : (rest.map k_cat).sum ≤ 8) (hok : OkF cal [a0] M (some v) M1) (hq : pc + 3 = q) (kk : Go I Z M1 loc (v :: rest) q) : Go I Z M loc (a0 :: rest) pc :=
  go_callS [a0] hd hlink hc hR rfl hr hok hq (fun r M2 hrm => by obtain ⟨rfl, rfl⟩ := hrm; exact kk)
theorem go_uS1 {I cal : KI} {Z : KZ} {M M1 : KM} {loc : List (Option KV)} {rest : List KV} {pc q idx : Nat} {a0 : KV}   (hd : decode I.2.1 pc = .ok (.invokestatic idx, 3)) (hlink : Cond.methodLink I.1.cls idx cal.1 ∈ k_tb) (hc : KCS cal 1) (hR : KR I cal)  (hr : (rest.map k_cat).sum ≤ 8) (hok : OkF cal [a0] M none M1) (hq : pc + 3 = q) (kk : Go I Z M1 loc rest q) : Go I Z M loc (a0 :: rest) pc :=
  go_callS [a0] hd hlink hc hR rfl hr hok hq (fun r M2 hrm => by obtain ⟨rfl, rfl⟩ := hrm; exact kk)
theorem go_cV2 {I cal : KI} {Z : KZ} {M M1 : KM} {loc : List (Option KV)} {rest : List KV} {pc q idx : Nat} {a0 a1 : KV} {k i : Nat} {v : KV} (hd : decode I.2.1 pc = .ok (.invokevirtual idx, 3)) (hlink : Cond.methodLink I.1.cls idx cal.1 ∈ k_tb) (hc : KCV cal 2) (hR : KR I cal) (hcls : (k_oc k).bind (fun ci => (vwCl[ci]?).map (fun q => q.1)) = some cal.1.cls) (hi : i < k_cnt k) (hr : (rest.map k_cat).sum ≤ 8) (hok : OkF cal (vR k i :: [a0, a1]) M (some v) M1) (hq : pc + 3 = q) (kk : Go I Z M1 loc (v :: rest) q) : Go I Z M loc (a1 :: a0 :: vR k i :: rest) pc :=
  go_callV [a0, a1] hd hlink hc hR rfl hcls hi hr hok hq (fun r M2 hrm => by obtain ⟨rfl, rfl⟩ := hrm; exact kk)
theorem go_uV2 {I cal : KI} {Z : KZ} {M M1 : KM} {loc : List (Option KV)} {rest : List KV} {pc q idx : Nat} {a0 a1 : KV} {k i : Nat}  (hd : decode I.2.1 pc = .ok (.invokevirtual idx, 3)) (hlink : Cond.methodLink I.1.cls idx cal.1 ∈ k_tb) (hc : KCV cal 2) (hR : KR I cal) (hcls : (k_oc k).bind (fun ci => (vwCl[ci]?).map (fun q => q.1)) = some cal.1.cls) (hi : i < k_cnt k) (hr : (rest.map k_cat).sum ≤ 8) (hok : OkF cal (vR k i :: [a0, a1]) M none M1) (hq : pc + 3 = q) (kk : Go I Z M1 loc rest q) : Go I Z M loc (a1 :: a0 :: vR k i :: rest) pc :=
  go_callV [a0, a1] hd hlink hc hR rfl hcls hi hr hok hq (fun r M2 hrm => by obtain ⟨rfl, rfl⟩ := hrm; exact kk)
theorem go_cS2 {I cal : KI} {Z : KZ} {M M1 : KM} {loc : List (Option KV)} {rest : List KV} {pc q idx : Nat} {a0 a1 : KV}  {v : KV} (hd : decode I.2.1 pc = .ok (.invokestatic idx, 3)) (hlink : Cond.methodLink I.1.cls idx cal.1 ∈ k_tb) (hc : KCS cal 2) (hR : KR I cal)  (hr : (rest.map k_cat).sum ≤ 8) (hok : OkF cal [a0, a1] M (some v) M1) (hq : pc + 3 = q) (kk : Go I Z M1 loc (v :: rest) q) : Go I Z M loc (a1 :: a0 :: rest) pc :=
  go_callS [a0, a1] hd hlink hc hR rfl hr hok hq (fun r M2 hrm => by obtain ⟨rfl, rfl⟩ := hrm; exact kk)
theorem go_uS2 {I cal : KI} {Z : KZ} {M M1 : KM} {loc : List (Option KV)} {rest : List KV} {pc q idx : Nat} {a0 a1 : KV}   (hd : decode I.2.1 pc = .ok (.invokestatic idx, 3)) (hlink : Cond.methodLink I.1.cls idx cal.1 ∈ k_tb) (hc : KCS cal 2) (hR : KR I cal)  (hr : (rest.map k_cat).sum ≤ 8) (hok : OkF cal [a0, a1] M none M1) (hq : pc + 3 = q) (kk : Go I Z M1 loc rest q) : Go I Z M loc (a1 :: a0 :: rest) pc :=
  go_callS [a0, a1] hd hlink hc hR rfl hr hok hq (fun r M2 hrm => by obtain ⟨rfl, rfl⟩ := hrm; exact kk)
theorem go_cV3 {I cal : KI} {Z : KZ} {M M1 : KM} {loc : List (Option KV)} {rest : List KV} {pc q idx : Nat} {a0 a1 a2 : KV} {k i : Nat} {v : KV} (hd : decode I.2.1 pc = .ok (.invokevirtual idx, 3)) (hlink : Cond.methodLink I.1.cls idx cal.1 ∈ k_tb) (hc : KCV cal 3) (hR : KR I cal) (hcls : (k_oc k).bind (fun ci => (vwCl[ci]?).map (fun q => q.1)) = some cal.1.cls) (hi : i < k_cnt k) (hr : (rest.map k_cat).sum ≤ 8) (hok : OkF cal (vR k i :: [a0, a1, a2]) M (some v) M1) (hq : pc + 3 = q) (kk : Go I Z M1 loc (v :: rest) q) : Go I Z M loc (a2 :: a1 :: a0 :: vR k i :: rest) pc :=
  go_callV [a0, a1, a2] hd hlink hc hR rfl hcls hi hr hok hq (fun r M2 hrm => by obtain ⟨rfl, rfl⟩ := hrm; exact kk)
theorem go_uV3 {I cal : KI} {Z : KZ} {M M1 : KM} {loc : List (Option KV)} {rest : List KV} {pc q idx : Nat} {a0 a1 a2 : KV} {k i : Nat}  (hd : decode I.2.1 pc = .ok (.invokevirtual idx, 3)) (hlink : Cond.methodLink I.1.cls idx cal.1 ∈ k_tb) (hc : KCV cal 3) (hR : KR I cal) (hcls : (k_oc k).bind (fun ci => (vwCl[ci]?).map (fun q => q.1)) = some cal.1.cls) (hi : i < k_cnt k) (hr : (rest.map k_cat).sum ≤ 8) (hok : OkF cal (vR k i :: [a0, a1, a2]) M none M1) (hq : pc + 3 = q) (kk : Go I Z M1 loc rest q) : Go I Z M loc (a2 :: a1 :: a0 :: vR k i :: rest) pc :=
  go_callV [a0, a1, a2] hd hlink hc hR rfl hcls hi hr hok hq (fun r M2 hrm => by obtain ⟨rfl, rfl⟩ := hrm; exact kk)
theorem go_cS3 {I cal : KI} {Z : KZ} {M M1 : KM} {loc : List (Option KV)} {rest : List KV} {pc q idx : Nat} {a0 a1 a2 : KV}  {v : KV} (hd : decode I.2.1 pc = .ok (.invokestatic idx, 3)) (hlink : Cond.methodLink I.1.cls idx cal.1 ∈ k_tb) (hc : KCS cal 3) (hR : KR I cal)  (hr : (rest.map k_cat).sum ≤ 8) (hok : OkF cal [a0, a1, a2] M (some v) M1) (hq : pc + 3 = q) (kk : Go I Z M1 loc (v :: rest) q) : Go I Z M loc (a2 :: a1 :: a0 :: rest) pc :=
  go_callS [a0, a1, a2] hd hlink hc hR rfl hr hok hq (fun r M2 hrm => by obtain ⟨rfl, rfl⟩ := hrm; exact kk)
theorem go_uS3 {I cal : KI} {Z : KZ} {M M1 : KM} {loc : List (Option KV)} {rest : List KV} {pc q idx : Nat} {a0 a1 a2 : KV}   (hd : decode I.2.1 pc = .ok (.invokestatic idx, 3)) (hlink : Cond.methodLink I.1.cls idx cal.1 ∈ k_tb) (hc : KCS cal 3) (hR : KR I cal)  (hr : (rest.map k_cat).sum ≤ 8) (hok : OkF cal [a0, a1, a2] M none M1) (hq : pc + 3 = q) (kk : Go I Z M1 loc rest q) : Go I Z M loc (a2 :: a1 :: a0 :: rest) pc :=
  go_callS [a0, a1, a2] hd hlink hc hR rfl hr hok hq (fun r M2 hrm => by obtain ⟨rfl, rfl⟩ := hrm; exact kk)
theorem go_cV4 {I cal : KI} {Z : KZ} {M M1 : KM} {loc : List (Option KV)} {rest : List KV} {pc q idx : Nat} {a0 a1 a2 a3 : KV} {k i : Nat} {v : KV} (hd : decode I.2.1 pc = .ok (.invokevirtual idx, 3)) (hlink : Cond.methodLink I.1.cls idx cal.1 ∈ k_tb) (hc : KCV cal 4) (hR : KR I cal) (hcls : (k_oc k).bind (fun ci => (vwCl[ci]?).map (fun q => q.1)) = some cal.1.cls) (hi : i < k_cnt k) (hr : (rest.map k_cat).sum ≤ 8) (hok : OkF cal (vR k i :: [a0, a1, a2, a3]) M (some v) M1) (hq : pc + 3 = q) (kk : Go I Z M1 loc (v :: rest) q) : Go I Z M loc (a3 :: a2 :: a1 :: a0 :: vR k i :: rest) pc :=
  go_callV [a0, a1, a2, a3] hd hlink hc hR rfl hcls hi hr hok hq (fun r M2 hrm => by obtain ⟨rfl, rfl⟩ := hrm; exact kk)
theorem go_uV4 {I cal : KI} {Z : KZ} {M M1 : KM} {loc : List (Option KV)} {rest : List KV} {pc q idx : Nat} {a0 a1 a2 a3 : KV} {k i : Nat}  (hd : decode I.2.1 pc = .ok (.invokevirtual idx, 3)) (hlink : Cond.methodLink I.1.cls idx cal.1 ∈ k_tb) (hc : KCV cal 4) (hR : KR I cal) (hcls : (k_oc k).bind (fun ci => (vwCl[ci]?).map (fun q => q.1)) = some cal.1.cls) (hi : i < k_cnt k) (hr : (rest.map k_cat).sum ≤ 8) (hok : OkF cal (vR k i :: [a0, a1, a2, a3]) M none M1) (hq : pc + 3 = q) (kk : Go I Z M1 loc rest q) : Go I Z M loc (a3 :: a2 :: a1 :: a0 :: vR k i :: rest) pc :=
  go_callV [a0, a1, a2, a3] hd hlink hc hR rfl hcls hi hr hok hq (fun r M2 hrm => by obtain ⟨rfl, rfl⟩ := hrm; exact kk)
theorem go_cS4 {I cal : KI} {Z : KZ} {M M1 : KM} {loc : List (Option KV)} {rest : List KV} {pc q idx : Nat} {a0 a1 a2 a3 : KV}  {v : KV} (hd : decode I.2.1 pc = .ok (.invokestatic idx, 3)) (hlink : Cond.methodLink I.1.cls idx cal.1 ∈ k_tb) (hc : KCS cal 4) (hR : KR I cal)  (hr : (rest.map k_cat).sum ≤ 8) (hok : OkF cal [a0, a1, a2, a3] M (some v) M1) (hq : pc + 3 = q) (kk : Go I Z M1 loc (v :: rest) q) : Go I Z M loc (a3 :: a2 :: a1 :: a0 :: rest) pc :=
  go_callS [a0, a1, a2, a3] hd hlink hc hR rfl hr hok hq (fun r M2 hrm => by obtain ⟨rfl, rfl⟩ := hrm; exact kk)
theorem go_uS4 {I cal : KI} {Z : KZ} {M M1 : KM} {loc : List (Option KV)} {rest : List KV} {pc q idx : Nat} {a0 a1 a2 a3 : KV}   (hd : decode I.2.1 pc = .ok (.invokestatic idx, 3)) (hlink : Cond.methodLink I.1.cls idx cal.1 ∈ k_tb) (hc : KCS cal 4) (hR : KR I cal)  (hr : (rest.map k_cat).sum ≤ 8) (hok : OkF cal [a0, a1, a2, a3] M none M1) (hq : pc + 3 = q) (kk : Go I Z M1 loc rest q) : Go I Z M loc (a3 :: a2 :: a1 :: a0 :: rest) pc :=
  go_callS [a0, a1, a2, a3] hd hlink hc hR rfl hr hok hq (fun r M2 hrm => by obtain ⟨rfl, rfl⟩ := hrm; exact kk)
theorem go_mmax {I : KI} {Z : KZ} {M : KM} {loc : List (Option KV)} {rest : List KV} {pc q idx : Nat} {x y : Int32} (hd : decode I.2.1 pc = .ok (.invokestatic idx, 3)) (hlink : Cond.methodLink I.1.cls idx Lib.Math.max.name ∈ k_tb) (h1 : Cond.static Lib.Math.max.name ∈ k_tb) (h2 : Cond.initialized "java/lang/Math" ∈ k_tb) (h3 : Cond.code Lib.Math.max.name Lib.Math.max.code 2 (some .int) ∈ k_tb) (hR : 1 ≤ I.2.2.2.2.frames ∧ 21 ≤ I.2.2.2.2.locals) (hr : (rest.map k_cat).sum ≤ 8) (hq : pc + 3 = q) (h : Go I Z M loc (vI (if x < y then y else x) :: rest) q) : Go I Z M loc (vI y :: vI x :: rest) pc := by
  subst hq
  intro G Hb p l e R s m args below meth c cells slots Qf hC hZ H ls locs hW hF hL hl
  obtain ⟨hx, hb, hml, hrt, hown, hlk, hts, hK, hRf, hRl, hce, hsl⟩ := id hC
  exact va_mmax hx hb (hml.trans hl.1.symm) hown (hts _ hlink) (hts _ h1) (hts _ h2) (hts _ h3) (by rw [hRf]; exact hR.1) (by rw [k_catsum, hRl]; have := hR.2; omega) hce hsl hd (h G Hb p l e R s m args below meth c cells slots Qf hC hZ H ls locs hW hF hL hl)
theorem go_mmin {I : KI} {Z : KZ} {M : KM} {loc : List (Option KV)} {rest : List KV} {pc q idx : Nat} {x y : Int32} (hd : decode I.2.1 pc = .ok (.invokestatic idx, 3)) (hlink : Cond.methodLink I.1.cls idx Lib.Math.min.name ∈ k_tb) (h1 : Cond.static Lib.Math.min.name ∈ k_tb) (h2 : Cond.initialized "java/lang/Math" ∈ k_tb) (h3 : Cond.code Lib.Math.min.name Lib.Math.min.code 2 (some .int) ∈ k_tb) (hR : 1 ≤ I.2.2.2.2.frames ∧ 21 ≤ I.2.2.2.2.locals) (hr : (rest.map k_cat).sum ≤ 8) (hq : pc + 3 = q) (h : Go I Z M loc (vI (if y < x then y else x) :: rest) q) : Go I Z M loc (vI y :: vI x :: rest) pc := by
  subst hq
  intro G Hb p l e R s m args below meth c cells slots Qf hC hZ H ls locs hW hF hL hl
  obtain ⟨hx, hb, hml, hrt, hown, hlk, hts, hK, hRf, hRl, hce, hsl⟩ := id hC
  exact va_mmin hx hb (hml.trans hl.1.symm) hown (hts _ hlink) (hts _ h1) (hts _ h2) (hts _ h3) (by rw [hRf]; exact hR.1) (by rw [k_catsum, hRl]; have := hR.2; omega) hce hsl hd (h G Hb p l e R s m args below meth c cells slots Qf hC hZ H ls locs hW hF hL hl)
end
section
theorem k_t {i : Nat} {w : Cond} (h : tables_1[i]? = some w) (hg : goodWord w = true) : w ∈ k_tb := List.mem_filter.mpr ⟨List.mem_append_right _ (List.mem_of_getElem? h), hg⟩
theorem k_s {i : Nat} {w : Cond} (h : (k2_sels lw_privs)[i]? = some w) (hg : goodWord w = true) : w ∈ k_tb := List.mem_filter.mpr ⟨List.mem_append_left _ (List.mem_of_getElem? h), hg⟩
abbrev mX8_isShield : KI := (yX8_isShield, cX8_isShield, 1, (some .boolean), { frames := 0, cells := 0, slots := 0, locals := 0 })
abbrev mX8_isPlace : KI := (yX8_isPlace, cX8_isPlace, 1, (some .boolean), { frames := 0, cells := 0, slots := 0, locals := 0 })
abbrev mX8_isMark : KI := (yX8_isMark, cX8_isMark, 1, (some .boolean), { frames := 0, cells := 0, slots := 0, locals := 0 })
abbrev mX8_markAt : KI := (yX8_markAt, cX8_markAt, 4, (some .int), { frames := 0, cells := 0, slots := 0, locals := 0 })
abbrev mX8_weightOf : KI := (yX8_weightOf, cX8_weightOf, 3, (some .int), { frames := 0, cells := 0, slots := 0, locals := 0 })
abbrev mX8_withMark : KI := (yX8_withMark, cX8_withMark, 3, (some .int), { frames := 1, cells := 0, slots := 0, locals := 23 })
abbrev mX8_apart : KI := (yX8_apart, cX8_apart, 4, (some .int), { frames := 0, cells := 0, slots := 0, locals := 0 })
abbrev mX5_init : KI := (yX5_init, cX5_init, 1, none, { frames := 0, cells := 0, slots := 0, locals := 0 })
abbrev mX5_length : KI := (yX5_length, cX5_length, 1, (some .int), { frames := 0, cells := 0, slots := 0, locals := 0 })
abbrev mX5_isFull : KI := (yX5_isFull, cX5_isFull, 1, (some .boolean), { frames := 0, cells := 0, slots := 0, locals := 0 })
abbrev mX5_put : KI := (yX5_put, cX5_put, 2, none, { frames := 0, cells := 0, slots := 0, locals := 0 })
abbrev mX5_empty : KI := (yX5_empty, cX5_empty, 1, none, { frames := 0, cells := 0, slots := 0, locals := 0 })
abbrev mX5_signAt : KI := (yX5_signAt, cX5_signAt, 2, (some .int), { frames := 0, cells := 0, slots := 0, locals := 0 })
abbrev mX5_startsDeed : KI := (yX5_startsDeed, cX5_startsDeed, 2, (some .boolean), { frames := 1, cells := 0, slots := 0, locals := 21 })
abbrev mX5_digitAt : KI := (yX5_digitAt, cX5_digitAt, 2, (some .int), { frames := 1, cells := 0, slots := 0, locals := 21 })
abbrev mX5_afterNumber : KI := (yX5_afterNumber, cX5_afterNumber, 2, (some .int), { frames := 1, cells := 0, slots := 0, locals := 22 })
abbrev mX5_numberAt : KI := (yX5_numberAt, cX5_numberAt, 2, (some .int), { frames := 2, cells := 0, slots := 0, locals := 42 })
abbrev mX5_shieldAt : KI := (yX5_shieldAt, cX5_shieldAt, 4, (some .int), { frames := 2, cells := 0, slots := 0, locals := 42 })
abbrev mX5_firstFault : KI := (yX5_firstFault, cX5_firstFault, 3, (some .int), { frames := 3, cells := 0, slots := 0, locals := 65 })
abbrev mX5_stateAfter : KI := (yX5_stateAfter, cX5_stateAfter, 2, (some .int), { frames := 2, cells := 0, slots := 0, locals := 44 })
abbrev mX5_stateAfterLetter : KI := (yX5_stateAfterLetter, cX5_stateAfterLetter, 1, (some .int), { frames := 0, cells := 0, slots := 0, locals := 0 })
abbrev mX5_stateAfterFather : KI := (yX5_stateAfterFather, cX5_stateAfterFather, 1, (some .int), { frames := 0, cells := 0, slots := 0, locals := 0 })
abbrev mX5_stateAfterDeed : KI := (yX5_stateAfterDeed, cX5_stateAfterDeed, 1, (some .int), { frames := 0, cells := 0, slots := 0, locals := 0 })
abbrev mX5_stateAfterDigit : KI := (yX5_stateAfterDigit, cX5_stateAfterDigit, 3, (some .int), { frames := 1, cells := 0, slots := 0, locals := 22 })
abbrev mX5_isBetween : KI := (yX5_isBetween, cX5_isBetween, 3, (some .boolean), { frames := 0, cells := 0, slots := 0, locals := 0 })
abbrev mX6_init : KI := (yX6_init, cX6_init, 1, none, { frames := 0, cells := 0, slots := 0, locals := 0 })
abbrev mX6_copyFrom : KI := (yX6_copyFrom, cX6_copyFrom, 3, none, { frames := 0, cells := 0, slots := 0, locals := 0 })
abbrev mX6_size : KI := (yX6_size, cX6_size, 1, (some .int), { frames := 0, cells := 0, slots := 0, locals := 0 })
abbrev mX6_heirs : KI := (yX6_heirs, cX6_heirs, 1, (some .int), { frames := 0, cells := 0, slots := 0, locals := 0 })
abbrev mX6_refusals : KI := (yX6_refusals, cX6_refusals, 1, (some .int), { frames := 0, cells := 0, slots := 0, locals := 0 })
abbrev mX6_has : KI := (yX6_has, cX6_has, 2, (some .boolean), { frames := 0, cells := 0, slots := 0, locals := 0 })
abbrev mX6_shieldOf : KI := (yX6_shieldOf, cX6_shieldOf, 2, (some .int), { frames := 1, cells := 0, slots := 0, locals := 21 })
abbrev mX6_isAlive : KI := (yX6_isAlive, cX6_isAlive, 2, (some .boolean), { frames := 1, cells := 0, slots := 0, locals := 21 })
abbrev mX6_fatherOf : KI := (yX6_fatherOf, cX6_fatherOf, 2, (some .int), { frames := 1, cells := 0, slots := 0, locals := 21 })
abbrev mX6_birthPlaceOf : KI := (yX6_birthPlaceOf, cX6_birthPlaceOf, 2, (some .int), { frames := 1, cells := 0, slots := 0, locals := 21 })
abbrev mX6_birthMarkOf : KI := (yX6_birthMarkOf, cX6_birthMarkOf, 2, (some .int), { frames := 1, cells := 0, slots := 0, locals := 21 })
abbrev mX6_living : KI := (yX6_living, cX6_living, 3, (some .int), { frames := 2, cells := 0, slots := 0, locals := 42 })
abbrev mX6_livingWith : KI := (yX6_livingWith, cX6_livingWith, 3, (some .int), { frames := 0, cells := 0, slots := 0, locals := 0 })
abbrev mX6_sonsOf : KI := (yX6_sonsOf, cX6_sonsOf, 4, (some .int), { frames := 2, cells := 0, slots := 0, locals := 42 })
abbrev mX6_areBrothers : KI := (yX6_areBrothers, cX6_areBrothers, 3, (some .boolean), { frames := 1, cells := 0, slots := 0, locals := 21 })
abbrev mX6_founderComes : KI := (yX6_founderComes, cX6_founderComes, 2, (some .int), { frames := 1, cells := 0, slots := 0, locals := 25 })
abbrev mX6_sonComes : KI := (yX6_sonComes, cX6_sonComes, 5, (some .int), { frames := 4, cells := 0, slots := 0, locals := 89 })
abbrev mX6_goes : KI := (yX6_goes, cX6_goes, 2, (some .int), { frames := 3, cells := 0, slots := 0, locals := 64 })
abbrev mX6_becomesHeir : KI := (yX6_becomesHeir, cX6_becomesHeir, 4, (some .int), { frames := 3, cells := 0, slots := 0, locals := 66 })
abbrev mX6_refuse : KI := (yX6_refuse, cX6_refuse, 2, (some .int), { frames := 0, cells := 0, slots := 0, locals := 0 })
abbrev mX6_add : KI := (yX6_add, cX6_add, 6, (some .int), { frames := 0, cells := 0, slots := 0, locals := 0 })
abbrev mX6_reasonAgainstSon : KI := (yX6_reasonAgainstSon, cX6_reasonAgainstSon, 4, (some .int), { frames := 3, cells := 0, slots := 0, locals := 66 })
abbrev mX6_cousinChanged : KI := (yX6_cousinChanged, cX6_cousinChanged, 4, (some .boolean), { frames := 2, cells := 0, slots := 0, locals := 43 })
abbrev mX6_reasonAgainstHeir : KI := (yX6_reasonAgainstHeir, cX6_reasonAgainstHeir, 4, (some .int), { frames := 2, cells := 0, slots := 0, locals := 43 })
abbrev mX7_init : KI := (yX7_init, cX7_init, 1, none, { frames := 0, cells := 0, slots := 0, locals := 0 })
abbrev mX7_has : KI := (yX7_has, cX7_has, 2, (some .boolean), { frames := 1, cells := 0, slots := 0, locals := 20 })
abbrev mX7_add : KI := (yX7_add, cX7_add, 2, none, { frames := 1, cells := 0, slots := 0, locals := 20 })
abbrev mX7_empty : KI := (yX7_empty, cX7_empty, 2, none, { frames := 0, cells := 0, slots := 0, locals := 0 })
abbrev mX7_isWordEmpty : KI := (yX7_isWordEmpty, cX7_isWordEmpty, 2, (some .boolean), { frames := 0, cells := 0, slots := 0, locals := 0 })
abbrev mX1_leftByTrying : KI := (yX1_leftByTrying, cX1_leftByTrying, 5, (some .int), { frames := 4, cells := 0, slots := 0, locals := 89 })
abbrev mX1_leftByPlaces : KI := (yX1_leftByPlaces, cX1_leftByPlaces, 4, (some .int), { frames := 3, cells := 0, slots := 0, locals := 69 })
abbrev mX1_livingApartAt : KI := (yX1_livingApartAt, cX1_livingApartAt, 8, (some .int), { frames := 2, cells := 0, slots := 0, locals := 42 })
abbrev mX1_leftToAll : KI := (yX1_leftToAll, cX1_leftToAll, 3, (some .int), { frames := 4, cells := 0, slots := 0, locals := 92 })
abbrev mX1_farthest : KI := (yX1_farthest, cX1_farthest, 8, (some .int), { frames := 4, cells := 0, slots := 0, locals := 89 })
abbrev mX1_leastApart : KI := (yX1_leastApart, cX1_leastApart, 5, (some .int), { frames := 2, cells := 0, slots := 0, locals := 42 })
abbrev mX2_init : KI := (yX2_init, cX2_init, 2, none, { frames := 1, cells := 0, slots := 0, locals := 20 })
abbrev mX2_size : KI := (yX2_size, cX2_size, 1, (some .int), { frames := 0, cells := 0, slots := 0, locals := 0 })
abbrev mX2_stateAt : KI := (yX2_stateAt, cX2_stateAt, 2, (some (.object "SonMarks$Roll")), { frames := 0, cells := 0, slots := 0, locals := 0 })
abbrev mX2_note : KI := (yX2_note, cX2_note, 3, none, { frames := 1, cells := 0, slots := 0, locals := 22 })
abbrev mX2_keepNoted : KI := (yX2_keepNoted, cX2_keepNoted, 3, none, { frames := 0, cells := 0, slots := 0, locals := 0 })
abbrev mX2_takeBack : KI := (yX2_takeBack, cX2_takeBack, 3, none, { frames := 1, cells := 0, slots := 0, locals := 22 })
abbrev mX3_livingSons : KI := (yX3_livingSons, cX3_livingSons, 4, (some .int), { frames := 2, cells := 0, slots := 0, locals := 42 })
abbrev mX3_livingBrothers : KI := (yX3_livingBrothers, cX3_livingBrothers, 4, (some .int), { frames := 2, cells := 0, slots := 0, locals := 43 })
abbrev mX3_livingCousins : KI := (yX3_livingCousins, cX3_livingCousins, 4, (some .int), { frames := 2, cells := 0, slots := 0, locals := 43 })
abbrev mX3_descendants : KI := (yX3_descendants, cX3_descendants, 4, (some .int), { frames := 3, cells := 0, slots := 0, locals := 66 })
abbrev mX3_comesFrom : KI := (yX3_comesFrom, cX3_comesFrom, 5, (some .boolean), { frames := 2, cells := 0, slots := 0, locals := 42 })
abbrev mX3_stepsFromFounder : KI := (yX3_stepsFromFounder, cX3_stepsFromFounder, 4, (some .int), { frames := 2, cells := 0, slots := 0, locals := 42 })
abbrev mX3_placesFromFather : KI := (yX3_placesFromFather, cX3_placesFromFather, 3, (some .int), { frames := 2, cells := 0, slots := 0, locals := 42 })
abbrev mX3_nearness : KI := (yX3_nearness, cX3_nearness, 4, (some .int), { frames := 2, cells := 0, slots := 0, locals := 42 })
abbrev mX3_heirOf : KI := (yX3_heirOf, cX3_heirOf, 3, (some .int), { frames := 3, cells := 0, slots := 0, locals := 66 })
abbrev mX4_init : KI := (yX4_init, cX4_init, 1, none, { frames := 1, cells := 0, slots := 0, locals := 20 })
abbrev mX4_fewest : KI := (yX4_fewest, cX4_fewest, 6, (some .int), { frames := 5, cells := 0, slots := 0, locals := 122 })
abbrev mX4_reaches : KI := (yX4_reaches, cX4_reaches, 7, (some .boolean), { frames := 4, cells := 0, slots := 0, locals := 96 })
abbrev mX4_goOn : KI := (yX4_goOn, cX4_goOn, 6, none, { frames := 3, cells := 0, slots := 0, locals := 71 })
abbrev mX4_goOnFrom : KI := (yX4_goOnFrom, cX4_goOnFrom, 7, none, { frames := 2, cells := 0, slots := 0, locals := 45 })
abbrev mX0_founders : KI := (yX0_founders, cX0_founders, 3, (some .int), { frames := 2, cells := 0, slots := 0, locals := 42 })
abbrev mX0_confusedPairs : KI := (yX0_confusedPairs, cX0_confusedPairs, 4, (some .int), { frames := 3, cells := 0, slots := 0, locals := 64 })
abbrev mX0_areConfused : KI := (yX0_areConfused, cX0_areConfused, 3, (some .boolean), { frames := 2, cells := 0, slots := 0, locals := 42 })
abbrev mX0_mostStepsFromFounder : KI := (yX0_mostStepsFromFounder, cX0_mostStepsFromFounder, 3, (some .int), { frames := 3, cells := 0, slots := 0, locals := 65 })
abbrev mX0_differentShields : KI := (yX0_differentShields, cX0_differentShields, 3, (some .int), { frames := 3, cells := 0, slots := 0, locals := 64 })
abbrev mX0_isFirstWithItsShield : KI := (yX0_isFirstWithItsShield, cX0_isFirstWithItsShield, 3, (some .boolean), { frames := 2, cells := 0, slots := 0, locals := 42 })
abbrev mX0_farFromFather : KI := (yX0_farFromFather, cX0_farFromFather, 3, (some .int), { frames := 3, cells := 0, slots := 0, locals := 64 })
abbrev mX0_livingSonless : KI := (yX0_livingSonless, cX0_livingSonless, 3, (some .int), { frames := 3, cells := 0, slots := 0, locals := 65 })
abbrev mX0_livingWithMark : KI := (yX0_livingWithMark, cX0_livingWithMark, 5, (some .int), { frames := 2, cells := 0, slots := 0, locals := 42 })
abbrev mX0_meanApart : KI := (yX0_meanApart, cX0_meanApart, 5, (some .double), { frames := 2, cells := 0, slots := 0, locals := 42 })
abbrev mX9_init : KI := (yX9_init, cX9_init, 1, none, { frames := 2, cells := 0, slots := 0, locals := 41 })
abbrev mX9_found : KI := (yX9_found, cX9_found, 2, (some .int), { frames := 2, cells := 0, slots := 0, locals := 46 })
abbrev mX9_bear : KI := (yX9_bear, cX9_bear, 4, (some .int), { frames := 5, cells := 0, slots := 0, locals := 113 })
abbrev mX9_die : KI := (yX9_die, cX9_die, 2, (some .int), { frames := 4, cells := 0, slots := 0, locals := 85 })
abbrev mX9_inherit : KI := (yX9_inherit, cX9_inherit, 2, (some .int), { frames := 4, cells := 0, slots := 0, locals := 89 })
abbrev mX9_keepIfChanged : KI := (yX9_keepIfChanged, cX9_keepIfChanged, 2, (some .int), { frames := 1, cells := 0, slots := 0, locals := 22 })
abbrev mX9_append : KI := (yX9_append, cX9_append, 2, (some .int), { frames := 1, cells := 0, slots := 0, locals := 21 })
abbrev mX9_clear : KI := (yX9_clear, cX9_clear, 2, (some .int), { frames := 1, cells := 0, slots := 0, locals := 20 })
abbrev mX9_fault : KI := (yX9_fault, cX9_fault, 1, (some .int), { frames := 4, cells := 0, slots := 0, locals := 87 })
abbrev mX9_enrol : KI := (yX9_enrol, cX9_enrol, 4, (some .int), { frames := 6, cells := 0, slots := 0, locals := 135 })
abbrev mX9_enrolDeed : KI := (yX9_enrolDeed, cX9_enrolDeed, 3, (some .int), { frames := 5, cells := 0, slots := 0, locals := 113 })
abbrev mX9_why : KI := (yX9_why, cX9_why, 2, (some .int), { frames := 0, cells := 0, slots := 0, locals := 0 })
abbrev mX9_person : KI := (yX9_person, cX9_person, 3, (some .int), { frames := 4, cells := 0, slots := 0, locals := 89 })
abbrev mX9_orNotFound : KI := (yX9_orNotFound, cX9_orNotFound, 1, (some .int), { frames := 0, cells := 0, slots := 0, locals := 0 })
abbrev mX9_mark : KI := (yX9_mark, cX9_mark, 3, (some .int), { frames := 2, cells := 0, slots := 0, locals := 42 })
abbrev mX9_whyNot : KI := (yX9_whyNot, cX9_whyNot, 4, (some .int), { frames := 4, cells := 0, slots := 0, locals := 89 })
abbrev mX9_choices : KI := (yX9_choices, cX9_choices, 3, (some .int), { frames := 5, cells := 0, slots := 0, locals := 113 })
abbrev mX9_best : KI := (yX9_best, cX9_best, 2, (some .int), { frames := 5, cells := 0, slots := 0, locals := 116 })
abbrev mX9_differs : KI := (yX9_differs, cX9_differs, 3, (some .int), { frames := 2, cells := 0, slots := 0, locals := 42 })
abbrev mX9_kin : KI := (yX9_kin, cX9_kin, 3, (some .int), { frames := 3, cells := 0, slots := 0, locals := 65 })
abbrev mX9_bearer : KI := (yX9_bearer, cX9_bearer, 2, (some .int), { frames := 1, cells := 0, slots := 0, locals := 22 })
abbrev mX9_line : KI := (yX9_line, cX9_line, 5, (some .int), { frames := 6, cells := 0, slots := 0, locals := 147 })
abbrev mX9_isWay : KI := (yX9_isWay, cX9_isWay, 1, (some .boolean), { frames := 0, cells := 0, slots := 0, locals := 0 })
abbrev mX9_count : KI := (yX9_count, cX9_count, 2, (some .int), { frames := 4, cells := 0, slots := 0, locals := 87 })
abbrev mX9_borne : KI := (yX9_borne, cX9_borne, 3, (some .int), { frames := 3, cells := 0, slots := 0, locals := 66 })
abbrev mX9_unlike : KI := (yX9_unlike, cX9_unlike, 1, (some .double), { frames := 3, cells := 0, slots := 0, locals := 66 })
abbrev mX9_ifDead : KI := (yX9_ifDead, cX9_ifDead, 3, (some .int), { frames := 5, cells := 0, slots := 0, locals := 114 })
abbrev mX9_undo : KI := (yX9_undo, cX9_undo, 1, (some .int), { frames := 2, cells := 0, slots := 0, locals := 44 })
abbrev mX9_save : KI := (yX9_save, cX9_save, 1, (some .int), { frames := 3, cells := 0, slots := 0, locals := 64 })
abbrev mX9_restore : KI := (yX9_restore, cX9_restore, 1, (some .int), { frames := 3, cells := 0, slots := 0, locals := 64 })
abbrev mL_cell : KI := (yL_cell, cL_cell, 2, (some .int), { frames := 0, cells := 0, slots := 0, locals := 0 })
abbrev mL_seen : KI := (yL_seen, cL_seen, 5, (some .long), { frames := 5, cells := 0, slots := 0, locals := 111 })
abbrev mL_arePersons : KI := (yL_arePersons, cL_arePersons, 11, (some .boolean), { frames := 5, cells := 0, slots := 0, locals := 111 })
abbrev mL_arePairs : KI := (yL_arePairs, cL_arePairs, 9, (some .boolean), { frames := 5, cells := 0, slots := 0, locals := 111 })
abbrev mL_isLine : KI := (yL_isLine, cL_isLine, 7, (some .boolean), { frames := 7, cells := 0, slots := 0, locals := 171 })
abbrev mL_refusesAny : KI := (yL_refusesAny, cL_refusesAny, 8, (some .boolean), { frames := 7, cells := 0, slots := 0, locals := 171 })
abbrev mL_refuses : KI := (yL_refuses, cL_refuses, 5, (some .boolean), { frames := 8, cells := 0, slots := 0, locals := 198 })
abbrev mL_act : KI := (yL_act, cL_act, 15, (some .int), { frames := 6, cells := 0, slots := 0, locals := 136 })
abbrev mL_law : KI := (x, code, 18, ret, room_1)
theorem vX8_isShield : KCS mX8_isShield 1 := ⟨⟨k_t (i := 330) (by decide +kernel) rfl, k_t (i := 8) (by decide +kernel) rfl, (by decide +kernel), rfl, rfl⟩, k_t (i := 329) (by decide +kernel) rfl⟩
theorem vX8_isPlace : KCS mX8_isPlace 1 := ⟨⟨k_t (i := 353) (by decide +kernel) rfl, k_t (i := 8) (by decide +kernel) rfl, (by decide +kernel), rfl, rfl⟩, k_t (i := 352) (by decide +kernel) rfl⟩
theorem vX8_isMark : KCS mX8_isMark 1 := ⟨⟨k_t (i := 356) (by decide +kernel) rfl, k_t (i := 8) (by decide +kernel) rfl, (by decide +kernel), rfl, rfl⟩, k_t (i := 355) (by decide +kernel) rfl⟩
theorem vX8_markAt : KCS mX8_markAt 2 := ⟨⟨k_t (i := 362) (by decide +kernel) rfl, k_t (i := 8) (by decide +kernel) rfl, (by decide +kernel), rfl, rfl⟩, k_t (i := 361) (by decide +kernel) rfl⟩
theorem vX8_weightOf : KCS mX8_weightOf 1 := ⟨⟨k_t (i := 424) (by decide +kernel) rfl, k_t (i := 8) (by decide +kernel) rfl, (by decide +kernel), rfl, rfl⟩, k_t (i := 423) (by decide +kernel) rfl⟩
theorem vX8_withMark : KCS mX8_withMark 3 := ⟨⟨k_t (i := 420) (by decide +kernel) rfl, k_t (i := 8) (by decide +kernel) rfl, (by decide +kernel), rfl, rfl⟩, k_t (i := 419) (by decide +kernel) rfl⟩
theorem vX8_apart : KCS mX8_apart 2 := ⟨⟨k_t (i := 185) (by decide +kernel) rfl, k_t (i := 8) (by decide +kernel) rfl, (by decide +kernel), rfl, rfl⟩, k_t (i := 184) (by decide +kernel) rfl⟩
theorem vX5_length : KCV mX5_length 0 := ⟨⟨k_t (i := 229) (by decide +kernel) rfl, k_t (i := 4) (by decide +kernel) rfl, (by decide +kernel), rfl, rfl⟩, k_t (i := 227) (by decide +kernel) rfl, k_t (i := 228) (by decide +kernel) rfl⟩
theorem vX5_isFull : KCV mX5_isFull 0 := ⟨⟨k_t (i := 564) (by decide +kernel) rfl, k_t (i := 4) (by decide +kernel) rfl, (by decide +kernel), rfl, rfl⟩, k_t (i := 562) (by decide +kernel) rfl, k_t (i := 563) (by decide +kernel) rfl⟩
theorem vX5_put : KCV mX5_put 1 := ⟨⟨k_t (i := 568) (by decide +kernel) rfl, k_t (i := 4) (by decide +kernel) rfl, (by decide +kernel), rfl, rfl⟩, k_t (i := 566) (by decide +kernel) rfl, k_t (i := 567) (by decide +kernel) rfl⟩
theorem vX5_empty : KCV mX5_empty 0 := ⟨⟨k_t (i := 576) (by decide +kernel) rfl, k_t (i := 4) (by decide +kernel) rfl, (by decide +kernel), rfl, rfl⟩, k_t (i := 574) (by decide +kernel) rfl, k_t (i := 575) (by decide +kernel) rfl⟩
theorem vX5_signAt : KCV mX5_signAt 1 := ⟨⟨k_t (i := 588) (by decide +kernel) rfl, k_t (i := 4) (by decide +kernel) rfl, (by decide +kernel), rfl, rfl⟩, k_t (i := 586) (by decide +kernel) rfl, k_t (i := 587) (by decide +kernel) rfl⟩
theorem vX5_startsDeed : KCV mX5_startsDeed 1 := ⟨⟨k_t (i := 610) (by decide +kernel) rfl, k_t (i := 4) (by decide +kernel) rfl, (by decide +kernel), rfl, rfl⟩, k_t (i := 608) (by decide +kernel) rfl, k_t (i := 609) (by decide +kernel) rfl⟩
theorem vX5_digitAt : KCV mX5_digitAt 1 := ⟨⟨k_t (i := 623) (by decide +kernel) rfl, k_t (i := 4) (by decide +kernel) rfl, (by decide +kernel), rfl, rfl⟩, k_t (i := 621) (by decide +kernel) rfl, k_t (i := 622) (by decide +kernel) rfl⟩
theorem vX5_afterNumber : KCV mX5_afterNumber 1 := ⟨⟨k_t (i := 628) (by decide +kernel) rfl, k_t (i := 4) (by decide +kernel) rfl, (by decide +kernel), rfl, rfl⟩, k_t (i := 626) (by decide +kernel) rfl, k_t (i := 627) (by decide +kernel) rfl⟩
theorem vX5_numberAt : KCV mX5_numberAt 1 := ⟨⟨k_t (i := 632) (by decide +kernel) rfl, k_t (i := 4) (by decide +kernel) rfl, (by decide +kernel), rfl, rfl⟩, k_t (i := 630) (by decide +kernel) rfl, k_t (i := 631) (by decide +kernel) rfl⟩
theorem vX5_shieldAt : KCV mX5_shieldAt 1 := ⟨⟨k_t (i := 619) (by decide +kernel) rfl, k_t (i := 4) (by decide +kernel) rfl, (by decide +kernel), rfl, rfl⟩, k_t (i := 617) (by decide +kernel) rfl, k_t (i := 618) (by decide +kernel) rfl⟩
theorem vX5_firstFault : KCV mX5_firstFault 0 := ⟨⟨k_t (i := 584) (by decide +kernel) rfl, k_t (i := 4) (by decide +kernel) rfl, (by decide +kernel), rfl, rfl⟩, k_t (i := 582) (by decide +kernel) rfl, k_t (i := 583) (by decide +kernel) rfl⟩
theorem vX5_stateAfter : KCS mX5_stateAfter 2 := ⟨⟨k_t (i := 591) (by decide +kernel) rfl, k_t (i := 4) (by decide +kernel) rfl, (by decide +kernel), rfl, rfl⟩, k_t (i := 590) (by decide +kernel) rfl⟩
theorem vX5_stateAfterLetter : KCS mX5_stateAfterLetter 1 := ⟨⟨k_t (i := 597) (by decide +kernel) rfl, k_t (i := 4) (by decide +kernel) rfl, (by decide +kernel), rfl, rfl⟩, k_t (i := 596) (by decide +kernel) rfl⟩
theorem vX5_stateAfterFather : KCS mX5_stateAfterFather 1 := ⟨⟨k_t (i := 606) (by decide +kernel) rfl, k_t (i := 4) (by decide +kernel) rfl, (by decide +kernel), rfl, rfl⟩, k_t (i := 605) (by decide +kernel) rfl⟩
theorem vX5_stateAfterDeed : KCS mX5_stateAfterDeed 1 := ⟨⟨k_t (i := 594) (by decide +kernel) rfl, k_t (i := 4) (by decide +kernel) rfl, (by decide +kernel), rfl, rfl⟩, k_t (i := 593) (by decide +kernel) rfl⟩
theorem vX5_stateAfterDigit : KCS mX5_stateAfterDigit 3 := ⟨⟨k_t (i := 600) (by decide +kernel) rfl, k_t (i := 4) (by decide +kernel) rfl, (by decide +kernel), rfl, rfl⟩, k_t (i := 599) (by decide +kernel) rfl⟩
theorem vX5_isBetween : KCS mX5_isBetween 3 := ⟨⟨k_t (i := 603) (by decide +kernel) rfl, k_t (i := 4) (by decide +kernel) rfl, (by decide +kernel), rfl, rfl⟩, k_t (i := 602) (by decide +kernel) rfl⟩
theorem vX6_copyFrom : KCV mX6_copyFrom 1 := ⟨⟨k_t (i := 249) (by decide +kernel) rfl, k_t (i := 2) (by decide +kernel) rfl, (by decide +kernel), rfl, rfl⟩, k_t (i := 247) (by decide +kernel) rfl, k_t (i := 248) (by decide +kernel) rfl⟩
theorem vX6_size : KCV mX6_size 0 := ⟨⟨k_t (i := 151) (by decide +kernel) rfl, k_t (i := 2) (by decide +kernel) rfl, (by decide +kernel), rfl, rfl⟩, k_t (i := 149) (by decide +kernel) rfl, k_t (i := 150) (by decide +kernel) rfl⟩
theorem vX6_heirs : KCV mX6_heirs 0 := ⟨⟨k_t (i := 221) (by decide +kernel) rfl, k_t (i := 2) (by decide +kernel) rfl, (by decide +kernel), rfl, rfl⟩, k_t (i := 219) (by decide +kernel) rfl, k_t (i := 220) (by decide +kernel) rfl⟩
theorem vX6_refusals : KCV mX6_refusals 0 := ⟨⟨k_t (i := 225) (by decide +kernel) rfl, k_t (i := 2) (by decide +kernel) rfl, (by decide +kernel), rfl, rfl⟩, k_t (i := 223) (by decide +kernel) rfl, k_t (i := 224) (by decide +kernel) rfl⟩
theorem vX6_has : KCV mX6_has 1 := ⟨⟨k_t (i := 163) (by decide +kernel) rfl, k_t (i := 2) (by decide +kernel) rfl, (by decide +kernel), rfl, rfl⟩, k_t (i := 161) (by decide +kernel) rfl, k_t (i := 162) (by decide +kernel) rfl⟩
theorem vX6_shieldOf : KCV mX6_shieldOf 1 := ⟨⟨k_t (i := 182) (by decide +kernel) rfl, k_t (i := 2) (by decide +kernel) rfl, (by decide +kernel), rfl, rfl⟩, k_t (i := 180) (by decide +kernel) rfl, k_t (i := 181) (by decide +kernel) rfl⟩
theorem vX6_isAlive : KCV mX6_isAlive 1 := ⟨⟨k_t (i := 159) (by decide +kernel) rfl, k_t (i := 2) (by decide +kernel) rfl, (by decide +kernel), rfl, rfl⟩, k_t (i := 157) (by decide +kernel) rfl, k_t (i := 158) (by decide +kernel) rfl⟩
theorem vX6_fatherOf : KCV mX6_fatherOf 1 := ⟨⟨k_t (i := 171) (by decide +kernel) rfl, k_t (i := 2) (by decide +kernel) rfl, (by decide +kernel), rfl, rfl⟩, k_t (i := 169) (by decide +kernel) rfl, k_t (i := 170) (by decide +kernel) rfl⟩
theorem vX6_birthPlaceOf : KCV mX6_birthPlaceOf 1 := ⟨⟨k_t (i := 292) (by decide +kernel) rfl, k_t (i := 2) (by decide +kernel) rfl, (by decide +kernel), rfl, rfl⟩, k_t (i := 290) (by decide +kernel) rfl, k_t (i := 291) (by decide +kernel) rfl⟩
theorem vX6_birthMarkOf : KCV mX6_birthMarkOf 1 := ⟨⟨k_t (i := 296) (by decide +kernel) rfl, k_t (i := 2) (by decide +kernel) rfl, (by decide +kernel), rfl, rfl⟩, k_t (i := 294) (by decide +kernel) rfl, k_t (i := 295) (by decide +kernel) rfl⟩
theorem vX6_living : KCV mX6_living 0 := ⟨⟨k_t (i := 155) (by decide +kernel) rfl, k_t (i := 2) (by decide +kernel) rfl, (by decide +kernel), rfl, rfl⟩, k_t (i := 153) (by decide +kernel) rfl, k_t (i := 154) (by decide +kernel) rfl⟩
theorem vX6_livingWith : KCV mX6_livingWith 1 := ⟨⟨k_t (i := 334) (by decide +kernel) rfl, k_t (i := 2) (by decide +kernel) rfl, (by decide +kernel), rfl, rfl⟩, k_t (i := 332) (by decide +kernel) rfl, k_t (i := 333) (by decide +kernel) rfl⟩
theorem vX6_sonsOf : KCV mX6_sonsOf 1 := ⟨⟨k_t (i := 216) (by decide +kernel) rfl, k_t (i := 2) (by decide +kernel) rfl, (by decide +kernel), rfl, rfl⟩, k_t (i := 214) (by decide +kernel) rfl, k_t (i := 215) (by decide +kernel) rfl⟩
theorem vX6_areBrothers : KCV mX6_areBrothers 2 := ⟨⟨k_t (i := 309) (by decide +kernel) rfl, k_t (i := 2) (by decide +kernel) rfl, (by decide +kernel), rfl, rfl⟩, k_t (i := 307) (by decide +kernel) rfl, k_t (i := 308) (by decide +kernel) rfl⟩
theorem vX6_founderComes : KCV mX6_founderComes 1 := ⟨⟨k_t (i := 444) (by decide +kernel) rfl, k_t (i := 2) (by decide +kernel) rfl, (by decide +kernel), rfl, rfl⟩, k_t (i := 442) (by decide +kernel) rfl, k_t (i := 443) (by decide +kernel) rfl⟩
theorem vX6_sonComes : KCV mX6_sonComes 3 := ⟨⟨k_t (i := 466) (by decide +kernel) rfl, k_t (i := 2) (by decide +kernel) rfl, (by decide +kernel), rfl, rfl⟩, k_t (i := 464) (by decide +kernel) rfl, k_t (i := 465) (by decide +kernel) rfl⟩
theorem vX6_goes : KCV mX6_goes 1 := ⟨⟨k_t (i := 490) (by decide +kernel) rfl, k_t (i := 2) (by decide +kernel) rfl, (by decide +kernel), rfl, rfl⟩, k_t (i := 488) (by decide +kernel) rfl, k_t (i := 489) (by decide +kernel) rfl⟩
theorem vX6_becomesHeir : KCV mX6_becomesHeir 1 := ⟨⟨k_t (i := 499) (by decide +kernel) rfl, k_t (i := 2) (by decide +kernel) rfl, (by decide +kernel), rfl, rfl⟩, k_t (i := 497) (by decide +kernel) rfl, k_t (i := 498) (by decide +kernel) rfl⟩
theorem vX6_refuse : KCV mX6_refuse 1 := ⟨⟨k_t (i := 450) (by decide +kernel) rfl, k_t (i := 2) (by decide +kernel) rfl, (by decide +kernel), rfl, rfl⟩, k_t (i := 449) (by decide +kernel) rfl, k_s (i := 4) (by decide +kernel) rfl⟩
theorem vX6_add : KCV mX6_add 4 := ⟨⟨k_t (i := 454) (by decide +kernel) rfl, k_t (i := 2) (by decide +kernel) rfl, (by decide +kernel), rfl, rfl⟩, k_t (i := 453) (by decide +kernel) rfl, k_s (i := 5) (by decide +kernel) rfl⟩
theorem vX6_reasonAgainstSon : KCV mX6_reasonAgainstSon 3 := ⟨⟨k_t (i := 472) (by decide +kernel) rfl, k_t (i := 2) (by decide +kernel) rfl, (by decide +kernel), rfl, rfl⟩, k_t (i := 470) (by decide +kernel) rfl, k_t (i := 471) (by decide +kernel) rfl⟩
theorem vX6_cousinChanged : KCV mX6_cousinChanged 2 := ⟨⟨k_t (i := 479) (by decide +kernel) rfl, k_t (i := 2) (by decide +kernel) rfl, (by decide +kernel), rfl, rfl⟩, k_t (i := 477) (by decide +kernel) rfl, k_t (i := 478) (by decide +kernel) rfl⟩
theorem vX6_reasonAgainstHeir : KCV mX6_reasonAgainstHeir 1 := ⟨⟨k_t (i := 503) (by decide +kernel) rfl, k_t (i := 2) (by decide +kernel) rfl, (by decide +kernel), rfl, rfl⟩, k_t (i := 501) (by decide +kernel) rfl, k_t (i := 502) (by decide +kernel) rfl⟩
theorem vX7_has : KCV mX7_has 1 := ⟨⟨k_t (i := 413) (by decide +kernel) rfl, k_t (i := 6) (by decide +kernel) rfl, (by decide +kernel), rfl, rfl⟩, k_t (i := 411) (by decide +kernel) rfl, k_t (i := 412) (by decide +kernel) rfl⟩
theorem vX7_add : KCV mX7_add 1 := ⟨⟨k_t (i := 400) (by decide +kernel) rfl, k_t (i := 6) (by decide +kernel) rfl, (by decide +kernel), rfl, rfl⟩, k_t (i := 398) (by decide +kernel) rfl, k_t (i := 399) (by decide +kernel) rfl⟩
theorem vX7_empty : KCV mX7_empty 0 := ⟨⟨k_t (i := 396) (by decide +kernel) rfl, k_t (i := 6) (by decide +kernel) rfl, (by decide +kernel), rfl, rfl⟩, k_t (i := 394) (by decide +kernel) rfl, k_t (i := 395) (by decide +kernel) rfl⟩
theorem vX7_isWordEmpty : KCV mX7_isWordEmpty 1 := ⟨⟨k_t (i := 409) (by decide +kernel) rfl, k_t (i := 6) (by decide +kernel) rfl, (by decide +kernel), rfl, rfl⟩, k_t (i := 407) (by decide +kernel) rfl, k_t (i := 408) (by decide +kernel) rfl⟩
theorem vX1_leftByTrying : KCS mX1_leftByTrying 2 := ⟨⟨k_t (i := 516) (by decide +kernel) rfl, k_t (i := 11) (by decide +kernel) rfl, (by decide +kernel), rfl, rfl⟩, k_t (i := 515) (by decide +kernel) rfl⟩
theorem vX1_leftByPlaces : KCS mX1_leftByPlaces 2 := ⟨⟨k_t (i := 520) (by decide +kernel) rfl, k_t (i := 11) (by decide +kernel) rfl, (by decide +kernel), rfl, rfl⟩, k_t (i := 519) (by decide +kernel) rfl⟩
theorem vX1_livingApartAt : KCS mX1_livingApartAt 3 := ⟨⟨k_t (i := 526) (by decide +kernel) rfl, k_t (i := 11) (by decide +kernel) rfl, (by decide +kernel), rfl, rfl⟩, k_t (i := 525) (by decide +kernel) rfl⟩
theorem vX1_leftToAll : KCS mX1_leftToAll 1 := ⟨⟨k_t (i := 541) (by decide +kernel) rfl, k_t (i := 11) (by decide +kernel) rfl, (by decide +kernel), rfl, rfl⟩, k_t (i := 540) (by decide +kernel) rfl⟩
theorem vX1_farthest : KCS mX1_farthest 2 := ⟨⟨k_t (i := 549) (by decide +kernel) rfl, k_t (i := 11) (by decide +kernel) rfl, (by decide +kernel), rfl, rfl⟩, k_t (i := 548) (by decide +kernel) rfl⟩
theorem vX1_leastApart : KCS mX1_leastApart 3 := ⟨⟨k_t (i := 553) (by decide +kernel) rfl, k_t (i := 11) (by decide +kernel) rfl, (by decide +kernel), rfl, rfl⟩, k_t (i := 552) (by decide +kernel) rfl⟩
theorem vX2_size : KCV mX2_size 0 := ⟨⟨k_t (i := 233) (by decide +kernel) rfl, k_t (i := 3) (by decide +kernel) rfl, (by decide +kernel), rfl, rfl⟩, k_t (i := 231) (by decide +kernel) rfl, k_t (i := 232) (by decide +kernel) rfl⟩
theorem vX2_stateAt : KCV mX2_stateAt 1 := ⟨⟨k_t (i := 245) (by decide +kernel) rfl, k_t (i := 3) (by decide +kernel) rfl, (by decide +kernel), rfl, rfl⟩, k_t (i := 244) (by decide +kernel) rfl, k_s (i := 0) (by decide +kernel) rfl⟩
theorem vX2_note : KCV mX2_note 1 := ⟨⟨k_t (i := 262) (by decide +kernel) rfl, k_t (i := 3) (by decide +kernel) rfl, (by decide +kernel), rfl, rfl⟩, k_t (i := 260) (by decide +kernel) rfl, k_t (i := 261) (by decide +kernel) rfl⟩
theorem vX2_keepNoted : KCV mX2_keepNoted 0 := ⟨⟨k_t (i := 266) (by decide +kernel) rfl, k_t (i := 3) (by decide +kernel) rfl, (by decide +kernel), rfl, rfl⟩, k_t (i := 264) (by decide +kernel) rfl, k_t (i := 265) (by decide +kernel) rfl⟩
theorem vX2_takeBack : KCV mX2_takeBack 1 := ⟨⟨k_t (i := 241) (by decide +kernel) rfl, k_t (i := 3) (by decide +kernel) rfl, (by decide +kernel), rfl, rfl⟩, k_t (i := 239) (by decide +kernel) rfl, k_t (i := 240) (by decide +kernel) rfl⟩
theorem vX3_livingSons : KCS mX3_livingSons 2 := ⟨⟨k_t (i := 300) (by decide +kernel) rfl, k_t (i := 9) (by decide +kernel) rfl, (by decide +kernel), rfl, rfl⟩, k_t (i := 299) (by decide +kernel) rfl⟩
theorem vX3_livingBrothers : KCS mX3_livingBrothers 2 := ⟨⟨k_t (i := 305) (by decide +kernel) rfl, k_t (i := 9) (by decide +kernel) rfl, (by decide +kernel), rfl, rfl⟩, k_t (i := 304) (by decide +kernel) rfl⟩
theorem vX3_livingCousins : KCS mX3_livingCousins 2 := ⟨⟨k_t (i := 312) (by decide +kernel) rfl, k_t (i := 9) (by decide +kernel) rfl, (by decide +kernel), rfl, rfl⟩, k_t (i := 311) (by decide +kernel) rfl⟩
theorem vX3_descendants : KCS mX3_descendants 2 := ⟨⟨k_t (i := 315) (by decide +kernel) rfl, k_t (i := 9) (by decide +kernel) rfl, (by decide +kernel), rfl, rfl⟩, k_t (i := 314) (by decide +kernel) rfl⟩
theorem vX3_comesFrom : KCS mX3_comesFrom 3 := ⟨⟨k_t (i := 318) (by decide +kernel) rfl, k_t (i := 9) (by decide +kernel) rfl, (by decide +kernel), rfl, rfl⟩, k_t (i := 317) (by decide +kernel) rfl⟩
theorem vX3_stepsFromFounder : KCS mX3_stepsFromFounder 2 := ⟨⟨k_t (i := 191) (by decide +kernel) rfl, k_t (i := 9) (by decide +kernel) rfl, (by decide +kernel), rfl, rfl⟩, k_t (i := 190) (by decide +kernel) rfl⟩
theorem vX3_placesFromFather : KCS mX3_placesFromFather 2 := ⟨⟨k_t (i := 207) (by decide +kernel) rfl, k_t (i := 9) (by decide +kernel) rfl, (by decide +kernel), rfl, rfl⟩, k_t (i := 206) (by decide +kernel) rfl⟩
theorem vX3_nearness : KCS mX3_nearness 3 := ⟨⟨k_t (i := 341) (by decide +kernel) rfl, k_t (i := 9) (by decide +kernel) rfl, (by decide +kernel), rfl, rfl⟩, k_t (i := 340) (by decide +kernel) rfl⟩
theorem vX3_heirOf : KCS mX3_heirOf 2 := ⟨⟨k_t (i := 537) (by decide +kernel) rfl, k_t (i := 9) (by decide +kernel) rfl, (by decide +kernel), rfl, rfl⟩, k_t (i := 536) (by decide +kernel) rfl⟩
theorem vX4_fewest : KCV mX4_fewest 3 := ⟨⟨k_t (i := 387) (by decide +kernel) rfl, k_t (i := 5) (by decide +kernel) rfl, (by decide +kernel), rfl, rfl⟩, k_t (i := 385) (by decide +kernel) rfl, k_t (i := 386) (by decide +kernel) rfl⟩
theorem vX4_reaches : KCV mX4_reaches 4 := ⟨⟨k_t (i := 392) (by decide +kernel) rfl, k_t (i := 5) (by decide +kernel) rfl, (by decide +kernel), rfl, rfl⟩, k_t (i := 391) (by decide +kernel) rfl, k_s (i := 1) (by decide +kernel) rfl⟩
theorem vX4_goOn : KCV mX4_goOn 3 := ⟨⟨k_t (i := 405) (by decide +kernel) rfl, k_t (i := 5) (by decide +kernel) rfl, (by decide +kernel), rfl, rfl⟩, k_t (i := 404) (by decide +kernel) rfl, k_s (i := 2) (by decide +kernel) rfl⟩
theorem vX4_goOnFrom : KCV mX4_goOnFrom 4 := ⟨⟨k_t (i := 417) (by decide +kernel) rfl, k_t (i := 5) (by decide +kernel) rfl, (by decide +kernel), rfl, rfl⟩, k_t (i := 416) (by decide +kernel) rfl, k_s (i := 3) (by decide +kernel) rfl⟩
theorem vX0_founders : KCS mX0_founders 1 := ⟨⟨k_t (i := 166) (by decide +kernel) rfl, k_t (i := 7) (by decide +kernel) rfl, (by decide +kernel), rfl, rfl⟩, k_t (i := 165) (by decide +kernel) rfl⟩
theorem vX0_confusedPairs : KCS mX0_confusedPairs 1 := ⟨⟨k_t (i := 174) (by decide +kernel) rfl, k_t (i := 7) (by decide +kernel) rfl, (by decide +kernel), rfl, rfl⟩, k_t (i := 173) (by decide +kernel) rfl⟩
theorem vX0_areConfused : KCS mX0_areConfused 3 := ⟨⟨k_t (i := 177) (by decide +kernel) rfl, k_t (i := 7) (by decide +kernel) rfl, (by decide +kernel), rfl, rfl⟩, k_t (i := 176) (by decide +kernel) rfl⟩
theorem vX0_mostStepsFromFounder : KCS mX0_mostStepsFromFounder 1 := ⟨⟨k_t (i := 188) (by decide +kernel) rfl, k_t (i := 7) (by decide +kernel) rfl, (by decide +kernel), rfl, rfl⟩, k_t (i := 187) (by decide +kernel) rfl⟩
theorem vX0_differentShields : KCS mX0_differentShields 1 := ⟨⟨k_t (i := 198) (by decide +kernel) rfl, k_t (i := 7) (by decide +kernel) rfl, (by decide +kernel), rfl, rfl⟩, k_t (i := 197) (by decide +kernel) rfl⟩
theorem vX0_isFirstWithItsShield : KCS mX0_isFirstWithItsShield 2 := ⟨⟨k_t (i := 201) (by decide +kernel) rfl, k_t (i := 7) (by decide +kernel) rfl, (by decide +kernel), rfl, rfl⟩, k_t (i := 200) (by decide +kernel) rfl⟩
theorem vX0_farFromFather : KCS mX0_farFromFather 1 := ⟨⟨k_t (i := 204) (by decide +kernel) rfl, k_t (i := 7) (by decide +kernel) rfl, (by decide +kernel), rfl, rfl⟩, k_t (i := 203) (by decide +kernel) rfl⟩
theorem vX0_livingSonless : KCS mX0_livingSonless 1 := ⟨⟨k_t (i := 212) (by decide +kernel) rfl, k_t (i := 7) (by decide +kernel) rfl, (by decide +kernel), rfl, rfl⟩, k_t (i := 211) (by decide +kernel) rfl⟩
theorem vX0_livingWithMark : KCS mX0_livingWithMark 3 := ⟨⟨k_t (i := 359) (by decide +kernel) rfl, k_t (i := 7) (by decide +kernel) rfl, (by decide +kernel), rfl, rfl⟩, k_t (i := 358) (by decide +kernel) rfl⟩
theorem vX0_meanApart : KCS mX0_meanApart 1 := ⟨⟨k_t (i := 369) (by decide +kernel) rfl, k_t (i := 7) (by decide +kernel) rfl, (by decide +kernel), rfl, rfl⟩, k_t (i := 368) (by decide +kernel) rfl⟩
theorem vX9_found : KCV mX9_found 1 := ⟨⟨k_t (i := 440) (by decide +kernel) rfl, k_t (i := 1) (by decide +kernel) rfl, (by decide +kernel), rfl, rfl⟩, k_t (i := 438) (by decide +kernel) rfl, k_t (i := 439) (by decide +kernel) rfl⟩
theorem vX9_bear : KCV mX9_bear 3 := ⟨⟨k_t (i := 462) (by decide +kernel) rfl, k_t (i := 1) (by decide +kernel) rfl, (by decide +kernel), rfl, rfl⟩, k_t (i := 460) (by decide +kernel) rfl, k_t (i := 461) (by decide +kernel) rfl⟩
theorem vX9_die : KCV mX9_die 1 := ⟨⟨k_t (i := 486) (by decide +kernel) rfl, k_t (i := 1) (by decide +kernel) rfl, (by decide +kernel), rfl, rfl⟩, k_t (i := 484) (by decide +kernel) rfl, k_t (i := 485) (by decide +kernel) rfl⟩
theorem vX9_inherit : KCV mX9_inherit 1 := ⟨⟨k_t (i := 495) (by decide +kernel) rfl, k_t (i := 1) (by decide +kernel) rfl, (by decide +kernel), rfl, rfl⟩, k_t (i := 493) (by decide +kernel) rfl, k_t (i := 494) (by decide +kernel) rfl⟩
theorem vX9_keepIfChanged : KCV mX9_keepIfChanged 1 := ⟨⟨k_t (i := 458) (by decide +kernel) rfl, k_t (i := 1) (by decide +kernel) rfl, (by decide +kernel), rfl, rfl⟩, k_t (i := 457) (by decide +kernel) rfl, k_s (i := 6) (by decide +kernel) rfl⟩
theorem vX9_append : KCV mX9_append 1 := ⟨⟨k_t (i := 560) (by decide +kernel) rfl, k_t (i := 1) (by decide +kernel) rfl, (by decide +kernel), rfl, rfl⟩, k_t (i := 558) (by decide +kernel) rfl, k_t (i := 559) (by decide +kernel) rfl⟩
theorem vX9_clear : KCV mX9_clear 0 := ⟨⟨k_t (i := 572) (by decide +kernel) rfl, k_t (i := 1) (by decide +kernel) rfl, (by decide +kernel), rfl, rfl⟩, k_t (i := 570) (by decide +kernel) rfl, k_t (i := 571) (by decide +kernel) rfl⟩
theorem vX9_fault : KCV mX9_fault 0 := ⟨⟨k_t (i := 637) (by decide +kernel) rfl, k_t (i := 1) (by decide +kernel) rfl, (by decide +kernel), rfl, rfl⟩, k_t (i := 635) (by decide +kernel) rfl, k_t (i := 636) (by decide +kernel) rfl⟩
theorem vX9_enrol : KCV mX9_enrol 0 := ⟨⟨k_t (i := 580) (by decide +kernel) rfl, k_t (i := 1) (by decide +kernel) rfl, (by decide +kernel), rfl, rfl⟩, k_t (i := 578) (by decide +kernel) rfl, k_t (i := 579) (by decide +kernel) rfl⟩
theorem vX9_enrolDeed : KCV mX9_enrolDeed 1 := ⟨⟨k_t (i := 614) (by decide +kernel) rfl, k_t (i := 1) (by decide +kernel) rfl, (by decide +kernel), rfl, rfl⟩, k_t (i := 613) (by decide +kernel) rfl, k_s (i := 7) (by decide +kernel) rfl⟩
theorem vX9_why : KCV mX9_why 1 := ⟨⟨k_t (i := 143) (by decide +kernel) rfl, k_t (i := 1) (by decide +kernel) rfl, (by decide +kernel), rfl, rfl⟩, k_t (i := 141) (by decide +kernel) rfl, k_t (i := 142) (by decide +kernel) rfl⟩
theorem vX9_person : KCV mX9_person 2 := ⟨⟨k_t (i := 281) (by decide +kernel) rfl, k_t (i := 1) (by decide +kernel) rfl, (by decide +kernel), rfl, rfl⟩, k_t (i := 279) (by decide +kernel) rfl, k_t (i := 280) (by decide +kernel) rfl⟩
theorem vX9_orNotFound : KCS mX9_orNotFound 1 := ⟨⟨k_t (i := 288) (by decide +kernel) rfl, k_t (i := 1) (by decide +kernel) rfl, (by decide +kernel), rfl, rfl⟩, k_t (i := 287) (by decide +kernel) rfl⟩
theorem vX9_mark : KCV mX9_mark 2 := ⟨⟨k_t (i := 429) (by decide +kernel) rfl, k_t (i := 1) (by decide +kernel) rfl, (by decide +kernel), rfl, rfl⟩, k_t (i := 427) (by decide +kernel) rfl, k_t (i := 428) (by decide +kernel) rfl⟩
theorem vX9_whyNot : KCV mX9_whyNot 3 := ⟨⟨k_t (i := 508) (by decide +kernel) rfl, k_t (i := 1) (by decide +kernel) rfl, (by decide +kernel), rfl, rfl⟩, k_t (i := 506) (by decide +kernel) rfl, k_t (i := 507) (by decide +kernel) rfl⟩
theorem vX9_choices : KCV mX9_choices 2 := ⟨⟨k_t (i := 513) (by decide +kernel) rfl, k_t (i := 1) (by decide +kernel) rfl, (by decide +kernel), rfl, rfl⟩, k_t (i := 511) (by decide +kernel) rfl, k_t (i := 512) (by decide +kernel) rfl⟩
theorem vX9_best : KCV mX9_best 1 := ⟨⟨k_t (i := 546) (by decide +kernel) rfl, k_t (i := 1) (by decide +kernel) rfl, (by decide +kernel), rfl, rfl⟩, k_t (i := 544) (by decide +kernel) rfl, k_t (i := 545) (by decide +kernel) rfl⟩
theorem vX9_differs : KCV mX9_differs 2 := ⟨⟨k_t (i := 345) (by decide +kernel) rfl, k_t (i := 1) (by decide +kernel) rfl, (by decide +kernel), rfl, rfl⟩, k_t (i := 343) (by decide +kernel) rfl, k_t (i := 344) (by decide +kernel) rfl⟩
theorem vX9_kin : KCV mX9_kin 2 := ⟨⟨k_t (i := 338) (by decide +kernel) rfl, k_t (i := 1) (by decide +kernel) rfl, (by decide +kernel), rfl, rfl⟩, k_t (i := 336) (by decide +kernel) rfl, k_t (i := 337) (by decide +kernel) rfl⟩
theorem vX9_bearer : KCV mX9_bearer 1 := ⟨⟨k_t (i := 327) (by decide +kernel) rfl, k_t (i := 1) (by decide +kernel) rfl, (by decide +kernel), rfl, rfl⟩, k_t (i := 325) (by decide +kernel) rfl, k_t (i := 326) (by decide +kernel) rfl⟩
theorem vX9_line : KCV mX9_line 3 := ⟨⟨k_t (i := 380) (by decide +kernel) rfl, k_t (i := 1) (by decide +kernel) rfl, (by decide +kernel), rfl, rfl⟩, k_t (i := 378) (by decide +kernel) rfl, k_t (i := 379) (by decide +kernel) rfl⟩
theorem vX9_isWay : KCS mX9_isWay 1 := ⟨⟨k_t (i := 383) (by decide +kernel) rfl, k_t (i := 1) (by decide +kernel) rfl, (by decide +kernel), rfl, rfl⟩, k_t (i := 382) (by decide +kernel) rfl⟩
theorem vX9_count : KCV mX9_count 1 := ⟨⟨k_t (i := 147) (by decide +kernel) rfl, k_t (i := 1) (by decide +kernel) rfl, (by decide +kernel), rfl, rfl⟩, k_t (i := 145) (by decide +kernel) rfl, k_t (i := 146) (by decide +kernel) rfl⟩
theorem vX9_borne : KCV mX9_borne 2 := ⟨⟨k_t (i := 350) (by decide +kernel) rfl, k_t (i := 1) (by decide +kernel) rfl, (by decide +kernel), rfl, rfl⟩, k_t (i := 348) (by decide +kernel) rfl, k_t (i := 349) (by decide +kernel) rfl⟩
theorem vX9_unlike : KCV mX9_unlike 0 := ⟨⟨k_t (i := 366) (by decide +kernel) rfl, k_t (i := 1) (by decide +kernel) rfl, (by decide +kernel), rfl, rfl⟩, k_t (i := 364) (by decide +kernel) rfl, k_t (i := 365) (by decide +kernel) rfl⟩
theorem vX9_ifDead : KCV mX9_ifDead 2 := ⟨⟨k_t (i := 534) (by decide +kernel) rfl, k_t (i := 1) (by decide +kernel) rfl, (by decide +kernel), rfl, rfl⟩, k_t (i := 532) (by decide +kernel) rfl, k_t (i := 533) (by decide +kernel) rfl⟩
theorem vX9_undo : KCV mX9_undo 0 := ⟨⟨k_t (i := 237) (by decide +kernel) rfl, k_t (i := 1) (by decide +kernel) rfl, (by decide +kernel), rfl, rfl⟩, k_t (i := 235) (by decide +kernel) rfl, k_t (i := 236) (by decide +kernel) rfl⟩
theorem vX9_save : KCV mX9_save 0 := ⟨⟨k_t (i := 253) (by decide +kernel) rfl, k_t (i := 1) (by decide +kernel) rfl, (by decide +kernel), rfl, rfl⟩, k_t (i := 251) (by decide +kernel) rfl, k_t (i := 252) (by decide +kernel) rfl⟩
theorem vX9_restore : KCV mX9_restore 0 := ⟨⟨k_t (i := 258) (by decide +kernel) rfl, k_t (i := 1) (by decide +kernel) rfl, (by decide +kernel), rfl, rfl⟩, k_t (i := 256) (by decide +kernel) rfl, k_t (i := 257) (by decide +kernel) rfl⟩
theorem vL_cell : KCS mL_cell 2 := ⟨⟨k_t (i := 269) (by decide +kernel) rfl, k_t (i := 0) (by decide +kernel) rfl, (by decide +kernel), rfl, rfl⟩, k_t (i := 268) (by decide +kernel) rfl⟩
theorem vL_seen : KCS mL_seen 1 := ⟨⟨k_t (i := 275) (by decide +kernel) rfl, k_t (i := 0) (by decide +kernel) rfl, (by decide +kernel), rfl, rfl⟩, k_t (i := 274) (by decide +kernel) rfl⟩
set_option maxRecDepth 100000 in
theorem vL_arePersons : KCS mL_arePersons 1 := ⟨⟨k_t (i := 323) (by rfl) rfl, k_t (i := 0) (by decide +kernel) rfl, (by decide +kernel), rfl, rfl⟩, k_t (i := 322) (by decide +kernel) rfl⟩
theorem vL_arePairs : KCS mL_arePairs 4 := ⟨⟨k_t (i := 373) (by decide +kernel) rfl, k_t (i := 0) (by decide +kernel) rfl, (by decide +kernel), rfl, rfl⟩, k_t (i := 372) (by decide +kernel) rfl⟩
theorem vL_isLine : KCS mL_isLine 3 := ⟨⟨k_t (i := 376) (by decide +kernel) rfl, k_t (i := 0) (by decide +kernel) rfl, (by decide +kernel), rfl, rfl⟩, k_t (i := 375) (by decide +kernel) rfl⟩
set_option maxRecDepth 100000 in
theorem vL_refusesAny : KCS mL_refusesAny 2 := ⟨⟨k_t (i := 436) (by rfl) rfl, k_t (i := 0) (by decide +kernel) rfl, (by decide +kernel), rfl, rfl⟩, k_t (i := 435) (by decide +kernel) rfl⟩
theorem vL_refuses : KCS mL_refuses 2 := ⟨⟨k_t (i := 433) (by decide +kernel) rfl, k_t (i := 0) (by decide +kernel) rfl, (by decide +kernel), rfl, rfl⟩, k_t (i := 432) (by decide +kernel) rfl⟩
set_option maxRecDepth 100000 in
theorem vL_act : KCS mL_act 2 := ⟨⟨k_t (i := 640) (by rfl) rfl, k_t (i := 0) (by decide +kernel) rfl, (by decide +kernel), rfl, rfl⟩, k_t (i := 639) (by decide +kernel) rfl⟩
theorem lRL_75 : Cond.methodLink RL 75 yX9_why ∈ k_tb := k_t (i := 140) (by decide +kernel) rfl
theorem lRL_14 : Cond.methodLink RL 14 yX9_count ∈ k_tb := k_t (i := 144) (by decide +kernel) rfl
theorem lRX9_211 : Cond.methodLink RX9 211 yX6_size ∈ k_tb := k_t (i := 148) (by decide +kernel) rfl
theorem lRX9_214 : Cond.methodLink RX9 214 yX6_living ∈ k_tb := k_t (i := 152) (by decide +kernel) rfl
theorem lRX6_42 : Cond.methodLink RX6 42 yX6_isAlive ∈ k_tb := k_t (i := 156) (by decide +kernel) rfl
theorem lRX6_38 : Cond.methodLink RX6 38 yX6_has ∈ k_tb := k_t (i := 160) (by decide +kernel) rfl
theorem lRX9_217 : Cond.methodLink RX9 217 yX0_founders ∈ k_tb := k_t (i := 164) (by decide +kernel) rfl
theorem lRX0_9 : Cond.methodLink RX0 9 yX6_size ∈ k_tb := k_t (i := 167) (by decide +kernel) rfl
theorem lRX0_15 : Cond.methodLink RX0 15 yX6_fatherOf ∈ k_tb := k_t (i := 168) (by decide +kernel) rfl
theorem lRX9_223 : Cond.methodLink RX9 223 yX0_confusedPairs ∈ k_tb := k_t (i := 172) (by decide +kernel) rfl
theorem lRX0_19 : Cond.methodLink RX0 19 yX0_areConfused ∈ k_tb := k_t (i := 175) (by decide +kernel) rfl
theorem lRX0_25 : Cond.methodLink RX0 25 yX6_isAlive ∈ k_tb := k_t (i := 178) (by decide +kernel) rfl
theorem lRX0_29 : Cond.methodLink RX0 29 yX6_shieldOf ∈ k_tb := k_t (i := 179) (by decide +kernel) rfl
theorem lRX0_32 : Cond.methodLink RX0 32 yX8_apart ∈ k_tb := k_t (i := 183) (by decide +kernel) rfl
theorem lRX9_226 : Cond.methodLink RX9 226 yX0_mostStepsFromFounder ∈ k_tb := k_t (i := 186) (by decide +kernel) rfl
theorem lRX0_38 : Cond.methodLink RX0 38 yX3_stepsFromFounder ∈ k_tb := k_t (i := 189) (by decide +kernel) rfl
theorem lRX3_19 : Cond.methodLink RX3 19 yX6_fatherOf ∈ k_tb := k_t (i := 192) (by decide +kernel) rfl
theorem lRX0_44 : Cond.methodLink RX0 44 Lib.Math.max.name ∈ k_tb := k_t (i := 193) (by decide +kernel) rfl
theorem lRX9_229 : Cond.methodLink RX9 229 yX0_differentShields ∈ k_tb := k_t (i := 196) (by decide +kernel) rfl
theorem lRX0_49 : Cond.methodLink RX0 49 yX0_isFirstWithItsShield ∈ k_tb := k_t (i := 199) (by decide +kernel) rfl
theorem lRX9_232 : Cond.methodLink RX9 232 yX0_farFromFather ∈ k_tb := k_t (i := 202) (by decide +kernel) rfl
theorem lRX0_53 : Cond.methodLink RX0 53 yX3_placesFromFather ∈ k_tb := k_t (i := 205) (by decide +kernel) rfl
theorem lRX3_33 : Cond.methodLink RX3 33 yX6_shieldOf ∈ k_tb := k_t (i := 208) (by decide +kernel) rfl
theorem lRX3_36 : Cond.methodLink RX3 36 yX8_apart ∈ k_tb := k_t (i := 209) (by decide +kernel) rfl
theorem lRX9_235 : Cond.methodLink RX9 235 yX0_livingSonless ∈ k_tb := k_t (i := 210) (by decide +kernel) rfl
theorem lRX0_56 : Cond.methodLink RX0 56 yX6_sonsOf ∈ k_tb := k_t (i := 213) (by decide +kernel) rfl
theorem lRX6_45 : Cond.methodLink RX6 45 yX6_fatherOf ∈ k_tb := k_t (i := 217) (by decide +kernel) rfl
theorem lRX9_238 : Cond.methodLink RX9 238 yX6_heirs ∈ k_tb := k_t (i := 218) (by decide +kernel) rfl
theorem lRX9_241 : Cond.methodLink RX9 241 yX6_refusals ∈ k_tb := k_t (i := 222) (by decide +kernel) rfl
theorem lRX9_89 : Cond.methodLink RX9 89 yX5_length ∈ k_tb := k_t (i := 226) (by decide +kernel) rfl
theorem lRX9_244 : Cond.methodLink RX9 244 yX2_size ∈ k_tb := k_t (i := 230) (by decide +kernel) rfl
theorem lRL_100 : Cond.methodLink RL 100 yX9_undo ∈ k_tb := k_t (i := 234) (by decide +kernel) rfl
theorem lRX9_261 : Cond.methodLink RX9 261 yX2_takeBack ∈ k_tb := k_t (i := 238) (by decide +kernel) rfl
theorem lRX2_22 : Cond.methodLink RX2 22 yX2_stateAt ∈ k_tb := k_t (i := 242) (by decide +kernel) rfl
theorem lRX2_26 : Cond.methodLink RX2 26 yX6_copyFrom ∈ k_tb := k_t (i := 246) (by decide +kernel) rfl
theorem lRL_109 : Cond.methodLink RL 109 yX9_save ∈ k_tb := k_t (i := 250) (by decide +kernel) rfl
theorem lRX9_252 : Cond.methodLink RX9 252 yX6_copyFrom ∈ k_tb := k_t (i := 254) (by decide +kernel) rfl
theorem lRL_103 : Cond.methodLink RL 103 yX9_restore ∈ k_tb := k_t (i := 255) (by decide +kernel) rfl
theorem lRX9_57 : Cond.methodLink RX9 57 yX2_note ∈ k_tb := k_t (i := 259) (by decide +kernel) rfl
theorem lRX9_78 : Cond.methodLink RX9 78 yX2_keepNoted ∈ k_tb := k_t (i := 263) (by decide +kernel) rfl
theorem lRL_112 : Cond.methodLink RL 112 yL_cell ∈ k_tb := k_t (i := 267) (by decide +kernel) rfl
theorem lRL_91 : Cond.methodLink RL 91 yL_seen ∈ k_tb := k_t (i := 273) (by decide +kernel) rfl
theorem lRL_20 : Cond.methodLink RL 20 yX9_person ∈ k_tb := k_t (i := 278) (by decide +kernel) rfl
theorem lRX9_121 : Cond.methodLink RX9 121 yX6_has ∈ k_tb := k_t (i := 282) (by decide +kernel) rfl
theorem lRX9_124 : Cond.methodLink RX9 124 yX6_shieldOf ∈ k_tb := k_t (i := 283) (by decide +kernel) rfl
theorem lRX9_127 : Cond.methodLink RX9 127 yX6_isAlive ∈ k_tb := k_t (i := 284) (by decide +kernel) rfl
theorem lRX9_130 : Cond.methodLink RX9 130 yX6_fatherOf ∈ k_tb := k_t (i := 285) (by decide +kernel) rfl
theorem lRX9_133 : Cond.methodLink RX9 133 yX9_orNotFound ∈ k_tb := k_t (i := 286) (by decide +kernel) rfl
theorem lRX9_136 : Cond.methodLink RX9 136 yX6_birthPlaceOf ∈ k_tb := k_t (i := 289) (by decide +kernel) rfl
theorem lRX9_139 : Cond.methodLink RX9 139 yX6_birthMarkOf ∈ k_tb := k_t (i := 293) (by decide +kernel) rfl
theorem lRX9_142 : Cond.methodLink RX9 142 yX6_sonsOf ∈ k_tb := k_t (i := 297) (by decide +kernel) rfl
theorem lRX9_145 : Cond.methodLink RX9 145 yX3_livingSons ∈ k_tb := k_t (i := 298) (by decide +kernel) rfl
theorem lRX3_9 : Cond.methodLink RX3 9 yX6_size ∈ k_tb := k_t (i := 301) (by decide +kernel) rfl
theorem lRX3_15 : Cond.methodLink RX3 15 yX6_isAlive ∈ k_tb := k_t (i := 302) (by decide +kernel) rfl
theorem lRX9_151 : Cond.methodLink RX9 151 yX3_livingBrothers ∈ k_tb := k_t (i := 303) (by decide +kernel) rfl
theorem lRX3_23 : Cond.methodLink RX3 23 yX6_areBrothers ∈ k_tb := k_t (i := 306) (by decide +kernel) rfl
theorem lRX9_154 : Cond.methodLink RX9 154 yX3_livingCousins ∈ k_tb := k_t (i := 310) (by decide +kernel) rfl
theorem lRX9_157 : Cond.methodLink RX9 157 yX3_descendants ∈ k_tb := k_t (i := 313) (by decide +kernel) rfl
theorem lRX3_27 : Cond.methodLink RX3 27 yX3_comesFrom ∈ k_tb := k_t (i := 316) (by decide +kernel) rfl
theorem lRX9_160 : Cond.methodLink RX9 160 yX3_stepsFromFounder ∈ k_tb := k_t (i := 319) (by decide +kernel) rfl
theorem lRX9_163 : Cond.methodLink RX9 163 yX3_placesFromFather ∈ k_tb := k_t (i := 320) (by decide +kernel) rfl
theorem lRL_120 : Cond.methodLink RL 120 yL_arePersons ∈ k_tb := k_t (i := 321) (by decide +kernel) rfl
theorem lRL_26 : Cond.methodLink RL 26 yX9_bearer ∈ k_tb := k_t (i := 324) (by decide +kernel) rfl
theorem lRX9_202 : Cond.methodLink RX9 202 yX8_isShield ∈ k_tb := k_t (i := 328) (by decide +kernel) rfl
theorem lRX9_205 : Cond.methodLink RX9 205 yX6_livingWith ∈ k_tb := k_t (i := 331) (by decide +kernel) rfl
theorem lRL_29 : Cond.methodLink RL 29 yX9_kin ∈ k_tb := k_t (i := 335) (by decide +kernel) rfl
theorem lRX9_198 : Cond.methodLink RX9 198 yX3_nearness ∈ k_tb := k_t (i := 339) (by decide +kernel) rfl
theorem lRL_32 : Cond.methodLink RL 32 yX9_differs ∈ k_tb := k_t (i := 342) (by decide +kernel) rfl
theorem lRX9_195 : Cond.methodLink RX9 195 yX8_apart ∈ k_tb := k_t (i := 346) (by decide +kernel) rfl
theorem lRL_35 : Cond.methodLink RL 35 yX9_borne ∈ k_tb := k_t (i := 347) (by decide +kernel) rfl
theorem lRX9_166 : Cond.methodLink RX9 166 yX8_isPlace ∈ k_tb := k_t (i := 351) (by decide +kernel) rfl
theorem lRX9_175 : Cond.methodLink RX9 175 yX8_isMark ∈ k_tb := k_t (i := 354) (by decide +kernel) rfl
theorem lRX9_245 : Cond.methodLink RX9 245 yX0_livingWithMark ∈ k_tb := k_t (i := 357) (by decide +kernel) rfl
theorem lRX0_59 : Cond.methodLink RX0 59 yX8_markAt ∈ k_tb := k_t (i := 360) (by decide +kernel) rfl
theorem lRL_38 : Cond.methodLink RL 38 yX9_unlike ∈ k_tb := k_t (i := 363) (by decide +kernel) rfl
theorem lRX9_248 : Cond.methodLink RX9 248 yX0_meanApart ∈ k_tb := k_t (i := 367) (by decide +kernel) rfl
theorem lRL_124 : Cond.methodLink RL 124 yL_arePairs ∈ k_tb := k_t (i := 371) (by decide +kernel) rfl
theorem lRL_128 : Cond.methodLink RL 128 yL_isLine ∈ k_tb := k_t (i := 374) (by decide +kernel) rfl
theorem lRL_44 : Cond.methodLink RL 44 yX9_line ∈ k_tb := k_t (i := 377) (by decide +kernel) rfl
theorem lRX9_181 : Cond.methodLink RX9 181 yX9_isWay ∈ k_tb := k_t (i := 381) (by decide +kernel) rfl
theorem lRX9_208 : Cond.methodLink RX9 208 yX4_fewest ∈ k_tb := k_t (i := 384) (by decide +kernel) rfl
theorem lRX4_24 : Cond.methodLink RX4 24 yX8_apart ∈ k_tb := k_t (i := 388) (by decide +kernel) rfl
theorem lRX4_30 : Cond.methodLink RX4 30 yX4_reaches ∈ k_tb := k_t (i := 389) (by decide +kernel) rfl
theorem lRX4_34 : Cond.methodLink RX4 34 yX7_empty ∈ k_tb := k_t (i := 393) (by decide +kernel) rfl
theorem lRX4_37 : Cond.methodLink RX4 37 yX7_add ∈ k_tb := k_t (i := 397) (by decide +kernel) rfl
theorem lRX7_15 : Cond.methodLink RX7 15 yX8_isShield ∈ k_tb := k_t (i := 401) (by decide +kernel) rfl
theorem lRX4_41 : Cond.methodLink RX4 41 yX4_goOn ∈ k_tb := k_t (i := 402) (by decide +kernel) rfl
theorem lRX4_49 : Cond.methodLink RX4 49 yX7_isWordEmpty ∈ k_tb := k_t (i := 406) (by decide +kernel) rfl
theorem lRX4_45 : Cond.methodLink RX4 45 yX7_has ∈ k_tb := k_t (i := 410) (by decide +kernel) rfl
theorem lRX4_52 : Cond.methodLink RX4 52 yX4_goOnFrom ∈ k_tb := k_t (i := 414) (by decide +kernel) rfl
theorem lRX4_56 : Cond.methodLink RX4 56 yX8_withMark ∈ k_tb := k_t (i := 418) (by decide +kernel) rfl
theorem lRX8_9 : Cond.methodLink RX8 9 yX8_markAt ∈ k_tb := k_t (i := 421) (by decide +kernel) rfl
theorem lRX8_15 : Cond.methodLink RX8 15 yX8_weightOf ∈ k_tb := k_t (i := 422) (by decide +kernel) rfl
theorem lRX4_60 : Cond.methodLink RX4 60 yX6_livingWith ∈ k_tb := k_t (i := 425) (by decide +kernel) rfl
theorem lRL_48 : Cond.methodLink RL 48 yX9_mark ∈ k_tb := k_t (i := 426) (by decide +kernel) rfl
theorem lRX9_171 : Cond.methodLink RX9 171 yX8_markAt ∈ k_tb := k_t (i := 430) (by decide +kernel) rfl
theorem lRL_106 : Cond.methodLink RL 106 yL_refuses ∈ k_tb := k_t (i := 431) (by decide +kernel) rfl
theorem lRL_95 : Cond.methodLink RL 95 yL_refusesAny ∈ k_tb := k_t (i := 434) (by decide +kernel) rfl
theorem lRL_51 : Cond.methodLink RL 51 yX9_found ∈ k_tb := k_t (i := 437) (by decide +kernel) rfl
theorem lRX9_61 : Cond.methodLink RX9 61 yX6_founderComes ∈ k_tb := k_t (i := 441) (by decide +kernel) rfl
theorem lRX6_49 : Cond.methodLink RX6 49 yX8_isShield ∈ k_tb := k_t (i := 445) (by decide +kernel) rfl
theorem lRX6_54 : Cond.methodLink RX6 54 yX6_livingWith ∈ k_tb := k_t (i := 446) (by decide +kernel) rfl
theorem lRX6_57 : Cond.methodLink RX6 57 yX6_refuse ∈ k_tb := k_t (i := 447) (by decide +kernel) rfl
theorem lRX6_60 : Cond.methodLink RX6 60 yX6_add ∈ k_tb := k_t (i := 451) (by decide +kernel) rfl
theorem lRX9_65 : Cond.methodLink RX9 65 yX9_keepIfChanged ∈ k_tb := k_t (i := 455) (by decide +kernel) rfl
theorem lRL_54 : Cond.methodLink RL 54 yX9_bear ∈ k_tb := k_t (i := 459) (by decide +kernel) rfl
theorem lRX9_68 : Cond.methodLink RX9 68 yX6_sonComes ∈ k_tb := k_t (i := 463) (by decide +kernel) rfl
theorem lRX6_64 : Cond.methodLink RX6 64 yX8_isPlace ∈ k_tb := k_t (i := 467) (by decide +kernel) rfl
theorem lRX6_67 : Cond.methodLink RX6 67 yX8_isMark ∈ k_tb := k_t (i := 468) (by decide +kernel) rfl
theorem lRX6_70 : Cond.methodLink RX6 70 yX6_reasonAgainstSon ∈ k_tb := k_t (i := 469) (by decide +kernel) rfl
theorem lRX6_74 : Cond.methodLink RX6 74 yX6_shieldOf ∈ k_tb := k_t (i := 473) (by decide +kernel) rfl
theorem lRX6_91 : Cond.methodLink RX6 91 yX8_markAt ∈ k_tb := k_t (i := 474) (by decide +kernel) rfl
theorem lRX6_77 : Cond.methodLink RX6 77 yX8_withMark ∈ k_tb := k_t (i := 475) (by decide +kernel) rfl
theorem lRX6_94 : Cond.methodLink RX6 94 yX6_cousinChanged ∈ k_tb := k_t (i := 476) (by decide +kernel) rfl
theorem lRX6_101 : Cond.methodLink RX6 101 yX6_birthPlaceOf ∈ k_tb := k_t (i := 480) (by decide +kernel) rfl
theorem lRX6_104 : Cond.methodLink RX6 104 yX6_areBrothers ∈ k_tb := k_t (i := 481) (by decide +kernel) rfl
theorem lRX6_98 : Cond.methodLink RX6 98 yX6_sonsOf ∈ k_tb := k_t (i := 482) (by decide +kernel) rfl
theorem lRL_57 : Cond.methodLink RL 57 yX9_die ∈ k_tb := k_t (i := 483) (by decide +kernel) rfl
theorem lRX9_72 : Cond.methodLink RX9 72 yX6_goes ∈ k_tb := k_t (i := 487) (by decide +kernel) rfl
theorem lRX6_80 : Cond.methodLink RX6 80 yX6_living ∈ k_tb := k_t (i := 491) (by decide +kernel) rfl
theorem lRL_60 : Cond.methodLink RL 60 yX9_inherit ∈ k_tb := k_t (i := 492) (by decide +kernel) rfl
theorem lRX9_75 : Cond.methodLink RX9 75 yX6_becomesHeir ∈ k_tb := k_t (i := 496) (by decide +kernel) rfl
theorem lRX6_84 : Cond.methodLink RX6 84 yX6_reasonAgainstHeir ∈ k_tb := k_t (i := 500) (by decide +kernel) rfl
theorem lRX6_87 : Cond.methodLink RX6 87 yX8_apart ∈ k_tb := k_t (i := 504) (by decide +kernel) rfl
theorem lRL_63 : Cond.methodLink RL 63 yX9_whyNot ∈ k_tb := k_t (i := 505) (by decide +kernel) rfl
theorem lRX9_178 : Cond.methodLink RX9 178 yX6_reasonAgainstSon ∈ k_tb := k_t (i := 509) (by decide +kernel) rfl
theorem lRL_66 : Cond.methodLink RL 66 yX9_choices ∈ k_tb := k_t (i := 510) (by decide +kernel) rfl
theorem lRX9_184 : Cond.methodLink RX9 184 yX1_leftByTrying ∈ k_tb := k_t (i := 514) (by decide +kernel) rfl
theorem lRX1_9 : Cond.methodLink RX1 9 yX6_reasonAgainstSon ∈ k_tb := k_t (i := 517) (by decide +kernel) rfl
theorem lRX9_189 : Cond.methodLink RX9 189 yX1_leftByPlaces ∈ k_tb := k_t (i := 518) (by decide +kernel) rfl
theorem lRX1_15 : Cond.methodLink RX1 15 yX6_isAlive ∈ k_tb := k_t (i := 521) (by decide +kernel) rfl
theorem lRX1_19 : Cond.methodLink RX1 19 yX6_sonsOf ∈ k_tb := k_t (i := 522) (by decide +kernel) rfl
theorem lRX1_23 : Cond.methodLink RX1 23 yX6_cousinChanged ∈ k_tb := k_t (i := 523) (by decide +kernel) rfl
theorem lRX1_27 : Cond.methodLink RX1 27 yX1_livingApartAt ∈ k_tb := k_t (i := 524) (by decide +kernel) rfl
theorem lRX1_33 : Cond.methodLink RX1 33 yX6_shieldOf ∈ k_tb := k_t (i := 527) (by decide +kernel) rfl
theorem lRX1_36 : Cond.methodLink RX1 36 yX8_markAt ∈ k_tb := k_t (i := 528) (by decide +kernel) rfl
theorem lRX1_42 : Cond.methodLink RX1 42 yX6_size ∈ k_tb := k_t (i := 529) (by decide +kernel) rfl
theorem lRX1_46 : Cond.methodLink RX1 46 yX8_apart ∈ k_tb := k_t (i := 530) (by decide +kernel) rfl
theorem lRL_69 : Cond.methodLink RL 69 yX9_ifDead ∈ k_tb := k_t (i := 531) (by decide +kernel) rfl
theorem lRX9_255 : Cond.methodLink RX9 255 yX3_heirOf ∈ k_tb := k_t (i := 535) (by decide +kernel) rfl
theorem lRX3_42 : Cond.methodLink RX3 42 yX6_reasonAgainstHeir ∈ k_tb := k_t (i := 538) (by decide +kernel) rfl
theorem lRX9_258 : Cond.methodLink RX9 258 yX1_leftToAll ∈ k_tb := k_t (i := 539) (by decide +kernel) rfl
theorem lRX1_49 : Cond.methodLink RX1 49 yX1_leftByPlaces ∈ k_tb := k_t (i := 542) (by decide +kernel) rfl
theorem lRL_72 : Cond.methodLink RL 72 yX9_best ∈ k_tb := k_t (i := 543) (by decide +kernel) rfl
theorem lRX9_192 : Cond.methodLink RX9 192 yX1_farthest ∈ k_tb := k_t (i := 547) (by decide +kernel) rfl
theorem lRX1_53 : Cond.methodLink RX1 53 yX8_withMark ∈ k_tb := k_t (i := 550) (by decide +kernel) rfl
theorem lRX1_56 : Cond.methodLink RX1 56 yX1_leastApart ∈ k_tb := k_t (i := 551) (by decide +kernel) rfl
theorem lRX1_59 : Cond.methodLink RX1 59 Lib.Math.min.name ∈ k_tb := k_t (i := 554) (by decide +kernel) rfl
theorem lRL_78 : Cond.methodLink RL 78 yX9_append ∈ k_tb := k_t (i := 557) (by decide +kernel) rfl
theorem lRX9_81 : Cond.methodLink RX9 81 yX5_isFull ∈ k_tb := k_t (i := 561) (by decide +kernel) rfl
theorem lRX9_85 : Cond.methodLink RX9 85 yX5_put ∈ k_tb := k_t (i := 565) (by decide +kernel) rfl
theorem lRL_81 : Cond.methodLink RL 81 yX9_clear ∈ k_tb := k_t (i := 569) (by decide +kernel) rfl
theorem lRX9_93 : Cond.methodLink RX9 93 yX5_empty ∈ k_tb := k_t (i := 573) (by decide +kernel) rfl
theorem lRL_85 : Cond.methodLink RL 85 yX9_enrol ∈ k_tb := k_t (i := 577) (by decide +kernel) rfl
theorem lRX9_96 : Cond.methodLink RX9 96 yX5_firstFault ∈ k_tb := k_t (i := 581) (by decide +kernel) rfl
theorem lRX5_19 : Cond.methodLink RX5 19 yX5_signAt ∈ k_tb := k_t (i := 585) (by decide +kernel) rfl
theorem lRX5_35 : Cond.methodLink RX5 35 yX5_stateAfter ∈ k_tb := k_t (i := 589) (by decide +kernel) rfl
theorem lRX5_39 : Cond.methodLink RX5 39 yX5_stateAfterDeed ∈ k_tb := k_t (i := 592) (by decide +kernel) rfl
theorem lRX5_42 : Cond.methodLink RX5 42 yX5_stateAfterLetter ∈ k_tb := k_t (i := 595) (by decide +kernel) rfl
theorem lRX5_45 : Cond.methodLink RX5 45 yX5_stateAfterDigit ∈ k_tb := k_t (i := 598) (by decide +kernel) rfl
theorem lRX5_23 : Cond.methodLink RX5 23 yX5_isBetween ∈ k_tb := k_t (i := 601) (by decide +kernel) rfl
theorem lRX5_49 : Cond.methodLink RX5 49 yX5_stateAfterFather ∈ k_tb := k_t (i := 604) (by decide +kernel) rfl
theorem lRX9_99 : Cond.methodLink RX9 99 yX5_startsDeed ∈ k_tb := k_t (i := 607) (by decide +kernel) rfl
theorem lRX9_103 : Cond.methodLink RX9 103 yX9_enrolDeed ∈ k_tb := k_t (i := 611) (by decide +kernel) rfl
theorem lRX9_106 : Cond.methodLink RX9 106 yX5_signAt ∈ k_tb := k_t (i := 615) (by decide +kernel) rfl
theorem lRX9_109 : Cond.methodLink RX9 109 yX5_shieldAt ∈ k_tb := k_t (i := 616) (by decide +kernel) rfl
theorem lRX5_27 : Cond.methodLink RX5 27 yX5_digitAt ∈ k_tb := k_t (i := 620) (by decide +kernel) rfl
theorem lRX5_30 : Cond.methodLink RX5 30 yX8_weightOf ∈ k_tb := k_t (i := 624) (by decide +kernel) rfl
theorem lRX9_112 : Cond.methodLink RX9 112 yX5_afterNumber ∈ k_tb := k_t (i := 625) (by decide +kernel) rfl
theorem lRX9_115 : Cond.methodLink RX9 115 yX5_numberAt ∈ k_tb := k_t (i := 629) (by decide +kernel) rfl
theorem lRX9_118 : Cond.methodLink RX9 118 yX5_digitAt ∈ k_tb := k_t (i := 633) (by decide +kernel) rfl
theorem lRL_88 : Cond.methodLink RL 88 yX9_fault ∈ k_tb := k_t (i := 634) (by decide +kernel) rfl
theorem lRL_116 : Cond.methodLink RL 116 yL_act ∈ k_tb := k_t (i := 638) (by decide +kernel) rfl
theorem lM_max : Cond.static Lib.Math.max.name ∈ k_tb ∧ Cond.initialized "java/lang/Math" ∈ k_tb ∧ Cond.code Lib.Math.max.name Lib.Math.max.code 2 (some .int) ∈ k_tb := ⟨k_t (i := 194) (by decide +kernel) rfl, k_t (i := 10) (by decide +kernel) rfl, k_t (i := 195) (by decide +kernel) rfl⟩
theorem lM_min : Cond.static Lib.Math.min.name ∈ k_tb ∧ Cond.initialized "java/lang/Math" ∈ k_tb ∧ Cond.code Lib.Math.min.name Lib.Math.min.code 2 (some .int) ∈ k_tb := ⟨k_t (i := 555) (by decide +kernel) rfl, k_t (i := 10) (by decide +kernel) rfl, k_t (i := 556) (by decide +kernel) rfl⟩
theorem kcRL_7 : Cond.constant RL 7 (1955562223 : Int32) ∈ k_tb := k_t (i := 270) (by decide +kernel) rfl
theorem kcRL_8 : Cond.constant RL 8 (68023 : Int32) ∈ k_tb := k_t (i := 271) (by decide +kernel) rfl
theorem kcRL_9 : Cond.constant RL 9 (2147483647 : Int32) ∈ k_tb := k_t (i := 272) (by decide +kernel) rfl
theorem kcRL_10 : Cond.constantLong RL 10 (179 : Int64) ∈ k_tb := k_t (i := 276) (by decide +kernel) rfl
theorem kcRL_12 : Cond.constantLong RL 12 (31 : Int64) ∈ k_tb := k_t (i := 277) (by decide +kernel) rfl
theorem kcRL_42 : Cond.constantDouble RL 42 (4618441417868443648 : UInt64) ∈ k_tb := k_t (i := 370) (by decide +kernel) rfl
theorem kwRX2 : ∀ w ∈ u_ws RX2 TX2 2, w ∈ k_tb := by decide +kernel
theorem kwRX4 : ∀ w ∈ u_ws RX4 TX4 3, w ∈ k_tb := by decide +kernel
theorem kwRX5 : ∀ w ∈ u_ws RX5 TX5 2, w ∈ k_tb := by decide +kernel
theorem kwRX6 : ∀ w ∈ u_ws RX6 TX6 8, w ∈ k_tb := by decide +kernel
theorem kwRX7 : ∀ w ∈ u_ws RX7 TX7 1, w ∈ k_tb := by decide +kernel
theorem kwRX9 : ∀ w ∈ u_ws RX9 TX9 10, w ∈ k_tb := by decide +kernel
theorem fRX6_9 : KF RX6 9 3 0 := ⟨RX6, TX6, 8, rfl, by decide, kwRX6, k_t (i := 26) (by decide +kernel) rfl⟩
theorem fRX6_15 : KF RX6 15 3 1 := ⟨RX6, TX6, 8, rfl, by decide, kwRX6, k_t (i := 27) (by decide +kernel) rfl⟩
theorem fRX6_19 : KF RX6 19 3 2 := ⟨RX6, TX6, 8, rfl, by decide, kwRX6, k_t (i := 28) (by decide +kernel) rfl⟩
theorem fRX6_22 : KF RX6 22 3 3 := ⟨RX6, TX6, 8, rfl, by decide, kwRX6, k_t (i := 29) (by decide +kernel) rfl⟩
theorem fRX6_25 : KF RX6 25 3 4 := ⟨RX6, TX6, 8, rfl, by decide, kwRX6, k_t (i := 30) (by decide +kernel) rfl⟩
theorem fRX6_28 : KF RX6 28 3 5 := ⟨RX6, TX6, 8, rfl, by decide, kwRX6, k_t (i := 31) (by decide +kernel) rfl⟩
theorem pRX6_28 : KP RX6 28 3 5 .int := ⟨RX6, TX6, 8, tyX6, rfl, by decide, kwRX6, k_t (i := 31) (by decide +kernel) rfl, tyX6_ok, nmX6, rfl, by decide +kernel⟩
theorem fRX6_32 : KF RX6 32 3 6 := ⟨RX6, TX6, 8, rfl, by decide, kwRX6, k_t (i := 32) (by decide +kernel) rfl⟩
theorem pRX6_32 : KP RX6 32 3 6 .int := ⟨RX6, TX6, 8, tyX6, rfl, by decide, kwRX6, k_t (i := 32) (by decide +kernel) rfl, tyX6_ok, nmX6, rfl, by decide +kernel⟩
theorem fRX6_35 : KF RX6 35 3 7 := ⟨RX6, TX6, 8, rfl, by decide, kwRX6, k_t (i := 33) (by decide +kernel) rfl⟩
theorem pRX6_35 : KP RX6 35 3 7 .int := ⟨RX6, TX6, 8, tyX6, rfl, by decide, kwRX6, k_t (i := 33) (by decide +kernel) rfl, tyX6_ok, nmX6, rfl, by decide +kernel⟩
theorem fRX2_11 : KF RX2 11 0 0 := ⟨RX2, TX2, 2, rfl, by decide, kwRX2, k_t (i := 62) (by decide +kernel) rfl⟩
theorem fRX2_17 : KF RX2 17 0 1 := ⟨RX2, TX2, 2, rfl, by decide, kwRX2, k_t (i := 63) (by decide +kernel) rfl⟩
theorem pRX2_17 : KP RX2 17 0 1 .int := ⟨RX2, TX2, 2, tyX2, rfl, by decide, kwRX2, k_t (i := 63) (by decide +kernel) rfl, tyX2_ok, nmX2, rfl, by decide +kernel⟩
theorem fRX5_11 : KF RX5 11 2 0 := ⟨RX5, TX5, 2, rfl, by decide, kwRX5, k_t (i := 75) (by decide +kernel) rfl⟩
theorem fRX5_15 : KF RX5 15 2 1 := ⟨RX5, TX5, 2, rfl, by decide, kwRX5, k_t (i := 76) (by decide +kernel) rfl⟩
theorem pRX5_15 : KP RX5 15 2 1 .int := ⟨RX5, TX5, 2, tyX5, rfl, by decide, kwRX5, k_t (i := 76) (by decide +kernel) rfl, tyX5_ok, nmX5, rfl, by decide +kernel⟩
theorem fRX7_11 : KF RX7 11 4 0 := ⟨RX7, TX7, 1, rfl, by decide, kwRX7, k_t (i := 94) (by decide +kernel) rfl⟩
theorem fRX4_12 : KF RX4 12 1 0 := ⟨RX4, TX4, 3, rfl, by decide, kwRX4, k_t (i := 99) (by decide +kernel) rfl⟩
theorem fRX4_18 : KF RX4 18 1 1 := ⟨RX4, TX4, 3, rfl, by decide, kwRX4, k_t (i := 100) (by decide +kernel) rfl⟩
theorem pRX4_18 : KP RX4 18 1 1 (.object RX7) := ⟨RX4, TX4, 3, tyX4, rfl, by decide, kwRX4, k_t (i := 100) (by decide +kernel) rfl, tyX4_ok, nmX4, rfl, by decide +kernel⟩
theorem fRX4_21 : KF RX4 21 1 2 := ⟨RX4, TX4, 3, rfl, by decide, kwRX4, k_t (i := 101) (by decide +kernel) rfl⟩
theorem pRX4_21 : KP RX4 21 1 2 (.object RX7) := ⟨RX4, TX4, 3, tyX4, rfl, by decide, kwRX4, k_t (i := 101) (by decide +kernel) rfl, tyX4_ok, nmX4, rfl, by decide +kernel⟩
theorem fRX9_10 : KF RX9 10 5 0 := ⟨RX9, TX9, 10, rfl, by decide, kwRX9, k_t (i := 109) (by decide +kernel) rfl⟩
theorem fRX9_16 : KF RX9 16 5 1 := ⟨RX9, TX9, 10, rfl, by decide, kwRX9, k_t (i := 110) (by decide +kernel) rfl⟩
theorem fRX9_19 : KF RX9 19 5 2 := ⟨RX9, TX9, 10, rfl, by decide, kwRX9, k_t (i := 111) (by decide +kernel) rfl⟩
theorem fRX9_25 : KF RX9 25 5 3 := ⟨RX9, TX9, 10, rfl, by decide, kwRX9, k_t (i := 112) (by decide +kernel) rfl⟩
theorem fRX9_32 : KF RX9 32 5 4 := ⟨RX9, TX9, 10, rfl, by decide, kwRX9, k_t (i := 113) (by decide +kernel) rfl⟩
theorem fRX9_39 : KF RX9 39 5 5 := ⟨RX9, TX9, 10, rfl, by decide, kwRX9, k_t (i := 114) (by decide +kernel) rfl⟩
theorem fRX9_43 : KF RX9 43 5 6 := ⟨RX9, TX9, 10, rfl, by decide, kwRX9, k_t (i := 115) (by decide +kernel) rfl⟩
theorem pRX9_43 : KP RX9 43 5 6 .boolean := ⟨RX9, TX9, 10, tyX9, rfl, by decide, kwRX9, k_t (i := 115) (by decide +kernel) rfl, tyX9_ok, nmX9, rfl, by decide +kernel⟩
theorem fRX9_47 : KF RX9 47 5 7 := ⟨RX9, TX9, 10, rfl, by decide, kwRX9, k_t (i := 116) (by decide +kernel) rfl⟩
theorem pRX9_47 : KP RX9 47 5 7 .int := ⟨RX9, TX9, 10, tyX9, rfl, by decide, kwRX9, k_t (i := 116) (by decide +kernel) rfl, tyX9_ok, nmX9, rfl, by decide +kernel⟩
theorem fRX9_51 : KF RX9 51 5 8 := ⟨RX9, TX9, 10, rfl, by decide, kwRX9, k_t (i := 117) (by decide +kernel) rfl⟩
theorem pRX9_51 : KP RX9 51 5 8 .int := ⟨RX9, TX9, 10, tyX9, rfl, by decide, kwRX9, k_t (i := 117) (by decide +kernel) rfl, tyX9_ok, nmX9, rfl, by decide +kernel⟩
theorem fRX9_54 : KF RX9 54 5 9 := ⟨RX9, TX9, 10, rfl, by decide, kwRX9, k_t (i := 118) (by decide +kernel) rfl⟩
theorem pRX9_54 : KP RX9 54 5 9 .int := ⟨RX9, TX9, 10, tyX9, rfl, by decide, kwRX9, k_t (i := 118) (by decide +kernel) rfl, tyX9_ok, nmX9, rfl, by decide +kernel⟩
end
section
/-! ===== numbers, and rows that speak of them ===== -/
abbrev QF (r : Option KV) (M : KM) : Option KV → KM → Prop := fun a b => a = r ∧ b = M
def bI (b : Bool) : Int32 := if b then 1 else 0
theorem bI_t : bI true = 1 := rfl
theorem bI_f : bI false = 0 := rfl
theorem bI_nar (b : Bool) : narrow .boolean (.int (bI b)) = .int (bI b) := by cases b <;> decide
theorem bI_eq0 {b : Bool} : bI b = 0 ↔ b = false := by cases b <;> decide
theorem bI_eq1 {b : Bool} : bI b = 1 ↔ b = true := by cases b <;> decide
theorem bI_inj {a b : Bool} : bI a = bI b ↔ a = b := by cases a <;> cases b <;> decide
def e1 : Option Nat → Int32
  | none => -1
  | some k => nI k
def e4 : Option Nat → Int32
  | none => -4
  | some k => nI k
theorem nI_neg {k : Nat} {m : Int32} (hk : k < 2 ^ 31) (hm : m.toInt < 0) : ¬ nI k = m := fun h => by
  have := congrArg Int32.toInt h
  rw [nI_toInt hk] at this
  omega
theorem e1_eq {o : Option Nat} (h : ∀ k, o = some k → k < 2 ^ 31) : e1 o = -1 ↔ o = none := by
  cases o with
  | none => simp [e1]
  | some k =>
    simp only [e1, reduceCtorEq, iff_false]
    exact nI_neg (h k rfl) (by decide)
theorem e4_eq {o : Option Nat} (h : ∀ k, o = some k → k < 2 ^ 31) : e4 o = -4 ↔ o = none := by
  cases o with
  | none => simp [e4]
  | some k =>
    simp only [e4, reduceCtorEq, iff_false]
    exact nI_neg (h k rfl) (by decide)
/-- the number below n that an int means -/
def pOf (n : Nat) (x : Int32) : Option Nat := if 0 ≤ x.toInt ∧ x.toInt < (n : Int) then some x.toInt.toNat else none
theorem pOf_some {n p : Nat} {x : Int32} (h : pOf n x = some p) : p < n ∧ x = nI p := by
  unfold pOf at h
  split at h
  · rename_i h1
    cases h
    refine ⟨by omega, ?_⟩
    have hx : x.toInt.toNat < 2 ^ 31 := by
      have := Int32.toInt_lt x
      omega
    apply Int32.toInt_inj.mp
    rw [nI_toInt hx]
    omega
  · cases h
theorem pOf_none {n : Nat} {x : Int32} (h : pOf n x = none) : x.toInt < 0 ∨ (n : Int) ≤ x.toInt := by
  unfold pOf at h
  split at h
  · cases h
  · omega
theorem pOf_nI {n p : Nat} (hp : p < n) (hn : n < 2 ^ 31) : pOf n (nI p) = some p := by
  unfold pOf
  rw [nI_toInt (by omega), if_pos ⟨by omega, by omega⟩]
  simp
theorem pOf_big {n p : Nat} (hp : n ≤ p) (hn : p < 2 ^ 31) : pOf n (nI p) = none := by
  unfold pOf
  rw [nI_toInt hn, if_neg (by omega)]
theorem pOf_m1 {n : Nat} : pOf n (-1) = none := by
  unfold pOf
  rw [if_neg]
  intro h
  have : (-1 : Int32).toInt = -1 := by decide
  omega
theorem pOf_m4 {n : Nat} : pOf n (-4) = none := by
  unfold pOf
  rw [if_neg]
  intro h
  have : (-4 : Int32).toInt = -4 := by decide
  omega
theorem pOf_e1 {n : Nat} {o : Option Nat} (h : ∀ k, o = some k → k < n) (hn : n < 2 ^ 31) : pOf n (e1 o) = o := by
  cases o with
  | none => exact pOf_m1
  | some k => exact pOf_nI (h k rfl) hn
theorem i32_lt {x y : Int32} : x < y ↔ x.toInt < y.toInt := Int32.lt_iff_toInt_lt
theorem i32_le {x y : Int32} : x ≤ y ↔ x.toInt ≤ y.toInt := Int32.le_iff_toInt_le
theorem pOf_iff {n : Nat} {x : Int32} : (pOf n x).isSome = true ↔ (0 ≤ x.toInt ∧ x.toInt < (n : Int)) := by
  unfold pOf
  split <;> simp_all
/-- how many below n -/
def cn (P : Nat → Bool) : Nat → Nat
  | 0 => 0
  | n + 1 => cn P n + if P n then 1 else 0
theorem cn_le (P : Nat → Bool) : ∀ n, cn P n ≤ n
  | 0 => Nat.le_refl 0
  | n + 1 => by
    have := cn_le P n
    unfold cn
    split <;> omega
theorem cn_t {P : Nat → Bool} {n : Nat} (h : P n = true) : cn P (n + 1) = cn P n + 1 := by simp [cn, h]
theorem cn_f {P : Nat → Bool} {n : Nat} (h : P n = false) : cn P (n + 1) = cn P n := by simp [cn, h]
theorem cn_congr {P Q : Nat → Bool} : ∀ {n : Nat}, (∀ i, i < n → P i = Q i) → cn P n = cn Q n
  | 0, _ => rfl
  | n + 1, h => by
    unfold cn
    rw [cn_congr (fun i hi => h i (by omega)), h n (by omega)]
section MoreRows
variable {I : KI} {Z : KZ} {M M' : KM} {loc : List (Option KV)} {st : List KV} {pc q t : Nat} {off : Int} {x y : Int32}
theorem go_ri (hd : decode I.2.1 pc = .ok (.ireturn, 1)) (hr : I.2.2.2.1 = some .int) (h : x = y) (hM : M = M') : Go I (Zm (fun a b => a = some (vI y) ∧ b = M')) M loc [vI x] pc :=
  go_ireti hd hr ⟨by rw [h], hM⟩
theorem go_rz {b : Bool} (hd : decode I.2.1 pc = .ok (.ireturn, 1)) (hr : I.2.2.2.1 = some .boolean) (h : x = bI b) (hM : M = M') : Go I (Zm (fun a b' => a = some (vI (bI b)) ∧ b' = M')) M loc [vI x] pc := by
  subst h
  exact go_iretz hd hr (bI_nar b) ⟨rfl, hM⟩
theorem go_rv (hd : decode I.2.1 pc = .ok (.return_, 1)) (hr : I.2.2.2.1 = none) (hM : M = M') : Go I (Zm (fun a b' => a = none ∧ b' = M')) M loc [] pc :=
  go_vret hd hr ⟨rfl, hM⟩
theorem go_rd {x y : UInt64} (hd : decode I.2.1 pc = .ok (.dreturn, 1)) (hr : I.2.2.2.1 = some .double) (h : x = y) (hM : M = M') : Go I (Zm (fun a b' => a = some (vD y) ∧ b' = M')) M loc [vD x] pc :=
  go_dret hd hr ⟨by rw [h], hM⟩
theorem go_loc {l1 l2 : List (Option KV)} (h : l1 = l2) (k : Go I Z M l2 st pc) : Go I Z M l1 st pc := h ▸ k
theorem go_mem (h : M = M') (k : Go I Z M' loc st pc) : Go I Z M loc st pc := h ▸ k
theorem go_topi {v : Int32} (h : x = v) (k : Go I Z M loc (vI v :: st) pc) : Go I Z M loc (vI x :: st) pc := h ▸ k
theorem go_if_eqB {b : Bool} (hd : decode I.2.1 pc = .ok (.ifCond .eq off, 3)) (ht : (pc : Int) + off = (t : Int)) (hq : pc + 3 = q) (k1 : b = false → Go I Z M loc st t) (k2 : b = true → Go I Z M loc st q) : Go I Z M loc (vI (bI b) :: st) pc :=
  go_if_eq hd ht hq (fun z => k1 (bI_eq0.mp z)) (fun z => k2 (by cases b; exact absurd rfl z; rfl))
theorem go_if_neB {b : Bool} (hd : decode I.2.1 pc = .ok (.ifCond .ne off, 3)) (ht : (pc : Int) + off = (t : Int)) (hq : pc + 3 = q) (k1 : b = true → Go I Z M loc st t) (k2 : b = false → Go I Z M loc st q) : Go I Z M loc (vI (bI b) :: st) pc :=
  go_if_ne hd ht hq (fun z => k1 (by cases b; exact absurd rfl z; rfl)) (fun z => k2 (by cases b; rfl; exact absurd (by decide) z))
theorem go_icmp_ltN (a b : Nat) (hd : decode I.2.1 pc = .ok (.if_icmp .lt off, 3)) (ht : (pc : Int) + off = (t : Int)) (hq : pc + 3 = q) (hx : x = nI a) (hy : y = nI b) (ha : a < 2 ^ 31) (hb : b < 2 ^ 31) (k1 : a < b → Go I Z M loc st t) (k2 : b ≤ a → Go I Z M loc st q) : Go I Z M loc (vI y :: vI x :: st) pc := by
  subst hx; subst hy
  exact go_icmp_lt hd ht hq (fun z => k1 ((nI_ltI ha hb).mp z)) (fun z => k2 (Nat.le_of_not_lt fun w => z ((nI_ltI ha hb).mpr w)))
theorem go_icmp_geN (a b : Nat) (hd : decode I.2.1 pc = .ok (.if_icmp .ge off, 3)) (ht : (pc : Int) + off = (t : Int)) (hq : pc + 3 = q) (hx : x = nI a) (hy : y = nI b) (ha : a < 2 ^ 31) (hb : b < 2 ^ 31) (k1 : b ≤ a → Go I Z M loc st t) (k2 : a < b → Go I Z M loc st q) : Go I Z M loc (vI y :: vI x :: st) pc := by
  subst hx; subst hy
  exact go_icmp_ge hd ht hq (fun z => k1 ((nI_leI hb ha).mp z)) (fun z => k2 (Nat.lt_of_not_le fun w => z ((nI_leI hb ha).mpr w)))
theorem go_icmp_gtN (a b : Nat) (hd : decode I.2.1 pc = .ok (.if_icmp .gt off, 3)) (ht : (pc : Int) + off = (t : Int)) (hq : pc + 3 = q) (hx : x = nI a) (hy : y = nI b) (ha : a < 2 ^ 31) (hb : b < 2 ^ 31) (k1 : b < a → Go I Z M loc st t) (k2 : a ≤ b → Go I Z M loc st q) : Go I Z M loc (vI y :: vI x :: st) pc := by
  subst hx; subst hy
  exact go_icmp_gt hd ht hq (fun z => k1 ((nI_ltI hb ha).mp z)) (fun z => k2 (Nat.le_of_not_lt fun w => z ((nI_ltI hb ha).mpr w)))
theorem go_icmp_leN (a b : Nat) (hd : decode I.2.1 pc = .ok (.if_icmp .le off, 3)) (ht : (pc : Int) + off = (t : Int)) (hq : pc + 3 = q) (hx : x = nI a) (hy : y = nI b) (ha : a < 2 ^ 31) (hb : b < 2 ^ 31) (k1 : a ≤ b → Go I Z M loc st t) (k2 : b < a → Go I Z M loc st q) : Go I Z M loc (vI y :: vI x :: st) pc := by
  subst hx; subst hy
  exact go_icmp_le hd ht hq (fun z => k1 ((nI_leI ha hb).mp z)) (fun z => k2 (Nat.lt_of_not_le fun w => z ((nI_leI ha hb).mpr w)))
theorem go_icmp_eqN (a b : Nat) (hd : decode I.2.1 pc = .ok (.if_icmp .eq off, 3)) (ht : (pc : Int) + off = (t : Int)) (hq : pc + 3 = q) (hx : x = nI a) (hy : y = nI b) (ha : a < 2 ^ 31) (hb : b < 2 ^ 31) (k1 : a = b → Go I Z M loc st t) (k2 : ¬ a = b → Go I Z M loc st q) : Go I Z M loc (vI y :: vI x :: st) pc := by
  subst hx; subst hy
  exact go_icmp_eq hd ht hq (fun z => k1 ((nI_eq ha hb).mp z)) (fun z => k2 fun w => z ((nI_eq ha hb).mpr w))
theorem go_icmp_neN (a b : Nat) (hd : decode I.2.1 pc = .ok (.if_icmp .ne off, 3)) (ht : (pc : Int) + off = (t : Int)) (hq : pc + 3 = q) (hx : x = nI a) (hy : y = nI b) (ha : a < 2 ^ 31) (hb : b < 2 ^ 31) (k1 : ¬ a = b → Go I Z M loc st t) (k2 : a = b → Go I Z M loc st q) : Go I Z M loc (vI y :: vI x :: st) pc := by
  subst hx; subst hy
  exact go_icmp_ne hd ht hq (fun z => k1 fun w => z ((nI_eq ha hb).mpr w)) (fun z => k2 (by
    apply (nI_eq ha hb).mp
    exact Classical.byContradiction fun w => z w))
/-- two tops that are booleans -/
theorem go_icmp_neB {a b : Bool} (hd : decode I.2.1 pc = .ok (.if_icmp .ne off, 3)) (ht : (pc : Int) + off = (t : Int)) (hq : pc + 3 = q) (k1 : ¬ a = b → Go I Z M loc st t) (k2 : a = b → Go I Z M loc st q) : Go I Z M loc (vI (bI b) :: vI (bI a) :: st) pc :=
  go_icmp_ne hd ht hq (fun z => k1 fun w => z (bI_inj.mpr w)) (fun z => k2 (bI_inj.mp (Classical.byContradiction fun w => z w)))
end MoreRows
/-! ===== shields as numbers ===== -/
def mk (a k : Nat) : Nat := a / 5 ^ k % 5
def wm (a k m : Nat) : Nat := a + m * 5 ^ k - mk a k * 5 ^ k
def ap (a b : Nat) : Nat := cn (fun k => mk a k != mk b k) 6
theorem mk_lt (a k : Nat) : mk a k < 5 := Nat.mod_lt _ (by decide)
theorem ap_le (a b : Nat) : ap a b ≤ 6 := cn_le _ 6
theorem k_l5 : (5 : Int32) = nI 5 := rfl
theorem nI_div5 {a : Nat} (h : a < 2 ^ 31) : nI a / 5 = nI (a / 5) := by rw [k_l5]; exact pk_div h (by decide) (by decide)
theorem nI_rem5 {a : Nat} (h : a < 2 ^ 31) : nI a - nI a / 5 * 5 = nI (a % 5) := by rw [k_l5]; exact pk_rem h (by decide) (by decide)
theorem nI_mul5 (a : Nat) : nI a * 5 = nI (a * 5) := by rw [k_l5]; exact pk_mul a 5
theorem mk_wle (a k : Nat) : mk a k * 5 ^ k ≤ a := by
  unfold mk
  calc a / 5 ^ k % 5 * 5 ^ k ≤ a / 5 ^ k * 5 ^ k := Nat.mul_le_mul_right _ (Nat.mod_le _ _)
    _ ≤ a := Nat.div_mul_le_self a (5 ^ k)
theorem wm_nI (a k m : Nat) : nI a + (nI m - nI (mk a k)) * nI (5 ^ k) = nI (wm a k m) := by
  have h1 : nI (wm a k m) + nI (mk a k * 5 ^ k) = nI (a + m * 5 ^ k) := by
    rw [nI_add]
    congr 1
    unfold wm
    have := mk_wle a k
    omega
  have h2 : nI (wm a k m) = nI (a + m * 5 ^ k) - nI (mk a k * 5 ^ k) := by
    rw [← h1, Int32.add_sub_cancel]
  rw [h2, ← nI_add, ← pk_mul, ← pk_mul, Int32.sub_mul]
  rw [Int32.sub_eq_add_neg, Int32.sub_eq_add_neg, Int32.add_assoc]
theorem pow5_lt {k : Nat} (h : k < 6) : 5 ^ k ≤ 3125 := by
  rcases (show k = 0 ∨ k = 1 ∨ k = 2 ∨ k = 3 ∨ k = 4 ∨ k = 5 by omega) with rfl | rfl | rfl | rfl | rfl | rfl <;> decide
end
section
/-! ===== rows for longs, constants, the script in a method of its own ===== -/
theorem go_ladd {I : KI} {Z : KZ} {M : KM} {loc : List (Option KV)} {st : List KV} {pc q : Nat} {x y : Int64} (hd : decode I.2.1 pc = .ok (.ladd, 1))  (hq : pc + 1 = q) (h : Go I Z M loc (vJ (x + y) :: st) q) : Go I Z M loc (vJ y :: vJ x :: st) pc := by
  subst hq
  intro G Hb p l e R s m args below meth c cells slots Qf hC hZ H ls locs hW hF hL hl
  obtain ⟨hx, hb, hml, hrt, hown, hlk, hts, hK, hRf, hRl, hce, hsl⟩ := id hC
  exact lv_ladd hx hb hd (h G Hb p l e R s m args below meth c cells slots Qf hC hZ H ls locs hW hF hL hl)
theorem go_lmul {I : KI} {Z : KZ} {M : KM} {loc : List (Option KV)} {st : List KV} {pc q : Nat} {x y : Int64} (hd : decode I.2.1 pc = .ok (.lmul, 1))  (hq : pc + 1 = q) (h : Go I Z M loc (vJ (x * y) :: st) q) : Go I Z M loc (vJ y :: vJ x :: st) pc := by
  subst hq
  intro G Hb p l e R s m args below meth c cells slots Qf hC hZ H ls locs hW hF hL hl
  obtain ⟨hx, hb, hml, hrt, hown, hlk, hts, hK, hRf, hRl, hce, hsl⟩ := id hC
  exact lv_lmul hx hb hd (h G Hb p l e R s m args below meth c cells slots Qf hC hZ H ls locs hW hF hL hl)
theorem go_i2l {I : KI} {Z : KZ} {M : KM} {loc : List (Option KV)} {st : List KV} {pc q : Nat} {x : Int32} (hd : decode I.2.1 pc = .ok (.i2l, 1))  (hq : pc + 1 = q) (h : Go I Z M loc (vJ x.toInt64 :: st) q) : Go I Z M loc (vI x :: st) pc := by
  subst hq
  intro G Hb p l e R s m args below meth c cells slots Qf hC hZ H ls locs hW hF hL hl
  obtain ⟨hx, hb, hml, hrt, hown, hlk, hts, hK, hRf, hRl, hce, hsl⟩ := id hC
  exact lv_i2l hx hb hd rfl (h G Hb p l e R s m args below meth c cells slots Qf hC hZ H ls locs hW hF hL hl)
theorem go_ldc {I : KI} {Z : KZ} {M : KM} {loc : List (Option KV)} {st : List KV} {pc q : Nat} {idx : Nat} {v : Int32} (hd : decode I.2.1 pc = .ok (.ldc idx, 2)) (hc : Cond.constant I.1.cls idx v ∈ k_tb) (hq : pc + 2 = q) (h : Go I Z M loc (vI v :: st) q) : Go I Z M loc (st) pc := by
  subst hq
  intro G Hb p l e R s m args below meth c cells slots Qf hC hZ H ls locs hW hF hL hl
  obtain ⟨hx, hb, hml, hrt, hown, hlk, hts, hK, hRf, hRl, hce, hsl⟩ := id hC
  exact lv_ldc hx hb hown (hts _ hc) hd (h G Hb p l e R s m args below meth c cells slots Qf hC hZ H ls locs hW hF hL hl)
theorem go_ldc2 {I : KI} {Z : KZ} {M : KM} {loc : List (Option KV)} {st : List KV} {pc q : Nat} {idx : Nat} {v : Int64} (hd : decode I.2.1 pc = .ok (.ldc2_w idx, 3)) (hc : Cond.constantLong I.1.cls idx v ∈ k_tb) (hq : pc + 3 = q) (h : Go I Z M loc (vJ v :: st) q) : Go I Z M loc (st) pc := by
  subst hq
  intro G Hb p l e R s m args below meth c cells slots Qf hC hZ H ls locs hW hF hL hl
  obtain ⟨hx, hb, hml, hrt, hown, hlk, hts, hK, hRf, hRl, hce, hsl⟩ := id hC
  exact lv_ldc2 hx hb hown (hts _ hc) hd (h G Hb p l e R s m args below meth c cells slots Qf hC hZ H ls locs hW hF hL hl)
theorem go_ldc2d {I : KI} {Z : KZ} {M : KM} {loc : List (Option KV)} {st : List KV} {pc q : Nat} {idx : Nat} {v : UInt64} (hd : decode I.2.1 pc = .ok (.ldc2_w idx, 3)) (hc : Cond.constantDouble I.1.cls idx v ∈ k_tb) (hq : pc + 3 = q) (h : Go I Z M loc (vD v :: st) q) : Go I Z M loc (st) pc := by
  subst hq
  intro G Hb p l e R s m args below meth c cells slots Qf hC hZ H ls locs hW hF hL hl
  obtain ⟨hx, hb, hml, hrt, hown, hlk, hts, hK, hRf, hRl, hce, hsl⟩ := id hC
  exact lv_ldc2d hx hb hown (hts _ hc) hd (h G Hb p l e R s m args below meth c cells slots Qf hC hZ H ls locs hW hF hL hl)
theorem go_lload_n {I : KI} {Z : KZ} {M : KM} {loc : List (Option KV)} {st : List KV} {pc q : Nat} {k : Fin 4} {i : Nat} {x : Int64} (hd : decode I.2.1 pc = .ok (.lload_n k, 1)) (hi : (k : Nat) = i) (hv : loc[i]? = some (some (vJ x))) (hq : pc + 1 = q) (h : Go I Z M loc (vJ x :: st) q) : Go I Z M loc st pc := by
  subst hq
  intro G Hb p l e R s m args below meth c cells slots Qf hC hZ H ls locs hW hF hL hl
  obtain ⟨hx, hb, hml, hrt, hown, hlk, hts, hK, hRf, hRl, hce, hsl⟩ := id hC
  exact lv_lload_n hx hb hd hi (k_lc_at hl hv) (h G Hb p l e R s m args below meth c cells slots Qf hC hZ H ls locs hW hF hL hl)
theorem go_lload {I : KI} {Z : KZ} {M : KM} {loc : List (Option KV)} {st : List KV} {pc q : Nat} {i : Nat} {x : Int64} (hd : decode I.2.1 pc = .ok (.lload i, 2)) (hv : loc[i]? = some (some (vJ x))) (hq : pc + 2 = q) (h : Go I Z M loc (vJ x :: st) q) : Go I Z M loc st pc := by
  subst hq
  intro G Hb p l e R s m args below meth c cells slots Qf hC hZ H ls locs hW hF hL hl
  obtain ⟨hx, hb, hml, hrt, hown, hlk, hts, hK, hRf, hRl, hce, hsl⟩ := id hC
  exact lv_lload hx hb hd (k_lc_at hl hv) (h G Hb p l e R s m args below meth c cells slots Qf hC hZ H ls locs hW hF hL hl)
theorem k_lc_set2 {b nL i : Nat} {ls : Array Slot} {loc : List (Option KV)} {v : KV} (hd : k_nd loc i = true) (hl : lv_has ls nL ((i, k_cv b v) :: (k_lc b 0 loc).filter (fun q => !(q.1 == i) && (!(q.1 == i + 1) && !(q.1 + 1 == i && q.2.category == 2))))) : lv_has ls nL (k_lc b 0 ((loc.set i (some v)).set (i + 1) none)) := by
  refine ⟨hl.1, hl.2.1, fun q hq => ?_⟩
  obtain ⟨j, u, h1, h2⟩ := (k_lc_mem _ 0 q).mp hq
  apply hl.2.2 q
  rw [h2]
  by_cases hj2 : j = i + 1
  · subst hj2
    have hlt := (List.getElem?_eq_some_iff.mp h1).1
    rw [List.getElem?_set_self (by simpa using hlt)] at h1
    cases h1
  · rw [List.getElem?_set_ne (fun e => hj2 e.symm)] at h1
    by_cases hji : j = i
    · subst hji
      have hlt : j < loc.length := by
        have := (List.getElem?_eq_some_iff.mp h1).1
        simpa using this
      rw [List.getElem?_set_self hlt] at h1
      have : v = u := by simpa using h1
      subst this
      simp
    · rw [List.getElem?_set_ne (fun e => hji e.symm)] at h1
      refine List.mem_cons_of_mem _ (List.mem_filter.mpr ⟨(k_lc_mem _ 0 _).mpr ⟨j, u, h1, rfl⟩, ?_⟩)
      simp only [Nat.zero_add, Bool.and_eq_true, Bool.not_eq_true']
      refine ⟨by simpa using hji, by simpa using hj2, ?_⟩
      by_cases h3 : j + 1 = i
      · subst h3
        have h4 : k_cat u = 1 := by
          simp only [k_nd, h1] at hd
          simpa using hd
        rw [k_cat_eq, h4]
        simp
      · simp [h3]
theorem go_lstore_n {I : KI} {Z : KZ} {M : KM} {loc : List (Option KV)} {st : List KV} {pc q : Nat} {k : Fin 4} {i : Nat} {x : Int64} (hd : decode I.2.1 pc = .ok (.lstore_n k, 1)) (hi : (k : Nat) = i) (hn : i + 1 < I.2.2.1) (hc : k_nd loc i = true) (hq : pc + 1 = q) (h : Go I Z M ((loc.set i (some (vJ x))).set (i + 1) none) st q) : Go I Z M loc (vJ x :: st) pc := by
  subst hq
  intro G Hb p l e R s m args below meth c cells slots Qf hC hZ H ls locs hW hF hL hl
  obtain ⟨hx, hb, hml, hrt, hown, hlk, hts, hK, hRf, hRl, hce, hsl⟩ := id hC
  exact lv_lstore_n hx hb hd hi hl hn rfl (fun ls' hl' => h G Hb p l e R s m args below meth c cells slots Qf hC hZ H ls' locs hW hF hL (k_lc_set2 hc hl'))
theorem go_lstore {I : KI} {Z : KZ} {M : KM} {loc : List (Option KV)} {st : List KV} {pc q : Nat} {i : Nat} {x : Int64} (hd : decode I.2.1 pc = .ok (.lstore i, 2)) (hn : i + 1 < I.2.2.1) (hc : k_nd loc i = true) (hq : pc + 2 = q) (h : Go I Z M ((loc.set i (some (vJ x))).set (i + 1) none) st q) : Go I Z M loc (vJ x :: st) pc := by
  subst hq
  intro G Hb p l e R s m args below meth c cells slots Qf hC hZ H ls locs hW hF hL hl
  obtain ⟨hx, hb, hml, hrt, hown, hlk, hts, hK, hRf, hRl, hce, hsl⟩ := id hC
  exact lv_lstore hx hb hd hl hn rfl (fun ls' hl' => h G Hb p l e R s m args below meth c cells slots Qf hC hZ H ls' locs hW hF hL (k_lc_set2 hc hl'))
theorem go_lrett {I : KI} {Q : Option KV → KM → Prop} {M : KM} {loc : List (Option KV)} {pc : Nat} {x : Int64} (hd : decode I.2.1 pc = .ok (.lreturn, 1)) (hr : I.2.2.2.1 = some .long) (h : Q (some (vJ x)) M) : Go I (Zm Q) M loc ([vJ x]) pc := by
  intro G Hb p l e R s m args below meth c cells slots Qf hC hZ H ls locs hW hF hL hl
  obtain ⟨hx, hb, hml, hrt, hown, hlk, hts, hK, hRf, hRl, hce, hsl⟩ := id hC
  obtain ⟨rfl, rfl, rfl, rfl⟩ := hZ
  exact W.lret hx hb (hrt.trans hr) (fun t ht _ => ⟨⟨_, M, h, rfl, by rw [ht]; exact hW⟩, by rw [ht]; exact hF⟩) hL hd (hlocks := hlk)
theorem go_rl {I : KI} {M M' : KM} {loc : List (Option KV)} {pc : Nat} {x y : Int64} (hd : decode I.2.1 pc = .ok (.lreturn, 1)) (hr : I.2.2.2.1 = some .long) (h : x = y) (hM : M = M') : Go I (Zm (fun a b => a = some (vJ y) ∧ b = M')) M loc [vJ x] pc :=
  go_lrett hd hr ⟨by rw [h], hM⟩
theorem go_aloadR {I : KI} {Z : KZ} {M : KM} {loc : List (Option KV)} {st : List KV} {pc q : Nat} {k : Fin 4} {i b : Nat} (hd : decode I.2.1 pc = .ok (.aload_n k, 1)) (hi : (k : Nat) = i) (hv : loc[i]? = some (some (Sum.inl (Value.ref b)))) (hq : pc + 1 = q) (h : Go I Z M loc (Sum.inl (Value.ref b) :: st) q) : Go I Z M loc st pc := by
  subst hq
  intro G Hb p l e R s m args below meth c cells slots Qf hC hZ H ls locs hW hF hL hl
  obtain ⟨hx, hb, hml, hrt, hown, hlk, hts, hK, hRf, hRl, hce, hsl⟩ := id hC
  exact lv_aload_n hx hb hd hi (k_lc_at hl hv) (h G Hb p l e R s m args below meth c cells slots Qf hC hZ H ls locs hW hF hL hl)
/-- a contract of a method that reads the script -/
def k_PX (b L : Nat) (xs : Nat → Int32) (G : KG) (as : List KV) (M : KM) : Array Value → State → Prop := fun v U => (v = (as.map (k_cv G.1)).toArray ∧ k_HW G M U.heap ∧ va_K G.2.1 vwCl (k_tys G) U) ∧ va_X b L xs U U.heap ∧ b < U.heap.size ∧ b < G.1
theorem k_blindX {b L : Nat} {xs : Nat → Int32} {G : KG} {as : List KV} {M : KM} : FrameBlind (k_PX b L xs G as M) := fun a U g mk h => ⟨⟨h.1.1, h.1.2.1, va_K.moved (u := U) (U := U.calling g mk a) (Vm.Alike.refl U.vm) h.1.2.2⟩, va_X.moved (u := U) (U := U.calling g mk a) (Vm.Alike.refl U.vm) h.2.1, h.2.2⟩
def OkX (b L : Nat) (xs : Nat → Int32) (I : KI) (as : List KV) (M : KM) (Q : Option KV → KM → Prop) : Prop := ∀ (l : Launch) (G : KG), Met l I.1 (k_ws I) I.2.2.2.2 (k_PX b L xs G as M) (k_Q G Q) 0 0 (k_rng G)
def ZmX (b L : Nat) (xs : Nat → Int32) (Q : Option KV → KM → Prop) : KZ := fun G Hb p l e R s m args below meth c cells slots Qf => Zm Q G Hb p l e R s m args below meth c cells slots Qf ∧ va_X b L xs s Hb ∧ b < Hb.size ∧ b < G.1
theorem ok_ofX {b L : Nat} {xs : Nat → Int32} {I : KI} {as : List KV} {M : KM} {Q : Option KV → KM → Prop} (hn : plainName I.1.cls = true) (hc : as.all (fun v => k_cat v == 1) = true) (hlen : as.length ≤ I.2.2.1)
    (hrm : I.2.2.2.2.cells = 0 ∧ I.2.2.2.2.slots = 0) (h : Go I (ZmX b L xs Q) M (as.map some ++ List.replicate (I.2.2.1 - as.length) none) [] 0) : OkX b L xs I as M Q := by
  intro l G
  refine Met.ofW (cc := I.2.1) (maxL := I.2.2.1) (ret := I.2.2.2.1) (ws' := k_tb) hn rfl ?_
  intro p e s m args below meth c s₁ B hml hv
  obtain ⟨⟨rfl, hW, hK⟩, hX, hbs, hbG⟩ := hv
  have hcat : ∀ v ∈ as, k_cat v = 1 := fun v hv => by simpa using List.all_eq_true.mp hc v hv
  have hts := atoms_spec (ws := k_ws I) B.pre
  have hl := lv_entry (as.map (k_cv G.1)) (n := I.2.2.1) (by rw [k_sl_len as hcat]; exact hlen)
  rw [lg_entry_eq]
  rw [k_lc_args as 0 hcat, ← k_lc_rep (as.map some) (I.2.2.1 - as.length) 0] at hl
  exact h G s.heap p l e _ s m _ below meth c 0 0 _ ⟨B.exec, B.bytes, hml, B.returns, findClass_of_methodNamed B.named, B.notSynchronized, fun w hw => hts w (List.mem_cons_of_mem _ hw), hK, rfl, rfl, Nat.zero_le _, Nat.zero_le _⟩ ⟨⟨rfl, rfl, rfl, rfl⟩, hX, hbs, hbG⟩ s.heap _ [] hW k_FR.rf (fun q hq => by cases hq) hl
theorem k_rS {G : KG} {Hb H : Heap} {locs : List Loc} (hF : k_FR G Hb H) (hL : ∀ q ∈ locs, k_rng G q.base) : va_S (k_rng G) Hb H locs := ⟨Nat.le_of_eq hF.1.symm, fun q _ hq => hF.2 q hq, hL⟩
section ScriptRows
variable {b L : Nat} {xs : Nat → Int32} {I : KI} {Q : Option KV → KM → Prop} {M : KM} {loc : List (Option KV)} {st : List KV} {pc q : Nat}
theorem go_zx (h : Go I (Zm Q) M loc st pc) : Go I (ZmX b L xs Q) M loc st pc := by
  intro G Hb p l e R s m args below meth c cells slots Qf hC hZ
  exact h G Hb p l e R s m args below meth c cells slots Qf hC hZ.1
theorem go_xlen (hd : decode I.2.1 pc = .ok (.arraylength, 1)) (hq : pc + 1 = q) (h : Go I (ZmX b L xs Q) M loc (vI (nI L) :: st) q) : Go I (ZmX b L xs Q) M loc (Sum.inl (Value.ref b) :: st) pc := by
  subst hq
  intro G Hb p l e R s m args below meth c cells slots Qf hC hZ H ls locs hW hF hL hl
  obtain ⟨hx, hb, hml, hrt, hown, hlk, hts, hK, hRf, hRl, hce, hsl⟩ := id hC
  obtain ⟨-, hX, hbs, hbG⟩ := id hZ
  exact va_slen (A := k_rng G) hx hb hX hbs (fun z => by have := z.1; omega) (k_rS hF hL) hd (h G Hb p l e R s m args below meth c cells slots Qf hC hZ H ls locs hW hF hL hl)
theorem go_xld (j : Nat) {x : Int32} (hd : decode I.2.1 pc = .ok (.iaload, 1)) (hx : x = nI j) (hj : j < L) (hL2 : L ≤ 2048) (hq : pc + 1 = q) (h : Go I (ZmX b L xs Q) M loc (vI (xs j) :: st) q) : Go I (ZmX b L xs Q) M loc (vI x :: Sum.inl (Value.ref b) :: st) pc := by
  subst hq; subst hx
  intro G Hb p l e R s m args below meth c cells slots Qf hC hZ H ls locs hW hF hL hl
  obtain ⟨hx, hb, hml, hrt, hown, hlk, hts, hK, hRf, hRl, hce, hsl⟩ := id hC
  obtain ⟨-, hX, hbs, hbG⟩ := id hZ
  have hcl : (nI j).toNatClampNeg = j := nI_clamp (by omega)
  refine va_sld (A := k_rng G) hx hb hX hbs (fun z => by have := z.1; omega) (k_rS hF hL) (vp_in_nI hj (by omega)) hd ?_
  rw [hcl]
  exact h G Hb p l e R s m args below meth c cells slots Qf hC hZ H ls locs hW hF hL hl
end ScriptRows
/-- calling such a method, where the caller's start has the script -/
theorem go_callX {b L : Nat} {xs : Nat → Int32} {I cal : KI} {Z : KZ} {M : KM} {loc : List (Option KV)} {rest : List KV} {pc q idx n : Nat} (as : List KV) {Q1 : Option KV → KM → Prop} (hZX : ∀ G Hb p l e R s m args below meth c cells slots Qf, Z G Hb p l e R s m args below meth c cells slots Qf → va_X b L xs s Hb ∧ b < Hb.size ∧ b < G.1) (hd : decode I.2.1 pc = .ok (.invokestatic idx, 3)) (hlink : Cond.methodLink I.1.cls idx cal.1 ∈ k_tb) (hc : KCS cal n) (hR : KR I cal) (hn : as.length = n) (hr : (rest.map k_cat).sum ≤ 8) (hok : OkX b L xs cal as M Q1) (hq : pc + 3 = q) (kk : ∀ r M1, Q1 r M1 → Go I Z M1 loc (r.toList ++ rest) q) : Go I Z M loc (as.reverse ++ rest) pc := by
  subst hq
  intro G Hb p l e R s m args below meth c cells slots Qf hC hZ H ls locs hW hF hL hl
  obtain ⟨hx, hb, hml, hrt, hown, hlk, hts, hK, hRf, hRl, hce, hsl⟩ := id hC
  obtain ⟨hX, hbs, hbG⟩ := hZX _ _ _ _ _ _ _ _ _ _ _ _ _ _ _ hZ
  obtain ⟨⟨hcode, hini, hdd, hrc, hrs⟩, hstat⟩ := hc
  have hG := k_goodIn hcode
  have hcw := callB_of (R := R) (s := s) (args := args) (own := I.1.cls) (index := idx) n hts hG rfl hrc hrs (hts _ hini) (hts _ hlink) hdd (by rw [hRf, hRl]; exact hR)
  have hXH : va_X b L xs s H := hX.kept (hF.2 b (fun z => by have := z.1; omega))
  have hrun := va_runS (p := p) (l := l) (e := e) (R := R) (below := below) (meth := meth) (H := H) (locs := locs) (cells := cells) (slots := slots) (As := as.map (k_cv G.1)) (rest := rest.map (k_cv G.1)) (g := F0 m pc ls ((as.reverse ++ rest).map (k_cv G.1))) ⟨hx, hb, hml, hown, hts⟩ (hok l G) ⟨hcw, hts _ hstat⟩
    ⟨k_blindX, fun U hU hw => ⟨⟨rfl, by rw [hU]; exact hW, va_K.moved hw.alike hK⟩, by rw [hU]; exact va_X.moved hw.alike hXH, by rw [hU, hF.1]; exact hbs, hbG⟩⟩ rfl (by rw [List.length_map]; exact hn) hl.1 (by simp) (lv_room (by rw [k_catsum]; exact hr)) hd ⟨hce, hsl⟩
  intro T hT X
  obtain ⟨v, st₀, t, T', L', h0, X', hLf, e1, e2, ⟨⟨r, M1, hQ, hv, hW1⟩, hF1⟩, st9⟩ := hrun T hT X
  have hv2 : v = r.map (k_cv G.1) := by injection hv
  subst hv2
  rw [h0] at hF1
  have hst : (r.map (k_cv G.1)).toList ++ rest.map (k_cv G.1) = (r.toList ++ rest).map (k_cv G.1) := by cases r <;> simp
  rw [hst] at st9
  obtain ⟨t2, a1, b1⟩ := kk r M1 hQ G Hb p l e R s m args below meth c cells slots Qf hC hZ t.heap ls (locs ++ L') hW1 (hF.tr hF1) (fun q hq => by
    rcases List.mem_append.mp hq with h | h
    · exact hL q h
    · exact hLf q h) hl T' e1 X'
  exact ⟨t2, st9 t2 a1, b1⟩
end
