-- ===== PART A: goes FIRST, ahead of the names: the tables' words, and 'selects' of the private methods out of them =====
/-- a private method of a class that the tables say can be made, by its rows of tables_1 -/
def lw_okq (q : MethodName × Nat) : Prop := (q.1.cls ≠ "java/lang/invoke/MethodHandle" ∧ q.1.cls ≠ "java/lang/invoke/VarHandle") ∧ Cond.instantiable q.1.cls q.2 ∈ tables_1 ∧ Cond.privateMethod q.1 ∈ tables_1 ∧ Cond.instanceMethod q.1 ∈ tables_1
theorem lw_p0 : lw_okq (⟨"SonMarks$History", "stateAt", "(I)LSonMarks$Roll;"⟩, 2) := ⟨⟨by decide +kernel, by decide +kernel⟩, List.mem_of_getElem? (i := 54) (by decide +kernel), List.mem_of_getElem? (i := 243) (by decide +kernel), List.mem_of_getElem? (i := 244) (by decide +kernel)⟩
theorem lw_p1 : lw_okq (⟨"SonMarks$LineSearch", "reaches", "(LSonMarks$Roll;III)Z"⟩, 3) := ⟨⟨by decide +kernel, by decide +kernel⟩, List.mem_of_getElem? (i := 83) (by decide +kernel), List.mem_of_getElem? (i := 390) (by decide +kernel), List.mem_of_getElem? (i := 391) (by decide +kernel)⟩
theorem lw_p2 : lw_okq (⟨"SonMarks$LineSearch", "goOn", "(LSonMarks$Roll;II)V"⟩, 3) := ⟨⟨by decide +kernel, by decide +kernel⟩, List.mem_of_getElem? (i := 83) (by decide +kernel), List.mem_of_getElem? (i := 403) (by decide +kernel), List.mem_of_getElem? (i := 404) (by decide +kernel)⟩
theorem lw_p3 : lw_okq (⟨"SonMarks$LineSearch", "goOnFrom", "(LSonMarks$Roll;III)V"⟩, 3) := ⟨⟨by decide +kernel, by decide +kernel⟩, List.mem_of_getElem? (i := 83) (by decide +kernel), List.mem_of_getElem? (i := 415) (by decide +kernel), List.mem_of_getElem? (i := 416) (by decide +kernel)⟩
theorem lw_p4 : lw_okq (⟨"SonMarks$Roll", "refuse", "(I)I"⟩, 8) := ⟨⟨by decide +kernel, by decide +kernel⟩, List.mem_of_getElem? (i := 21) (by decide +kernel), List.mem_of_getElem? (i := 448) (by decide +kernel), List.mem_of_getElem? (i := 449) (by decide +kernel)⟩
theorem lw_p5 : lw_okq (⟨"SonMarks$Roll", "add", "(IIII)I"⟩, 8) := ⟨⟨by decide +kernel, by decide +kernel⟩, List.mem_of_getElem? (i := 21) (by decide +kernel), List.mem_of_getElem? (i := 452) (by decide +kernel), List.mem_of_getElem? (i := 453) (by decide +kernel)⟩
theorem lw_p6 : lw_okq (⟨"SonMarks", "keepIfChanged", "(I)I"⟩, 10) := ⟨⟨by decide +kernel, by decide +kernel⟩, List.mem_of_getElem? (i := 13) (by decide +kernel), List.mem_of_getElem? (i := 456) (by decide +kernel), List.mem_of_getElem? (i := 457) (by decide +kernel)⟩
theorem lw_p7 : lw_okq (⟨"SonMarks", "enrolDeed", "(I)I"⟩, 10) := ⟨⟨by decide +kernel, by decide +kernel⟩, List.mem_of_getElem? (i := 13) (by decide +kernel), List.mem_of_getElem? (i := 612) (by decide +kernel), List.mem_of_getElem? (i := 613) (by decide +kernel)⟩
def lw_privs_1 : List (MethodName × Nat) := [(⟨"SonMarks$History", "stateAt", "(I)LSonMarks$Roll;"⟩, 2), (⟨"SonMarks$LineSearch", "reaches", "(LSonMarks$Roll;III)Z"⟩, 3), (⟨"SonMarks$LineSearch", "goOn", "(LSonMarks$Roll;II)V"⟩, 3), (⟨"SonMarks$LineSearch", "goOnFrom", "(LSonMarks$Roll;III)V"⟩, 3), (⟨"SonMarks$Roll", "refuse", "(I)I"⟩, 8), (⟨"SonMarks$Roll", "add", "(IIII)I"⟩, 8), (⟨"SonMarks", "keepIfChanged", "(I)I"⟩, 10), (⟨"SonMarks", "enrolDeed", "(I)I"⟩, 10)]
theorem lw_r1 : ∀ q ∈ lw_privs_1, lw_okq q := List.forall_mem_cons.mpr ⟨lw_p0, List.forall_mem_cons.mpr ⟨lw_p1, List.forall_mem_cons.mpr ⟨lw_p2, List.forall_mem_cons.mpr ⟨lw_p3, List.forall_mem_cons.mpr ⟨lw_p4, List.forall_mem_cons.mpr ⟨lw_p5, List.forall_mem_cons.mpr ⟨lw_p6, List.forall_mem_cons.mpr ⟨lw_p7, fun _ h => absurd h List.not_mem_nil⟩⟩⟩⟩⟩⟩⟩⟩
def lw_privs : List (MethodName × Nat) := lw_privs_1
def lw_tbl : List Cond := k2_sels lw_privs ++ tables_1
theorem lw_privs_ok : ∀ q ∈ lw_privs, lw_okq q := lw_r1
/-- the streams that the claim lets the run draw from -/
abbrev lw_cs : List Choice := [Jvm.Choice.named "NaN.bits"]
theorem lw_bits : nanBits ∈ lw_cs := by first | decide | exact List.mem_cons_self | simp [lw_cs, nanBits]

def RX0 : String := "SonMarks$Accounts"
def TX0 : u_T := fun k => match k with
  | _ => ("", "", "", false)
def tyX0 : Nat → FieldType := fun k => match k with
  | _ => .int
abbrev wsX00 : List Cond := u_ws RX0 TX0 0
theorem nmX0 : ∀ a, a < 0 → ∀ b, b < 0 → a ≠ b → (TX0 a).2.1 ≠ (TX0 b).2.1 := by decide +kernel
theorem tyX0_ok : ∀ k, k < 0 → parseFieldDescriptor (TX0 k).2.2.1 = some (tyX0 k) := by decide +kernel
abbrev cX0_founders : ByteArray := prog_2_method_2_code
def yX0_founders : MethodName := ⟨RX0, "founders", "(LSonMarks$Roll;)I"⟩
abbrev cX0_confusedPairs : ByteArray := prog_2_method_3_code
def yX0_confusedPairs : MethodName := ⟨RX0, "confusedPairs", "(LSonMarks$Roll;)I"⟩
abbrev cX0_areConfused : ByteArray := prog_2_method_4_code
def yX0_areConfused : MethodName := ⟨RX0, "areConfused", "(LSonMarks$Roll;II)Z"⟩
abbrev cX0_mostStepsFromFounder : ByteArray := prog_2_method_5_code
def yX0_mostStepsFromFounder : MethodName := ⟨RX0, "mostStepsFromFounder", "(LSonMarks$Roll;)I"⟩
abbrev cX0_differentShields : ByteArray := prog_2_method_6_code
def yX0_differentShields : MethodName := ⟨RX0, "differentShields", "(LSonMarks$Roll;)I"⟩
abbrev cX0_isFirstWithItsShield : ByteArray := prog_2_method_7_code
def yX0_isFirstWithItsShield : MethodName := ⟨RX0, "isFirstWithItsShield", "(LSonMarks$Roll;I)Z"⟩
abbrev cX0_farFromFather : ByteArray := prog_2_method_8_code
def yX0_farFromFather : MethodName := ⟨RX0, "farFromFather", "(LSonMarks$Roll;)I"⟩
abbrev cX0_livingSonless : ByteArray := prog_2_method_9_code
def yX0_livingSonless : MethodName := ⟨RX0, "livingSonless", "(LSonMarks$Roll;)I"⟩
abbrev cX0_livingWithMark : ByteArray := prog_2_method_10_code
def yX0_livingWithMark : MethodName := ⟨RX0, "livingWithMark", "(LSonMarks$Roll;II)I"⟩
abbrev cX0_meanApart : ByteArray := prog_2_method_11_code
def yX0_meanApart : MethodName := ⟨RX0, "meanApart", "(LSonMarks$Roll;)D"⟩
def RX1 : String := "SonMarks$Births"
def TX1 : u_T := fun k => match k with
  | _ => ("", "", "", false)
def tyX1 : Nat → FieldType := fun k => match k with
  | _ => .int
abbrev wsX10 : List Cond := u_ws RX1 TX1 0
theorem nmX1 : ∀ a, a < 0 → ∀ b, b < 0 → a ≠ b → (TX1 a).2.1 ≠ (TX1 b).2.1 := by decide +kernel
theorem tyX1_ok : ∀ k, k < 0 → parseFieldDescriptor (TX1 k).2.2.1 = some (tyX1 k) := by decide +kernel
abbrev cX1_leftByTrying : ByteArray := prog_3_method_2_code
def yX1_leftByTrying : MethodName := ⟨RX1, "leftByTrying", "(LSonMarks$Roll;I)I"⟩
abbrev cX1_leftByPlaces : ByteArray := prog_3_method_3_code
def yX1_leftByPlaces : MethodName := ⟨RX1, "leftByPlaces", "(LSonMarks$Roll;I)I"⟩
abbrev cX1_livingApartAt : ByteArray := prog_3_method_4_code
def yX1_livingApartAt : MethodName := ⟨RX1, "livingApartAt", "(LSonMarks$Roll;II)I"⟩
abbrev cX1_leftToAll : ByteArray := prog_3_method_5_code
def yX1_leftToAll : MethodName := ⟨RX1, "leftToAll", "(LSonMarks$Roll;)I"⟩
abbrev cX1_farthest : ByteArray := prog_3_method_6_code
def yX1_farthest : MethodName := ⟨RX1, "farthest", "(LSonMarks$Roll;I)I"⟩
abbrev cX1_leastApart : ByteArray := prog_3_method_7_code
def yX1_leastApart : MethodName := ⟨RX1, "leastApart", "(LSonMarks$Roll;II)I"⟩
def RX2 : String := "SonMarks$History"
def TX2 : u_T := fun k => match k with
  | 0 => ("SonMarks$History", "states", "[LSonMarks$Roll;", true)
  | _ => ("SonMarks$History", "size", "I", false)
def tyX2 : Nat → FieldType := fun k => match k with
  | 0 => .array (.object "SonMarks$Roll")
  | _ => .int
abbrev wsX20 : List Cond := u_ws RX2 TX2 2
theorem nmX2 : ∀ a, a < 2 → ∀ b, b < 2 → a ≠ b → (TX2 a).2.1 ≠ (TX2 b).2.1 := by decide +kernel
theorem tyX2_ok : ∀ k, k < 2 → parseFieldDescriptor (TX2 k).2.2.1 = some (tyX2 k) := by decide +kernel
abbrev cX2_init : ByteArray := prog_4_method_1_code
def yX2_init : MethodName := ⟨RX2, "<init>", "()V"⟩
abbrev cX2_size : ByteArray := prog_4_method_2_code
def yX2_size : MethodName := ⟨RX2, "size", "()I"⟩
abbrev cX2_stateAt : ByteArray := prog_4_method_3_code
def yX2_stateAt : MethodName := ⟨RX2, "stateAt", "(I)LSonMarks$Roll;"⟩
abbrev cX2_note : ByteArray := prog_4_method_4_code
def yX2_note : MethodName := ⟨RX2, "note", "(LSonMarks$Roll;)V"⟩
abbrev cX2_keepNoted : ByteArray := prog_4_method_5_code
def yX2_keepNoted : MethodName := ⟨RX2, "keepNoted", "()V"⟩
abbrev cX2_takeBack : ByteArray := prog_4_method_6_code
def yX2_takeBack : MethodName := ⟨RX2, "takeBack", "(LSonMarks$Roll;)V"⟩
def RX3 : String := "SonMarks$Kindred"
def TX3 : u_T := fun k => match k with
  | _ => ("", "", "", false)
def tyX3 : Nat → FieldType := fun k => match k with
  | _ => .int
abbrev wsX30 : List Cond := u_ws RX3 TX3 0
theorem nmX3 : ∀ a, a < 0 → ∀ b, b < 0 → a ≠ b → (TX3 a).2.1 ≠ (TX3 b).2.1 := by decide +kernel
theorem tyX3_ok : ∀ k, k < 0 → parseFieldDescriptor (TX3 k).2.2.1 = some (tyX3 k) := by decide +kernel
abbrev cX3_livingSons : ByteArray := prog_5_method_2_code
def yX3_livingSons : MethodName := ⟨RX3, "livingSons", "(LSonMarks$Roll;I)I"⟩
abbrev cX3_livingBrothers : ByteArray := prog_5_method_3_code
def yX3_livingBrothers : MethodName := ⟨RX3, "livingBrothers", "(LSonMarks$Roll;I)I"⟩
abbrev cX3_livingCousins : ByteArray := prog_5_method_4_code
def yX3_livingCousins : MethodName := ⟨RX3, "livingCousins", "(LSonMarks$Roll;I)I"⟩
abbrev cX3_descendants : ByteArray := prog_5_method_5_code
def yX3_descendants : MethodName := ⟨RX3, "descendants", "(LSonMarks$Roll;I)I"⟩
abbrev cX3_comesFrom : ByteArray := prog_5_method_6_code
def yX3_comesFrom : MethodName := ⟨RX3, "comesFrom", "(LSonMarks$Roll;II)Z"⟩
abbrev cX3_stepsFromFounder : ByteArray := prog_5_method_7_code
def yX3_stepsFromFounder : MethodName := ⟨RX3, "stepsFromFounder", "(LSonMarks$Roll;I)I"⟩
abbrev cX3_placesFromFather : ByteArray := prog_5_method_8_code
def yX3_placesFromFather : MethodName := ⟨RX3, "placesFromFather", "(LSonMarks$Roll;I)I"⟩
abbrev cX3_nearness : ByteArray := prog_5_method_9_code
def yX3_nearness : MethodName := ⟨RX3, "nearness", "(LSonMarks$Roll;II)I"⟩
abbrev cX3_heirOf : ByteArray := prog_5_method_10_code
def yX3_heirOf : MethodName := ⟨RX3, "heirOf", "(LSonMarks$Roll;I)I"⟩
def RX4 : String := "SonMarks$LineSearch"
def TX4 : u_T := fun k => match k with
  | 0 => ("SonMarks$LineSearch", "seen", "LSonMarks$ShieldSet;", true)
  | 1 => ("SonMarks$LineSearch", "reached", "LSonMarks$ShieldSet;", false)
  | _ => ("SonMarks$LineSearch", "next", "LSonMarks$ShieldSet;", false)
def tyX4 : Nat → FieldType := fun k => match k with
  | 0 => .object "SonMarks$ShieldSet"
  | 1 => .object "SonMarks$ShieldSet"
  | _ => .object "SonMarks$ShieldSet"
abbrev wsX40 : List Cond := u_ws RX4 TX4 3
theorem nmX4 : ∀ a, a < 3 → ∀ b, b < 3 → a ≠ b → (TX4 a).2.1 ≠ (TX4 b).2.1 := by decide +kernel
theorem tyX4_ok : ∀ k, k < 3 → parseFieldDescriptor (TX4 k).2.2.1 = some (tyX4 k) := by decide +kernel
abbrev cX4_init : ByteArray := prog_6_method_1_code
def yX4_init : MethodName := ⟨RX4, "<init>", "()V"⟩
abbrev cX4_fewest : ByteArray := prog_6_method_2_code
def yX4_fewest : MethodName := ⟨RX4, "fewest", "(LSonMarks$Roll;II)I"⟩
abbrev cX4_reaches : ByteArray := prog_6_method_3_code
def yX4_reaches : MethodName := ⟨RX4, "reaches", "(LSonMarks$Roll;III)Z"⟩
abbrev cX4_goOn : ByteArray := prog_6_method_4_code
def yX4_goOn : MethodName := ⟨RX4, "goOn", "(LSonMarks$Roll;II)V"⟩
abbrev cX4_goOnFrom : ByteArray := prog_6_method_5_code
def yX4_goOnFrom : MethodName := ⟨RX4, "goOnFrom", "(LSonMarks$Roll;III)V"⟩
def RX5 : String := "SonMarks$Pad"
def TX5 : u_T := fun k => match k with
  | 0 => ("SonMarks$Pad", "signs", "[I", true)
  | _ => ("SonMarks$Pad", "length", "I", false)
def tyX5 : Nat → FieldType := fun k => match k with
  | 0 => .array .int
  | _ => .int
abbrev wsX50 : List Cond := u_ws RX5 TX5 2
theorem nmX5 : ∀ a, a < 2 → ∀ b, b < 2 → a ≠ b → (TX5 a).2.1 ≠ (TX5 b).2.1 := by decide +kernel
theorem tyX5_ok : ∀ k, k < 2 → parseFieldDescriptor (TX5 k).2.2.1 = some (tyX5 k) := by decide +kernel
abbrev cX5_init : ByteArray := prog_7_method_1_code
def yX5_init : MethodName := ⟨RX5, "<init>", "()V"⟩
abbrev cX5_length : ByteArray := prog_7_method_2_code
def yX5_length : MethodName := ⟨RX5, "length", "()I"⟩
abbrev cX5_isFull : ByteArray := prog_7_method_3_code
def yX5_isFull : MethodName := ⟨RX5, "isFull", "()Z"⟩
abbrev cX5_put : ByteArray := prog_7_method_4_code
def yX5_put : MethodName := ⟨RX5, "put", "(I)V"⟩
abbrev cX5_empty : ByteArray := prog_7_method_5_code
def yX5_empty : MethodName := ⟨RX5, "empty", "()V"⟩
abbrev cX5_signAt : ByteArray := prog_7_method_6_code
def yX5_signAt : MethodName := ⟨RX5, "signAt", "(I)I"⟩
abbrev cX5_startsDeed : ByteArray := prog_7_method_7_code
def yX5_startsDeed : MethodName := ⟨RX5, "startsDeed", "(I)Z"⟩
abbrev cX5_digitAt : ByteArray := prog_7_method_8_code
def yX5_digitAt : MethodName := ⟨RX5, "digitAt", "(I)I"⟩
abbrev cX5_afterNumber : ByteArray := prog_7_method_9_code
def yX5_afterNumber : MethodName := ⟨RX5, "afterNumber", "(I)I"⟩
abbrev cX5_numberAt : ByteArray := prog_7_method_10_code
def yX5_numberAt : MethodName := ⟨RX5, "numberAt", "(I)I"⟩
abbrev cX5_shieldAt : ByteArray := prog_7_method_11_code
def yX5_shieldAt : MethodName := ⟨RX5, "shieldAt", "(I)I"⟩
abbrev cX5_firstFault : ByteArray := prog_7_method_12_code
def yX5_firstFault : MethodName := ⟨RX5, "firstFault", "()I"⟩
abbrev cX5_stateAfter : ByteArray := prog_7_method_13_code
def yX5_stateAfter : MethodName := ⟨RX5, "stateAfter", "(II)I"⟩
abbrev cX5_stateAfterLetter : ByteArray := prog_7_method_14_code
def yX5_stateAfterLetter : MethodName := ⟨RX5, "stateAfterLetter", "(I)I"⟩
abbrev cX5_stateAfterFather : ByteArray := prog_7_method_15_code
def yX5_stateAfterFather : MethodName := ⟨RX5, "stateAfterFather", "(I)I"⟩
abbrev cX5_stateAfterDeed : ByteArray := prog_7_method_16_code
def yX5_stateAfterDeed : MethodName := ⟨RX5, "stateAfterDeed", "(I)I"⟩
abbrev cX5_stateAfterDigit : ByteArray := prog_7_method_17_code
def yX5_stateAfterDigit : MethodName := ⟨RX5, "stateAfterDigit", "(III)I"⟩
abbrev cX5_isBetween : ByteArray := prog_7_method_18_code
def yX5_isBetween : MethodName := ⟨RX5, "isBetween", "(III)Z"⟩
def RX6 : String := "SonMarks$Roll"
def TX6 : u_T := fun k => match k with
  | 0 => ("SonMarks$Roll", "shields", "[I", true)
  | 1 => ("SonMarks$Roll", "alive", "[Z", true)
  | 2 => ("SonMarks$Roll", "fathers", "[I", true)
  | 3 => ("SonMarks$Roll", "birthPlaces", "[I", true)
  | 4 => ("SonMarks$Roll", "birthMarks", "[I", true)
  | 5 => ("SonMarks$Roll", "size", "I", false)
  | 6 => ("SonMarks$Roll", "heirs", "I", false)
  | _ => ("SonMarks$Roll", "refusals", "I", false)
def tyX6 : Nat → FieldType := fun k => match k with
  | 0 => .array .int
  | 1 => .array .boolean
  | 2 => .array .int
  | 3 => .array .int
  | 4 => .array .int
  | 5 => .int
  | 6 => .int
  | _ => .int
abbrev wsX60 : List Cond := u_ws RX6 TX6 8
theorem nmX6 : ∀ a, a < 8 → ∀ b, b < 8 → a ≠ b → (TX6 a).2.1 ≠ (TX6 b).2.1 := by decide +kernel
theorem tyX6_ok : ∀ k, k < 8 → parseFieldDescriptor (TX6 k).2.2.1 = some (tyX6 k) := by decide +kernel
abbrev cX6_init : ByteArray := prog_8_method_1_code
def yX6_init : MethodName := ⟨RX6, "<init>", "()V"⟩
abbrev cX6_copyFrom : ByteArray := prog_8_method_2_code
def yX6_copyFrom : MethodName := ⟨RX6, "copyFrom", "(LSonMarks$Roll;)V"⟩
abbrev cX6_size : ByteArray := prog_8_method_3_code
def yX6_size : MethodName := ⟨RX6, "size", "()I"⟩
abbrev cX6_heirs : ByteArray := prog_8_method_4_code
def yX6_heirs : MethodName := ⟨RX6, "heirs", "()I"⟩
abbrev cX6_refusals : ByteArray := prog_8_method_5_code
def yX6_refusals : MethodName := ⟨RX6, "refusals", "()I"⟩
abbrev cX6_has : ByteArray := prog_8_method_6_code
def yX6_has : MethodName := ⟨RX6, "has", "(I)Z"⟩
abbrev cX6_shieldOf : ByteArray := prog_8_method_7_code
def yX6_shieldOf : MethodName := ⟨RX6, "shieldOf", "(I)I"⟩
abbrev cX6_isAlive : ByteArray := prog_8_method_8_code
def yX6_isAlive : MethodName := ⟨RX6, "isAlive", "(I)Z"⟩
abbrev cX6_fatherOf : ByteArray := prog_8_method_9_code
def yX6_fatherOf : MethodName := ⟨RX6, "fatherOf", "(I)I"⟩
abbrev cX6_birthPlaceOf : ByteArray := prog_8_method_10_code
def yX6_birthPlaceOf : MethodName := ⟨RX6, "birthPlaceOf", "(I)I"⟩
abbrev cX6_birthMarkOf : ByteArray := prog_8_method_11_code
def yX6_birthMarkOf : MethodName := ⟨RX6, "birthMarkOf", "(I)I"⟩
abbrev cX6_living : ByteArray := prog_8_method_12_code
def yX6_living : MethodName := ⟨RX6, "living", "()I"⟩
abbrev cX6_livingWith : ByteArray := prog_8_method_13_code
def yX6_livingWith : MethodName := ⟨RX6, "livingWith", "(I)I"⟩
abbrev cX6_sonsOf : ByteArray := prog_8_method_14_code
def yX6_sonsOf : MethodName := ⟨RX6, "sonsOf", "(I)I"⟩
abbrev cX6_areBrothers : ByteArray := prog_8_method_15_code
def yX6_areBrothers : MethodName := ⟨RX6, "areBrothers", "(II)Z"⟩
abbrev cX6_founderComes : ByteArray := prog_8_method_16_code
def yX6_founderComes : MethodName := ⟨RX6, "founderComes", "(I)I"⟩
abbrev cX6_sonComes : ByteArray := prog_8_method_17_code
def yX6_sonComes : MethodName := ⟨RX6, "sonComes", "(III)I"⟩
abbrev cX6_goes : ByteArray := prog_8_method_18_code
def yX6_goes : MethodName := ⟨RX6, "goes", "(I)I"⟩
abbrev cX6_becomesHeir : ByteArray := prog_8_method_19_code
def yX6_becomesHeir : MethodName := ⟨RX6, "becomesHeir", "(I)I"⟩
abbrev cX6_refuse : ByteArray := prog_8_method_20_code
def yX6_refuse : MethodName := ⟨RX6, "refuse", "(I)I"⟩
abbrev cX6_add : ByteArray := prog_8_method_21_code
def yX6_add : MethodName := ⟨RX6, "add", "(IIII)I"⟩
abbrev cX6_reasonAgainstSon : ByteArray := prog_8_method_22_code
def yX6_reasonAgainstSon : MethodName := ⟨RX6, "reasonAgainstSon", "(III)I"⟩
abbrev cX6_cousinChanged : ByteArray := prog_8_method_23_code
def yX6_cousinChanged : MethodName := ⟨RX6, "cousinChanged", "(II)Z"⟩
abbrev cX6_reasonAgainstHeir : ByteArray := prog_8_method_24_code
def yX6_reasonAgainstHeir : MethodName := ⟨RX6, "reasonAgainstHeir", "(I)I"⟩
def RX7 : String := "SonMarks$ShieldSet"
def TX7 : u_T := fun k => match k with
  | _ => ("SonMarks$ShieldSet", "words", "[J", true)
def tyX7 : Nat → FieldType := fun k => match k with
  | _ => .array .long
abbrev wsX70 : List Cond := u_ws RX7 TX7 1
theorem nmX7 : ∀ a, a < 1 → ∀ b, b < 1 → a ≠ b → (TX7 a).2.1 ≠ (TX7 b).2.1 := by decide +kernel
theorem tyX7_ok : ∀ k, k < 1 → parseFieldDescriptor (TX7 k).2.2.1 = some (tyX7 k) := by decide +kernel
abbrev cX7_init : ByteArray := prog_9_method_1_code
def yX7_init : MethodName := ⟨RX7, "<init>", "()V"⟩
abbrev cX7_has : ByteArray := prog_9_method_2_code
def yX7_has : MethodName := ⟨RX7, "has", "(I)Z"⟩
abbrev cX7_add : ByteArray := prog_9_method_3_code
def yX7_add : MethodName := ⟨RX7, "add", "(I)V"⟩
abbrev cX7_empty : ByteArray := prog_9_method_4_code
def yX7_empty : MethodName := ⟨RX7, "empty", "()V"⟩
abbrev cX7_isWordEmpty : ByteArray := prog_9_method_5_code
def yX7_isWordEmpty : MethodName := ⟨RX7, "isWordEmpty", "(I)Z"⟩
def RX8 : String := "SonMarks$Shields"
def TX8 : u_T := fun k => match k with
  | _ => ("", "", "", false)
def tyX8 : Nat → FieldType := fun k => match k with
  | _ => .int
abbrev wsX80 : List Cond := u_ws RX8 TX8 0
theorem nmX8 : ∀ a, a < 0 → ∀ b, b < 0 → a ≠ b → (TX8 a).2.1 ≠ (TX8 b).2.1 := by decide +kernel
theorem tyX8_ok : ∀ k, k < 0 → parseFieldDescriptor (TX8 k).2.2.1 = some (tyX8 k) := by decide +kernel
abbrev cX8_isShield : ByteArray := prog_10_method_2_code
def yX8_isShield : MethodName := ⟨RX8, "isShield", "(I)Z"⟩
abbrev cX8_isPlace : ByteArray := prog_10_method_3_code
def yX8_isPlace : MethodName := ⟨RX8, "isPlace", "(I)Z"⟩
abbrev cX8_isMark : ByteArray := prog_10_method_4_code
def yX8_isMark : MethodName := ⟨RX8, "isMark", "(I)Z"⟩
abbrev cX8_markAt : ByteArray := prog_10_method_5_code
def yX8_markAt : MethodName := ⟨RX8, "markAt", "(II)I"⟩
abbrev cX8_weightOf : ByteArray := prog_10_method_6_code
def yX8_weightOf : MethodName := ⟨RX8, "weightOf", "(I)I"⟩
abbrev cX8_withMark : ByteArray := prog_10_method_7_code
def yX8_withMark : MethodName := ⟨RX8, "withMark", "(III)I"⟩
abbrev cX8_apart : ByteArray := prog_10_method_8_code
def yX8_apart : MethodName := ⟨RX8, "apart", "(II)I"⟩
def RX9 : String := "SonMarks"
def TX9 : u_T := fun k => match k with
  | 0 => ("SonMarks", "roll", "LSonMarks$Roll;", true)
  | 1 => ("SonMarks", "snapshot", "LSonMarks$Roll;", true)
  | 2 => ("SonMarks", "trial", "LSonMarks$Roll;", true)
  | 3 => ("SonMarks", "history", "LSonMarks$History;", true)
  | 4 => ("SonMarks", "pad", "LSonMarks$Pad;", true)
  | 5 => ("SonMarks", "lines", "LSonMarks$LineSearch;", true)
  | 6 => ("SonMarks", "snapshotTaken", "Z", false)
  | 7 => ("SonMarks", "stopAnswer", "I", false)
  | 8 => ("SonMarks", "stopDeed", "I", false)
  | _ => ("SonMarks", "stopPosition", "I", false)
def tyX9 : Nat → FieldType := fun k => match k with
  | 0 => .object "SonMarks$Roll"
  | 1 => .object "SonMarks$Roll"
  | 2 => .object "SonMarks$Roll"
  | 3 => .object "SonMarks$History"
  | 4 => .object "SonMarks$Pad"
  | 5 => .object "SonMarks$LineSearch"
  | 6 => .boolean
  | 7 => .int
  | 8 => .int
  | _ => .int
abbrev wsX90 : List Cond := u_ws RX9 TX9 10
theorem nmX9 : ∀ a, a < 10 → ∀ b, b < 10 → a ≠ b → (TX9 a).2.1 ≠ (TX9 b).2.1 := by decide +kernel
theorem tyX9_ok : ∀ k, k < 10 → parseFieldDescriptor (TX9 k).2.2.1 = some (tyX9 k) := by decide +kernel
abbrev cX9_init : ByteArray := prog_1_method_1_code
def yX9_init : MethodName := ⟨RX9, "<init>", "()V"⟩
abbrev cX9_found : ByteArray := prog_1_method_2_code
def yX9_found : MethodName := ⟨RX9, "found", "(I)I"⟩
abbrev cX9_bear : ByteArray := prog_1_method_3_code
def yX9_bear : MethodName := ⟨RX9, "bear", "(III)I"⟩
abbrev cX9_die : ByteArray := prog_1_method_4_code
def yX9_die : MethodName := ⟨RX9, "die", "(I)I"⟩
abbrev cX9_inherit : ByteArray := prog_1_method_5_code
def yX9_inherit : MethodName := ⟨RX9, "inherit", "(I)I"⟩
abbrev cX9_keepIfChanged : ByteArray := prog_1_method_6_code
def yX9_keepIfChanged : MethodName := ⟨RX9, "keepIfChanged", "(I)I"⟩
abbrev cX9_append : ByteArray := prog_1_method_7_code
def yX9_append : MethodName := ⟨RX9, "append", "(I)I"⟩
abbrev cX9_clear : ByteArray := prog_1_method_8_code
def yX9_clear : MethodName := ⟨RX9, "clear", "()I"⟩
abbrev cX9_fault : ByteArray := prog_1_method_9_code
def yX9_fault : MethodName := ⟨RX9, "fault", "()I"⟩
abbrev cX9_enrol : ByteArray := prog_1_method_10_code
def yX9_enrol : MethodName := ⟨RX9, "enrol", "()I"⟩
abbrev cX9_enrolDeed : ByteArray := prog_1_method_11_code
def yX9_enrolDeed : MethodName := ⟨RX9, "enrolDeed", "(I)I"⟩
abbrev cX9_why : ByteArray := prog_1_method_12_code
def yX9_why : MethodName := ⟨RX9, "why", "(I)I"⟩
abbrev cX9_person : ByteArray := prog_1_method_13_code
def yX9_person : MethodName := ⟨RX9, "person", "(II)I"⟩
abbrev cX9_orNotFound : ByteArray := prog_1_method_14_code
def yX9_orNotFound : MethodName := ⟨RX9, "orNotFound", "(I)I"⟩
abbrev cX9_mark : ByteArray := prog_1_method_15_code
def yX9_mark : MethodName := ⟨RX9, "mark", "(II)I"⟩
abbrev cX9_whyNot : ByteArray := prog_1_method_16_code
def yX9_whyNot : MethodName := ⟨RX9, "whyNot", "(III)I"⟩
abbrev cX9_choices : ByteArray := prog_1_method_17_code
def yX9_choices : MethodName := ⟨RX9, "choices", "(II)I"⟩
abbrev cX9_best : ByteArray := prog_1_method_18_code
def yX9_best : MethodName := ⟨RX9, "best", "(I)I"⟩
abbrev cX9_differs : ByteArray := prog_1_method_19_code
def yX9_differs : MethodName := ⟨RX9, "differs", "(II)I"⟩
abbrev cX9_kin : ByteArray := prog_1_method_20_code
def yX9_kin : MethodName := ⟨RX9, "kin", "(II)I"⟩
abbrev cX9_bearer : ByteArray := prog_1_method_21_code
def yX9_bearer : MethodName := ⟨RX9, "bearer", "(I)I"⟩
abbrev cX9_line : ByteArray := prog_1_method_22_code
def yX9_line : MethodName := ⟨RX9, "line", "(III)I"⟩
abbrev cX9_isWay : ByteArray := prog_1_method_23_code
def yX9_isWay : MethodName := ⟨RX9, "isWay", "(I)Z"⟩
abbrev cX9_count : ByteArray := prog_1_method_24_code
def yX9_count : MethodName := ⟨RX9, "count", "(I)I"⟩
abbrev cX9_borne : ByteArray := prog_1_method_25_code
def yX9_borne : MethodName := ⟨RX9, "borne", "(II)I"⟩
abbrev cX9_unlike : ByteArray := prog_1_method_26_code
def yX9_unlike : MethodName := ⟨RX9, "unlike", "()D"⟩
abbrev cX9_ifDead : ByteArray := prog_1_method_27_code
def yX9_ifDead : MethodName := ⟨RX9, "ifDead", "(II)I"⟩
abbrev cX9_undo : ByteArray := prog_1_method_28_code
def yX9_undo : MethodName := ⟨RX9, "undo", "()I"⟩
abbrev cX9_save : ByteArray := prog_1_method_29_code
def yX9_save : MethodName := ⟨RX9, "save", "()I"⟩
abbrev cX9_restore : ByteArray := prog_1_method_30_code
def yX9_restore : MethodName := ⟨RX9, "restore", "()I"⟩
def RX10 : String := "SonMarksModel"
def TX10 : u_T := fun k => match k with
  | _ => ("", "", "", false)
def tyX10 : Nat → FieldType := fun k => match k with
  | _ => .int
abbrev wsX100 : List Cond := u_ws RX10 TX10 0
theorem nmX10 : ∀ a, a < 0 → ∀ b, b < 0 → a ≠ b → (TX10 a).2.1 ≠ (TX10 b).2.1 := by decide +kernel
theorem tyX10_ok : ∀ k, k < 0 → parseFieldDescriptor (TX10 k).2.2.1 = some (tyX10 k) := by decide +kernel
def RL : String := "SonMarksLaw"
abbrev cL_cell : ByteArray := method_2_code
def yL_cell : MethodName := ⟨RL, "cell", "([II)I"⟩
abbrev cL_seen : ByteArray := method_3_code
def yL_seen : MethodName := ⟨RL, "seen", "(LSonMarks;)J"⟩
abbrev cL_arePersons : ByteArray := method_4_code
def yL_arePersons : MethodName := ⟨RL, "arePersons", "(LSonMarks;)Z"⟩
abbrev cL_arePairs : ByteArray := method_5_code
def yL_arePairs : MethodName := ⟨RL, "arePairs", "(LSonMarks;III)Z"⟩
abbrev cL_isLine : ByteArray := method_6_code
def yL_isLine : MethodName := ⟨RL, "isLine", "(LSonMarks;II)Z"⟩
abbrev cL_refusesAny : ByteArray := method_7_code
def yL_refusesAny : MethodName := ⟨RL, "refusesAny", "(LSonMarks;I)Z"⟩
abbrev cL_refuses : ByteArray := method_8_code
def yL_refuses : MethodName := ⟨RL, "refuses", "(LSonMarks;I)Z"⟩
abbrev cL_act : ByteArray := method_9_code
def yL_act : MethodName := ⟨RL, "act", "(LSonMarks;I)I"⟩
abbrev cL_law : ByteArray := code
def yL_law : MethodName := ⟨RL, "law", "([I)Z"⟩
abbrev vwCl : List vw_C := [(RX2, TX2, 2), (RX4, TX4, 3), (RX5, TX5, 2), (RX6, TX6, 8), (RX7, TX7, 1), (RX9, TX9, 10)]
