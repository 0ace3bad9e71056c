section
-- ===== PART A: goes FIRST, ahead of the names: the tables' words, and 'selects' of the private methods out of them =====
/-- a private method of a class that the tables say can be made, by its rows of tables_1 -/
def lw_okq (q : MethodName × Nat) : Prop := (q.1.cls ≠ "java/lang/invoke/MethodHandle" ∧ q.1.cls ≠ "java/lang/invoke/VarHandle") ∧ Cond.instantiable q.1.cls q.2 ∈ tables_1 ∧ Cond.privateMethod q.1 ∈ tables_1 ∧ Cond.instanceMethod q.1 ∈ tables_1
theorem lw_p0 : lw_okq (⟨"DoubtfulTrunks$Pad", "isNext", "(CC)Z"⟩, 5) := ⟨⟨by decide +kernel, by decide +kernel⟩, List.mem_of_getElem? (i := 163) (by decide +kernel), List.mem_of_getElem? (i := 217) (by decide +kernel), List.mem_of_getElem? (i := 218) (by decide +kernel)⟩
theorem lw_p1 : lw_okq (⟨"DoubtfulTrunks$Pad", "skips", "(C)Z"⟩, 5) := ⟨⟨by decide +kernel, by decide +kernel⟩, List.mem_of_getElem? (i := 163) (by decide +kernel), List.mem_of_getElem? (i := 221) (by decide +kernel), List.mem_of_getElem? (i := 222) (by decide +kernel)⟩
theorem lw_p2 : lw_okq (⟨"DoubtfulTrunks$Pad", "readPaper", "(I)Z"⟩, 5) := ⟨⟨by decide +kernel, by decide +kernel⟩, List.mem_of_getElem? (i := 163) (by decide +kernel), List.mem_of_getElem? (i := 225) (by decide +kernel), List.mem_of_getElem? (i := 226) (by decide +kernel)⟩
theorem lw_p3 : lw_okq (⟨"DoubtfulTrunks$State", "actAtTop", "()V"⟩, 9) := ⟨⟨by decide +kernel, by decide +kernel⟩, List.mem_of_getElem? (i := 20) (by decide +kernel), List.mem_of_getElem? (i := 404) (by decide +kernel), List.mem_of_getElem? (i := 405) (by decide +kernel)⟩
theorem lw_p4 : lw_okq (⟨"DoubtfulTrunks$State", "letPass", "(ILDoubtfulTrunks$Desk;I)V"⟩, 9) := ⟨⟨by decide +kernel, by decide +kernel⟩, List.mem_of_getElem? (i := 20) (by decide +kernel), List.mem_of_getElem? (i := 409) (by decide +kernel), List.mem_of_getElem? (i := 410) (by decide +kernel)⟩
theorem lw_p5 : lw_okq (⟨"DoubtfulTrunks$State", "fine", "(I)V"⟩, 9) := ⟨⟨by decide +kernel, by decide +kernel⟩, List.mem_of_getElem? (i := 20) (by decide +kernel), List.mem_of_getElem? (i := 414) (by decide +kernel), List.mem_of_getElem? (i := 415) (by decide +kernel)⟩
theorem lw_p6 : lw_okq (⟨"DoubtfulTrunks$State", "actBelowTop", "(I)V"⟩, 9) := ⟨⟨by decide +kernel, by decide +kernel⟩, List.mem_of_getElem? (i := 20) (by decide +kernel), List.mem_of_getElem? (i := 431) (by decide +kernel), List.mem_of_getElem? (i := 432) (by decide +kernel)⟩
theorem lw_p7 : lw_okq (⟨"DoubtfulTrunks$State", "takeFee", "(I)V"⟩, 9) := ⟨⟨by decide +kernel, by decide +kernel⟩, List.mem_of_getElem? (i := 20) (by decide +kernel), List.mem_of_getElem? (i := 435) (by decide +kernel), List.mem_of_getElem? (i := 436) (by decide +kernel)⟩
theorem lw_p8 : lw_okq (⟨"DoubtfulTrunks$State", "takeDelays", "()V"⟩, 9) := ⟨⟨by decide +kernel, by decide +kernel⟩, List.mem_of_getElem? (i := 20) (by decide +kernel), List.mem_of_getElem? (i := 439) (by decide +kernel), List.mem_of_getElem? (i := 440) (by decide +kernel)⟩
theorem lw_p9 : lw_okq (⟨"DoubtfulTrunks", "turnsUntilGone", "(I)I"⟩, 6) := ⟨⟨by decide +kernel, by decide +kernel⟩, List.mem_of_getElem? (i := 12) (by decide +kernel), List.mem_of_getElem? (i := 503) (by decide +kernel), List.mem_of_getElem? (i := 504) (by decide +kernel)⟩
def lw_privs_1 : List (MethodName × Nat) := [(⟨"DoubtfulTrunks$Pad", "isNext", "(CC)Z"⟩, 5), (⟨"DoubtfulTrunks$Pad", "skips", "(C)Z"⟩, 5), (⟨"DoubtfulTrunks$Pad", "readPaper", "(I)Z"⟩, 5), (⟨"DoubtfulTrunks$State", "actAtTop", "()V"⟩, 9), (⟨"DoubtfulTrunks$State", "letPass", "(ILDoubtfulTrunks$Desk;I)V"⟩, 9), (⟨"DoubtfulTrunks$State", "fine", "(I)V"⟩, 9), (⟨"DoubtfulTrunks$State", "actBelowTop", "(I)V"⟩, 9), (⟨"DoubtfulTrunks$State", "takeFee", "(I)V"⟩, 9), (⟨"DoubtfulTrunks$State", "takeDelays", "()V"⟩, 9), (⟨"DoubtfulTrunks", "turnsUntilGone", "(I)I"⟩, 6)]
theorem lw_r1 : ∀ q ∈ lw_privs_1, lw_okq q := List.forall_mem_cons.mpr ⟨lw_p0, List.forall_mem_cons.mpr ⟨lw_p1, List.forall_mem_cons.mpr ⟨lw_p2, List.forall_mem_cons.mpr ⟨lw_p3, List.forall_mem_cons.mpr ⟨lw_p4, List.forall_mem_cons.mpr ⟨lw_p5, List.forall_mem_cons.mpr ⟨lw_p6, List.forall_mem_cons.mpr ⟨lw_p7, List.forall_mem_cons.mpr ⟨lw_p8, List.forall_mem_cons.mpr ⟨lw_p9, fun _ h => absurd h List.not_mem_nil⟩⟩⟩⟩⟩⟩⟩⟩⟩⟩
def lw_privs : List (MethodName × Nat) := lw_privs_1
def lw_tbl : List Cond := k2_sels lw_privs ++ tables_1
theorem lw_privs_ok : ∀ q ∈ lw_privs, lw_okq q := lw_r1

def RX0 : String := "DoubtfulTrunks$Desk"
def TX0 : u_T := fun k => match k with
  | 0 => ("DoubtfulTrunks$Desk", "queue", "[I", true)
  | 1 => ("DoubtfulTrunks$Desk", "waiting", "I", false)
  | 2 => ("DoubtfulTrunks$Desk", "handCount", "I", false)
  | 3 => ("DoubtfulTrunks$Desk", "looks", "I", false)
  | _ => ("DoubtfulTrunks$Desk", "passes", "I", false)
def tyX0 : Nat → FieldType := fun k => match k with
  | 0 => .array .int
  | 1 => .int
  | 2 => .int
  | 3 => .int
  | _ => .int
abbrev wsX00 : List Cond := u_ws RX0 TX0 5
theorem nmX0 : ∀ a, a < 5 → ∀ b, b < 5 → a ≠ b → (TX0 a).2.1 ≠ (TX0 b).2.1 := by decide +kernel
theorem tyX0_ok : ∀ k, k < 5 → parseFieldDescriptor (TX0 k).2.2.1 = some (tyX0 k) := by decide +kernel
abbrev cX0_init : ByteArray := prog_2_method_1_code
def yX0_init : MethodName := ⟨RX0, "<init>", "()V"⟩
abbrev cX0_append : ByteArray := prog_2_method_2_code
def yX0_append : MethodName := ⟨RX0, "append", "(I)V"⟩
abbrev cX0_placeOf : ByteArray := prog_2_method_3_code
def yX0_placeOf : MethodName := ⟨RX0, "placeOf", "(I)I"⟩
abbrev cX0_dismiss : ByteArray := prog_2_method_4_code
def yX0_dismiss : MethodName := ⟨RX0, "dismiss", "(I)V"⟩
abbrev cX0_copyFrom : ByteArray := prog_2_method_5_code
def yX0_copyFrom : MethodName := ⟨RX0, "copyFrom", "(LDoubtfulTrunks$Desk;)V"⟩
def RX1 : String := "DoubtfulTrunks$History"
def TX1 : u_T := fun k => match k with
  | 0 => ("DoubtfulTrunks$History", "rows", "[LDoubtfulTrunks$State;", true)
  | 1 => ("DoubtfulTrunks$History", "oldest", "I", false)
  | _ => ("DoubtfulTrunks$History", "size", "I", false)
def tyX1 : Nat → FieldType := fun k => match k with
  | 0 => .array (.object "DoubtfulTrunks$State")
  | 1 => .int
  | _ => .int
abbrev wsX10 : List Cond := u_ws RX1 TX1 3
theorem nmX1 : ∀ a, a < 3 → ∀ b, b < 3 → a ≠ b → (TX1 a).2.1 ≠ (TX1 b).2.1 := by decide +kernel
theorem tyX1_ok : ∀ k, k < 3 → parseFieldDescriptor (TX1 k).2.2.1 = some (tyX1 k) := by decide +kernel
abbrev cX1_init : ByteArray := prog_3_method_1_code
def yX1_init : MethodName := ⟨RX1, "<init>", "()V"⟩
abbrev cX1_keep : ByteArray := prog_3_method_2_code
def yX1_keep : MethodName := ⟨RX1, "keep", "(LDoubtfulTrunks$State;)V"⟩
abbrev cX1_takeBack : ByteArray := prog_3_method_3_code
def yX1_takeBack : MethodName := ⟨RX1, "takeBack", "(LDoubtfulTrunks$State;)V"⟩
def RX2 : String := "DoubtfulTrunks$Pad"
def TX2 : u_T := fun k => match k with
  | 0 => ("DoubtfulTrunks$Pad", "signs", "[C", true)
  | 1 => ("DoubtfulTrunks$Pad", "length", "I", false)
  | 2 => ("DoubtfulTrunks$Pad", "country", "I", false)
  | 3 => ("DoubtfulTrunks$Pad", "papers", "[I", true)
  | _ => ("DoubtfulTrunks$Pad", "at", "I", false)
def tyX2 : Nat → FieldType := fun k => match k with
  | 0 => .array .char
  | 1 => .int
  | 2 => .int
  | 3 => .array .int
  | _ => .int
abbrev wsX20 : List Cond := u_ws RX2 TX2 5
theorem nmX2 : ∀ a, a < 5 → ∀ b, b < 5 → a ≠ b → (TX2 a).2.1 ≠ (TX2 b).2.1 := by decide +kernel
theorem tyX2_ok : ∀ k, k < 5 → parseFieldDescriptor (TX2 k).2.2.1 = some (tyX2 k) := by decide +kernel
abbrev cX2_init : ByteArray := prog_4_method_1_code
def yX2_init : MethodName := ⟨RX2, "<init>", "()V"⟩
abbrev cX2_append : ByteArray := prog_4_method_2_code
def yX2_append : MethodName := ⟨RX2, "append", "(C)V"⟩
abbrev cX2_findFault : ByteArray := prog_4_method_3_code
def yX2_findFault : MethodName := ⟨RX2, "findFault", "()I"⟩
abbrev cX2_isNext : ByteArray := prog_4_method_4_code
def yX2_isNext : MethodName := ⟨RX2, "isNext", "(CC)Z"⟩
abbrev cX2_skips : ByteArray := prog_4_method_5_code
def yX2_skips : MethodName := ⟨RX2, "skips", "(C)Z"⟩
abbrev cX2_readPaper : ByteArray := prog_4_method_6_code
def yX2_readPaper : MethodName := ⟨RX2, "readPaper", "(I)Z"⟩
def RX3 : String := "DoubtfulTrunks$Sheet"
def TX3 : u_T := fun k => match k with
  | _ => ("", "", "", false)
def tyX3 : Nat → FieldType := fun k => match k with
  | _ => .int
abbrev wsX30 : List Cond := u_ws RX3 TX3 0
theorem nmX3 : ∀ a, a < 0 → ∀ b, b < 0 → a ≠ b → (TX3 a).2.1 ≠ (TX3 b).2.1 := by decide +kernel
theorem tyX3_ok : ∀ k, k < 0 → parseFieldDescriptor (TX3 k).2.2.1 = some (tyX3 k) := by decide +kernel
abbrev cX3_piecesOf : ByteArray := prog_5_method_2_code
def yX3_piecesOf : MethodName := ⟨RX3, "piecesOf", "(II)I"⟩
abbrev cX3_withPieces : ByteArray := prog_5_method_3_code
def yX3_withPieces : MethodName := ⟨RX3, "withPieces", "(III)I"⟩
def RX4 : String := "DoubtfulTrunks$State"
def TX4 : u_T := fun k => match k with
  | 0 => ("DoubtfulTrunks$State", "settings", "[I", true)
  | 1 => ("DoubtfulTrunks$State", "weights", "[I", true)
  | 2 => ("DoubtfulTrunks$State", "trusts", "[I", true)
  | 3 => ("DoubtfulTrunks$State", "desks", "[LDoubtfulTrunks$Desk;", true)
  | 4 => ("DoubtfulTrunks$State", "trunks", "LDoubtfulTrunks$Trunks;", true)
  | 5 => ("DoubtfulTrunks$State", "turnsMade", "I", false)
  | 6 => ("DoubtfulTrunks$State", "fees", "I", false)
  | 7 => ("DoubtfulTrunks$State", "fines", "I", false)
  | _ => ("DoubtfulTrunks$State", "delays", "I", false)
def tyX4 : Nat → FieldType := fun k => match k with
  | 0 => .array .int
  | 1 => .array .int
  | 2 => .array .int
  | 3 => .array (.object "DoubtfulTrunks$Desk")
  | 4 => .object "DoubtfulTrunks$Trunks"
  | 5 => .int
  | 6 => .int
  | 7 => .int
  | _ => .int
abbrev wsX40 : List Cond := u_ws RX4 TX4 9
theorem nmX4 : ∀ a, a < 9 → ∀ b, b < 9 → a ≠ b → (TX4 a).2.1 ≠ (TX4 b).2.1 := by decide +kernel
theorem tyX4_ok : ∀ k, k < 9 → parseFieldDescriptor (TX4 k).2.2.1 = some (tyX4 k) := by decide +kernel
abbrev cX4_init : ByteArray := prog_6_method_1_code
def yX4_init : MethodName := ⟨RX4, "<init>", "()V"⟩
abbrev cX4_hasCome : ByteArray := prog_6_method_2_code
def yX4_hasCome : MethodName := ⟨RX4, "hasCome", "(I)Z"⟩
abbrev cX4_isWaiting : ByteArray := prog_6_method_3_code
def yX4_isWaiting : MethodName := ⟨RX4, "isWaiting", "(I)Z"⟩
abbrev cX4_waitingTrunks : ByteArray := prog_6_method_4_code
def yX4_waitingTrunks : MethodName := ⟨RX4, "waitingTrunks", "()I"⟩
abbrev cX4_taken : ByteArray := prog_6_method_5_code
def yX4_taken : MethodName := ⟨RX4, "taken", "()I"⟩
abbrev cX4_deskOf : ByteArray := prog_6_method_6_code
def yX4_deskOf : MethodName := ⟨RX4, "deskOf", "(I)I"⟩
abbrev cX4_placeOf : ByteArray := prog_6_method_7_code
def yX4_placeOf : MethodName := ⟨RX4, "placeOf", "(I)I"⟩
abbrev cX4_doubtOf : ByteArray := prog_6_method_8_code
def yX4_doubtOf : MethodName := ⟨RX4, "doubtOf", "(I)I"⟩
abbrev cX4_doubtsAt : ByteArray := prog_6_method_9_code
def yX4_doubtsAt : MethodName := ⟨RX4, "doubtsAt", "(I)I"⟩
abbrev cX4_greatestDoubtAt : ByteArray := prog_6_method_10_code
def yX4_greatestDoubtAt : MethodName := ⟨RX4, "greatestDoubtAt", "(I)I"⟩
abbrev cX4_admit : ByteArray := prog_6_method_11_code
def yX4_admit : MethodName := ⟨RX4, "ad" ++ "mit", "(I[I)I"⟩
abbrev cX4_makeTurns : ByteArray := prog_6_method_12_code
def yX4_makeTurns : MethodName := ⟨RX4, "makeTurns", "(I)I"⟩
abbrev cX4_makeTurn : ByteArray := prog_6_method_13_code
def yX4_makeTurn : MethodName := ⟨RX4, "makeTurn", "()I"⟩
abbrev cX4_actAtTop : ByteArray := prog_6_method_14_code
def yX4_actAtTop : MethodName := ⟨RX4, "actAtTop", "()V"⟩
abbrev cX4_actBelowTop : ByteArray := prog_6_method_15_code
def yX4_actBelowTop : MethodName := ⟨RX4, "actBelowTop", "(I)V"⟩
abbrev cX4_letPass : ByteArray := prog_6_method_16_code
def yX4_letPass : MethodName := ⟨RX4, "letPass", "(ILDoubtfulTrunks$Desk;I)V"⟩
abbrev cX4_takeFee : ByteArray := prog_6_method_17_code
def yX4_takeFee : MethodName := ⟨RX4, "takeFee", "(I)V"⟩
abbrev cX4_fine : ByteArray := prog_6_method_18_code
def yX4_fine : MethodName := ⟨RX4, "fine", "(I)V"⟩
abbrev cX4_takeDelays : ByteArray := prog_6_method_19_code
def yX4_takeDelays : MethodName := ⟨RX4, "takeDelays", "()V"⟩
abbrev cX4_copyFrom : ByteArray := prog_6_method_20_code
def yX4_copyFrom : MethodName := ⟨RX4, "copyFrom", "(LDoubtfulTrunks$State;)V"⟩
def RX5 : String := "DoubtfulTrunks$Trunks"
def TX5 : u_T := fun k => match k with
  | 0 => ("DoubtfulTrunks$Trunks", "came", "I", false)
  | 1 => ("DoubtfulTrunks$Trunks", "countries", "[I", true)
  | 2 => ("DoubtfulTrunks$Trunks", "papers", "[[I", true)
  | 3 => ("DoubtfulTrunks$Trunks", "accounts", "[I", true)
  | 4 => ("DoubtfulTrunks$Trunks", "arrivals", "[I", true)
  | 5 => ("DoubtfulTrunks$Trunks", "fates", "[I", true)
  | 6 => ("DoubtfulTrunks$Trunks", "finedKinds", "[I", true)
  | _ => ("DoubtfulTrunks$Trunks", "handOns", "[I", true)
def tyX5 : Nat → FieldType := fun k => match k with
  | 0 => .int
  | 1 => .array .int
  | 2 => .array (.array .int)
  | 3 => .array .int
  | 4 => .array .int
  | 5 => .array .int
  | 6 => .array .int
  | _ => .array .int
abbrev wsX50 : List Cond := u_ws RX5 TX5 8
theorem nmX5 : ∀ a, a < 8 → ∀ b, b < 8 → a ≠ b → (TX5 a).2.1 ≠ (TX5 b).2.1 := by decide +kernel
theorem tyX5_ok : ∀ k, k < 8 → parseFieldDescriptor (TX5 k).2.2.1 = some (tyX5 k) := by decide +kernel
abbrev cX5_init : ByteArray := prog_7_method_1_code
def yX5_init : MethodName := ⟨RX5, "<init>", "()V"⟩
abbrev cX5_add : ByteArray := prog_7_method_2_code
def yX5_add : MethodName := ⟨RX5, "add", "(I[II)V"⟩
abbrev cX5_difference : ByteArray := prog_7_method_3_code
def yX5_difference : MethodName := ⟨RX5, "difference", "(II)I"⟩
abbrev cX5_disagreements : ByteArray := prog_7_method_4_code
def yX5_disagreements : MethodName := ⟨RX5, "disagreements", "(II)I"⟩
abbrev cX5_sumBeyond : ByteArray := prog_7_method_5_code
def yX5_sumBeyond : MethodName := ⟨RX5, "sumBeyond", "(II)I"⟩
abbrev cX5_hiddenKinds : ByteArray := prog_7_method_6_code
def yX5_hiddenKinds : MethodName := ⟨RX5, "hiddenKinds", "(I)I"⟩
abbrev cX5_countWithFate : ByteArray := prog_7_method_7_code
def yX5_countWithFate : MethodName := ⟨RX5, "countWithFate", "(I)I"⟩
abbrev cX5_countOpenedUnfined : ByteArray := prog_7_method_8_code
def yX5_countOpenedUnfined : MethodName := ⟨RX5, "countOpenedUnfined", "()I"⟩
abbrev cX5_copyFrom : ByteArray := prog_7_method_9_code
def yX5_copyFrom : MethodName := ⟨RX5, "copyFrom", "(LDoubtfulTrunks$Trunks;)V"⟩
def RX6 : String := "DoubtfulTrunks"
def TX6 : u_T := fun k => match k with
  | 0 => ("DoubtfulTrunks", "now", "LDoubtfulTrunks$State;", true)
  | 1 => ("DoubtfulTrunks", "trial", "LDoubtfulTrunks$State;", true)
  | 2 => ("DoubtfulTrunks", "history", "LDoubtfulTrunks$History;", true)
  | 3 => ("DoubtfulTrunks", "slots", "[LDoubtfulTrunks$State;", true)
  | 4 => ("DoubtfulTrunks", "filled", "[Z", true)
  | _ => ("DoubtfulTrunks", "pad", "LDoubtfulTrunks$Pad;", true)
def tyX6 : Nat → FieldType := fun k => match k with
  | 0 => .object "DoubtfulTrunks$State"
  | 1 => .object "DoubtfulTrunks$State"
  | 2 => .object "DoubtfulTrunks$History"
  | 3 => .array (.object "DoubtfulTrunks$State")
  | 4 => .array .boolean
  | _ => .object "DoubtfulTrunks$Pad"
abbrev wsX60 : List Cond := u_ws RX6 TX6 6
theorem nmX6 : ∀ a, a < 6 → ∀ b, b < 6 → a ≠ b → (TX6 a).2.1 ≠ (TX6 b).2.1 := by decide +kernel
theorem tyX6_ok : ∀ k, k < 6 → parseFieldDescriptor (TX6 k).2.2.1 = some (tyX6 k) := by decide +kernel
abbrev cX6_init : ByteArray := prog_1_method_1_code
def yX6_init : MethodName := ⟨RX6, "<init>", "()V"⟩
abbrev cX6_set : ByteArray := prog_1_method_2_code
def yX6_set : MethodName := ⟨RX6, "set", "(II)I"⟩
abbrev cX6_weight : ByteArray := prog_1_method_3_code
def yX6_weight : MethodName := ⟨RX6, "weight", "(II)I"⟩
abbrev cX6_trust : ByteArray := prog_1_method_4_code
def yX6_trust : MethodName := ⟨RX6, "trust", "(II)I"⟩
abbrev cX6_hands : ByteArray := prog_1_method_5_code
def yX6_hands : MethodName := ⟨RX6, "hands", "(II)I"⟩
abbrev cX6_read : ByteArray := prog_1_method_6_code
def yX6_read : MethodName := ⟨RX6, "read", "()I"⟩
abbrev cX6_mend : ByteArray := prog_1_method_7_code
def yX6_mend : MethodName := ⟨RX6, "mend", "(IIII)I"⟩
abbrev cX6_sendBack : ByteArray := prog_1_method_8_code
def yX6_sendBack : MethodName := ⟨RX6, "sendBack", "(I)I"⟩
abbrev cX6_turn : ByteArray := prog_1_method_9_code
def yX6_turn : MethodName := ⟨RX6, "turn", "(I)I"⟩
abbrev cX6_trunk : ByteArray := prog_1_method_10_code
def yX6_trunk : MethodName := ⟨RX6, "trunk", "(II)I"⟩
abbrev cX6_pieces : ByteArray := prog_1_method_11_code
def yX6_pieces : MethodName := ⟨RX6, "pieces", "(III)I"⟩
abbrev cX6_alike : ByteArray := prog_1_method_12_code
def yX6_alike : MethodName := ⟨RX6, "alike", "(II)I"⟩
abbrev cX6_desk : ByteArray := prog_1_method_13_code
def yX6_desk : MethodName := ⟨RX6, "desk", "(II)I"⟩
abbrev cX6_count : ByteArray := prog_1_method_14_code
def yX6_count : MethodName := ⟨RX6, "count", "(I)I"⟩
abbrev cX6_untilGone : ByteArray := prog_1_method_15_code
def yX6_untilGone : MethodName := ⟨RX6, "untilGone", "(I)I"⟩
abbrev cX6_fate : ByteArray := prog_1_method_16_code
def yX6_fate : MethodName := ⟨RX6, "fate", "(I)I"⟩
abbrev cX6_mostDoubted : ByteArray := prog_1_method_17_code
def yX6_mostDoubted : MethodName := ⟨RX6, "mostDoubted", "()I"⟩
abbrev cX6_ifTurned : ByteArray := prog_1_method_18_code
def yX6_ifTurned : MethodName := ⟨RX6, "ifTurned", "(II)I"⟩
abbrev cX6_bestHand : ByteArray := prog_1_method_19_code
def yX6_bestHand : MethodName := ⟨RX6, "bestHand", "()I"⟩
abbrev cX6_leastSmall : ByteArray := prog_1_method_20_code
def yX6_leastSmall : MethodName := ⟨RX6, "leastSmall", "()I"⟩
abbrev cX6_put : ByteArray := prog_1_method_21_code
def yX6_put : MethodName := ⟨RX6, "put", "(J)I"⟩
abbrev cX6_wipe : ByteArray := prog_1_method_22_code
def yX6_wipe : MethodName := ⟨RX6, "wipe", "()I"⟩
abbrev cX6_undo : ByteArray := prog_1_method_24_code
def yX6_undo : MethodName := ⟨RX6, "undo", "()I"⟩
abbrev cX6_isWithin : ByteArray := prog_1_method_27_code
def yX6_isWithin : MethodName := ⟨RX6, "isWithin", "(III)Z"⟩
abbrev cX6_turnsUntilGone : ByteArray := prog_1_method_28_code
def yX6_turnsUntilGone : MethodName := ⟨RX6, "turnsUntilGone", "(I)I"⟩
def RX7 : String := "DoubtfulTrunksModel"
def TX7 : u_T := fun k => match k with
  | _ => ("", "", "", false)
def tyX7 : Nat → FieldType := fun k => match k with
  | _ => .int
abbrev wsX70 : List Cond := u_ws RX7 TX7 0
theorem nmX7 : ∀ a, a < 0 → ∀ b, b < 0 → a ≠ b → (TX7 a).2.1 ≠ (TX7 b).2.1 := by decide +kernel
theorem tyX7_ok : ∀ k, k < 0 → parseFieldDescriptor (TX7 k).2.2.1 = some (tyX7 k) := by decide +kernel
def RJ6 : String := "java/lang/Integer"
def TJ6 : u_T := fun k => match k with
  | _ => ("", "", "", false)
def tyJ6 : Nat → FieldType := fun k => match k with
  | _ => .int
abbrev wsJ60 : List Cond := u_ws RJ6 TJ6 0
theorem nmJ6 : ∀ a, a < 0 → ∀ b, b < 0 → a ≠ b → (TJ6 a).2.1 ≠ (TJ6 b).2.1 := by decide +kernel
theorem tyJ6_ok : ∀ k, k < 0 → parseFieldDescriptor (TJ6 k).2.2.1 = some (tyJ6 k) := by decide +kernel
abbrev cJ6_bitCount_0f7a4 : ByteArray := prog_10_method_49_code
def yJ6_bitCount_0f7a4 : MethodName := ⟨RJ6, "bitCount", "(I)I"⟩
def RJ9 : String := "java/lang/Math"
def TJ9 : u_T := fun k => match k with
  | _ => ("", "", "", false)
def tyJ9 : Nat → FieldType := fun k => match k with
  | _ => .int
abbrev wsJ90 : List Cond := u_ws RJ9 TJ9 0
theorem nmJ9 : ∀ a, a < 0 → ∀ b, b < 0 → a ≠ b → (TJ9 a).2.1 ≠ (TJ9 b).2.1 := by decide +kernel
theorem tyJ9_ok : ∀ k, k < 0 → parseFieldDescriptor (TJ9 k).2.2.1 = some (tyJ9 k) := by decide +kernel
abbrev cJ9_abs_0f7a4 : ByteArray := prog_11_method_59_code
def yJ9_abs_0f7a4 : MethodName := ⟨RJ9, "abs", "(I)I"⟩
abbrev cJ9_max_7cf53 : ByteArray := prog_11_method_65_code
def yJ9_max_7cf53 : MethodName := ⟨RJ9, "max", "(II)I"⟩
abbrev cJ9_min_7cf53 : ByteArray := prog_11_method_69_code
def yJ9_min_7cf53 : MethodName := ⟨RJ9, "min", "(II)I"⟩
def RJ10 : String := "java/lang/System"
def TJ10 : u_T := fun k => match k with
  | _ => ("", "", "", false)
def tyJ10 : Nat → FieldType := fun k => match k with
  | _ => .int
abbrev wsJ100 : List Cond := u_ws RJ10 TJ10 0
theorem nmJ10 : ∀ a, a < 0 → ∀ b, b < 0 → a ≠ b → (TJ10 a).2.1 ≠ (TJ10 b).2.1 := by decide +kernel
theorem tyJ10_ok : ∀ k, k < 0 → parseFieldDescriptor (TJ10 k).2.2.1 = some (tyJ10 k) := by decide +kernel
def RL : String := "DoubtfulTrunksLaw"
abbrev cL_cell : ByteArray := method_2_code
def yL_cell : MethodName := ⟨RL, "cell", "([II)I"⟩
abbrev cL_low : ByteArray := method_3_code
def yL_low : MethodName := ⟨RL, "low", "(II)I"⟩
abbrev cL_types : ByteArray := method_4_code
def yL_types : MethodName := ⟨RL, "types", "(LDoubtfulTrunks;II)I"⟩
abbrev cL_act : ByteArray := method_5_code
def yL_act : MethodName := ⟨RL, "act", "(LDoubtfulTrunks;II)I"⟩
abbrev cL_trunks : ByteArray := method_6_code
def yL_trunks : MethodName := ⟨RL, "trunks", "(LDoubtfulTrunks;)Z"⟩
abbrev cL_print : ByteArray := method_7_code
def yL_print : MethodName := ⟨RL, "print", "(LDoubtfulTrunks;)J"⟩
abbrev cL_turns : ByteArray := method_8_code
def yL_turns : MethodName := ⟨RL, "turns", "(LDoubtfulTrunks;II)Z"⟩
abbrev cL_small : ByteArray := method_9_code
def yL_small : MethodName := ⟨RL, "small", "(LDoubtfulTrunks;)Z"⟩
abbrev cL_hand : ByteArray := method_10_code
def yL_hand : MethodName := ⟨RL, "hand", "(LDoubtfulTrunks;)Z"⟩
abbrev cL_goes : ByteArray := method_11_code
def yL_goes : MethodName := ⟨RL, "goes", "(LDoubtfulTrunks;I)Z"⟩
abbrev cL_law : ByteArray := code
def yL_law : MethodName := ⟨RL, "law", "([I)Z"⟩
end
section
/-! THE PURE MACHINE: whole numbers for ints and longs (they stand for themselves modulo 2^32, 2^64), cells with numbers of their own, contents in one function. -/
abbrev PV : Type := Option (Int ⊕ (Nat ⊕ Int))
abbrev wI (x : Int) : PV := some (.inl x)
abbrev wR (r : Nat) : PV := some (.inr (.inl r))
abbrev wL (x : Int) : PV := some (.inr (.inr x))
abbrev Mem : Type := Nat → Int → Int
/-- a cell's kind: an object (its class, its slots that refer), an array of numbers (its type, its length), an array that refers -/
abbrev Kd : Type := (Nat × (Nat → Option Nat)) ⊕ ((Nat × Nat) ⊕ (Nat × Nat × (Nat → Nat)))
def upM (M : Mem) (r : Nat) (k x : Int) : Mem := fun r' k' => if r' = r ∧ k' = k then x else M r' k'
def cpM (M : Mem) (r0 : Nat) (sp : Int) (r1 : Nat) (dp n : Int) : Mem := fun r k => if r = r1 ∧ dp ≤ k ∧ k < dp + n then M r0 (sp + (k - dp)) else M r k
abbrev inr (x : Int) : Prop := -2147483648 ≤ x ∧ x < 2147483648
def i32 (x : Int) : Int := (Int32.ofInt x).toInt
def i64 (x : Int) : Int := (Int64.ofInt x).toInt
theorem i32_id {x : Int} (h : inr x) : i32 x = x := Int32.toInt_ofInt_of_le (by have := h.1; simpa using this) (by have := h.2; simpa using this)
theorem of_i32 (x : Int32) : Int32.ofInt x.toInt = x := Int32.ofInt_toInt x
theorem inr_toInt (x : Int32) : inr x.toInt := by
  have h1 := Int32.le_toInt x
  have h2 := Int32.toInt_lt x
  exact ⟨by simpa using h1, by simpa using h2⟩
theorem of_lt {x y : Int} (hx : inr x) (hy : inr y) : Int32.ofInt x < Int32.ofInt y ↔ x < y := by
  rw [Int32.lt_iff_toInt_lt]
  show i32 x < i32 y ↔ _
  rw [i32_id hx, i32_id hy]
theorem of_le {x y : Int} (hx : inr x) (hy : inr y) : Int32.ofInt x ≤ Int32.ofInt y ↔ x ≤ y := by
  rw [Int32.le_iff_toInt_le]
  show i32 x ≤ i32 y ↔ _
  rw [i32_id hx, i32_id hy]
theorem of_eq {x y : Int} (hx : inr x) (hy : inr y) : Int32.ofInt x = Int32.ofInt y ↔ x = y := by
  rw [← Int32.toInt_inj]
  show i32 x = i32 y ↔ _
  rw [i32_id hx, i32_id hy]
theorem of_nI (n : Nat) : Int32.ofInt (n : Int) = nI n := Int32.ofInt_eq_ofNat
theorem of_in {x : Int} {n : Nat} (h0 : 0 ≤ x) (h1 : x < n) (hn : n < 2147483648) : vp_in (Int32.ofInt x) n ∧ (Int32.ofInt x).toNatClampNeg = x.toNat := by
  obtain ⟨k, rfl⟩ : ∃ k : Nat, x = k := ⟨x.toNat, by omega⟩
  rw [of_nI]
  exact ⟨vp_in_nI (by omega) (by omega), by rw [nI_clamp (by omega)]; simp⟩
def vp (ad : Nat → Nat) (v : PV) : Value := match v with
  | none => .null
  | some (.inl x) => .int (Int32.ofInt x)
  | some (.inr (.inl r)) => .ref (ad r)
  | some (.inr (.inr x)) => .long (Int64.ofInt x)
/-- locals: a list of all places, the unset ones as 'none' -/
def LR (ad : Nat → Nat) (nL : Nat) (lp : List PV) (ls : Array Slot) : Prop := ∃ l : List (Nat × Value), lv_has ls nL l ∧ lp.length = nL ∧ ∀ (i : Nat) (v : Int ⊕ (Nat ⊕ Int)), lp[i]? = some (some v) → (i, vp ad (some v)) ∈ l
def isLong (v : Option PV) : Bool := match v with
  | some (some (.inr (.inr _))) => true
  | _ => false
def okS (lp : List PV) (i : Nat) : Bool := Nat.blt i lp.length && (match i with | 0 => true | k + 1 => !(isLong lp[k]?))
theorem okS_lt {lp : List PV} {i : Nat} (h : okS lp i = true) : i < lp.length := by
  unfold okS at h
  rw [Bool.and_eq_true] at h
  exact Nat.lt_of_not_le fun q => by have := h.1; simp [Nat.blt] at this; omega
theorem okS_long {lp : List PV} {i : Nat} (h : okS lp i = true) {k : Nat} (hk : k + 1 = i) {v : Int ⊕ (Nat ⊕ Int)} (hv : lp[k]? = some (some v)) (ad : Nat → Nat) : (vp ad (some v)).category = 1 := by
  subst hk
  unfold okS at h
  rw [Bool.and_eq_true] at h
  have h2 := h.2
  simp only [hv] at h2
  rcases v with x | r | x
  · rfl
  · rfl
  · simp [isLong] at h2
theorem LR.get {ad : Nat → Nat} {nL : Nat} {lp : List PV} {ls : Array Slot} (h : LR ad nL lp ls) {i : Nat} {v : Int ⊕ (Nat ⊕ Int)} (hv : lp[i]? = some (some v)) : ls[i]? = some (.val (vp ad (some v))) := by
  obtain ⟨l, h1, -, h3⟩ := h
  exact h1.2.2 _ (h3 i v hv)
theorem LR.size {ad : Nat → Nat} {nL : Nat} {lp : List PV} {ls : Array Slot} (h : LR ad nL lp ls) : ls.size = nL := h.choose_spec.1.1
theorem LR.len {ad : Nat → Nat} {nL : Nat} {lp : List PV} {ls : Array Slot} (h : LR ad nL lp ls) : lp.length = nL := h.choose_spec.2.1
theorem LR.put {ad : Nat → Nat} {nL : Nat} {lp : List PV} {l : List (Nat × Value)} {ls' : Array Slot} {i : Nat} {w : Int ⊕ (Nat ⊕ Int)} (hl : lp.length = nL) (h3 : ∀ (i : Nat) (v : Int ⊕ (Nat ⊕ Int)), lp[i]? = some (some v) → (i, vp ad (some v)) ∈ l) (ho : okS lp i = true)
    (h' : lv_has ls' nL ((i, vp ad (some w)) :: l.filter (fun q => !(q.1 == i) && !(q.1 + 1 == i && q.2.category == 2)))) : LR ad nL (lp.set i (some w)) ls' := by
  have hi := okS_lt ho
  refine ⟨_, h', by rw [List.length_set]; exact hl, fun j v hj => ?_⟩
  by_cases e : j = i
  · subst e
    rw [List.getElem?_set_self hi] at hj
    cases hj
    exact List.mem_cons_self
  · rw [List.getElem?_set_ne (Ne.symm e)] at hj
    refine List.mem_cons_of_mem _ (List.mem_filter.mpr ⟨h3 j v hj, ?_⟩)
    have hne : (j == i) = false := by simpa using e
    by_cases e2 : j + 1 = i
    · have := okS_long ho e2 hj ad
      simp [hne, this]
    · have hne2 : (j + 1 == i) = false := by simpa using e2
      simp [hne, hne2]
theorem LR.put2 {ad : Nat → Nat} {nL : Nat} {lp : List PV} {l : List (Nat × Value)} {ls' : Array Slot} {i : Nat} {x : Int} (hl : lp.length = nL) (h3 : ∀ (i : Nat) (v : Int ⊕ (Nat ⊕ Int)), lp[i]? = some (some v) → (i, vp ad (some v)) ∈ l) (ho : okS lp i = true)
    (h' : lv_has ls' nL ((i, Value.long (Int64.ofInt x)) :: l.filter (fun q => !(q.1 == i) && (!(q.1 == i + 1) && !(q.1 + 1 == i && q.2.category == 2))))) : LR ad nL ((lp.set i (wL x)).set (i + 1) none) ls' := by
  have hi := okS_lt ho
  refine ⟨_, h', by rw [List.length_set, List.length_set]; exact hl, fun j v hj => ?_⟩
  by_cases e0 : j = i + 1
  · subst e0
    rw [List.getElem?_set] at hj
    simp at hj
  rw [List.getElem?_set_ne (Ne.symm e0)] at hj
  by_cases e : j = i
  · subst e
    rw [List.getElem?_set_self hi] at hj
    cases hj
    exact List.mem_cons_self
  · rw [List.getElem?_set_ne (Ne.symm e)] at hj
    refine List.mem_cons_of_mem _ (List.mem_filter.mpr ⟨h3 j v hj, ?_⟩)
    have hne : (j == i) = false := by simpa using e
    have hne0 : (j == i + 1) = false := by simpa using e0
    by_cases e2 : j + 1 = i
    · have := okS_long ho e2 hj ad
      simp [hne, hne0, this]
    · have hne2 : (j + 1 == i) = false := by simpa using e2
      simp [hne, hne0, hne2]
/-- the locals at a method's entry -/
def iniL : List PV → List PV
  | [] => []
  | some (.inr (.inr x)) :: r => wL x :: none :: iniL r
  | v :: r => v :: iniL r
def iniN (as : List PV) (n : Nat) : List PV := iniL as ++ List.replicate (n - (iniL as).length) none
theorem iniL_args (ad : Nat → Nat) : ∀ (as : List PV) (n i : Nat) (v : Int ⊕ (Nat ⊕ Int)), (iniL as)[i]? = some (some v) → (n + i, vp ad (some v)) ∈ lv_args n (as.map (vp ad))
  | [], n, i, v, h => by simp [iniL] at h
  | some (.inr (.inr x)) :: r, n, i, v, h => by
    show _ ∈ (n, Value.long (Int64.ofInt x)) :: lv_args (n + 2) (r.map (vp ad))
    match i, h with
    | 0, h =>
      simp [iniL] at h
      subst h
      exact List.mem_cons_self
    | 1, h => simp [iniL] at h
    | i + 2, h =>
      have h : (iniL r)[i]? = some (some v) := by simpa [iniL] using h
      have := iniL_args ad r (n + 2) i v h
      rw [show n + (i + 2) = n + 2 + i by omega]
      exact List.mem_cons_of_mem _ this
  | none :: r, n, i, v, h => by
    show _ ∈ (n, Value.null) :: lv_args (n + 1) (r.map (vp ad))
    match i, h with
    | 0, h => simp [iniL] at h
    | i + 1, h =>
      have h : (iniL r)[i]? = some (some v) := by simpa [iniL] using h
      have := iniL_args ad r (n + 1) i v h
      rw [show n + (i + 1) = n + 1 + i by omega]
      exact List.mem_cons_of_mem _ this
  | some (.inl x) :: r, n, i, v, h => by
    show _ ∈ (n, Value.int (Int32.ofInt x)) :: lv_args (n + 1) (r.map (vp ad))
    match i, h with
    | 0, h =>
      simp [iniL] at h
      subst h
      exact List.mem_cons_self
    | i + 1, h =>
      have h : (iniL r)[i]? = some (some v) := by simpa [iniL] using h
      have := iniL_args ad r (n + 1) i v h
      rw [show n + (i + 1) = n + 1 + i by omega]
      exact List.mem_cons_of_mem _ this
  | some (.inr (.inl x)) :: r, n, i, v, h => by
    show _ ∈ (n, Value.ref (ad x)) :: lv_args (n + 1) (r.map (vp ad))
    match i, h with
    | 0, h =>
      simp [iniL] at h
      subst h
      exact List.mem_cons_self
    | i + 1, h =>
      have h : (iniL r)[i]? = some (some v) := by simpa [iniL] using h
      have := iniL_args ad r (n + 1) i v h
      rw [show n + (i + 1) = n + 1 + i by omega]
      exact List.mem_cons_of_mem _ this
theorem iniL_len (ad : Nat → Nat) : ∀ as : List PV, (lg_sl (as.map (vp ad))).length = (iniL as).length
  | [] => rfl
  | some (.inr (.inr x)) :: r => by
    have := iniL_len ad r
    simp [lg_sl, iniL, vp, Value.category] at this ⊢
    omega
  | none :: r => by
    have := iniL_len ad r
    simp [lg_sl, iniL, vp, Value.category] at this ⊢
    omega
  | some (.inl x) :: r => by
    have := iniL_len ad r
    simp [lg_sl, iniL, vp, Value.category] at this ⊢
    omega
  | some (.inr (.inl x)) :: r => by
    have := iniL_len ad r
    simp [lg_sl, iniL, vp, Value.category] at this ⊢
    omega
theorem LR.ini (ad : Nat → Nat) (as : List PV) {n : Nat} (h : (iniL as).length ≤ n) : LR ad n (iniN as n) ((lg_sl (as.map (vp ad)) ++ List.replicate (n - (lg_sl (as.map (vp ad))).length) Slot.unset).toArray) := by
  refine ⟨_, lv_entry (as.map (vp ad)) (by rw [iniL_len]; exact h), ?_, fun i v hi => ?_⟩
  · simp [iniN]; omega
  · unfold iniN at hi
    by_cases hl : i < (iniL as).length
    · rw [List.getElem?_append_left hl] at hi
      have := iniL_args ad as 0 i v hi
      rwa [Nat.zero_add] at this
    · rw [List.getElem?_append_right (by omega), List.getElem?_replicate] at hi
      split at hi <;> cases hi
/-! THE LAYOUT: 0 the script, 1 and 2 the two tables of the class, 3 to 10 the class's own cells, 11 to 14 ghosts (no machine has them), then eight states of 22 cells each -/
def RC (ci : Nat) : String := match ci with | 0 => RX0 | 1 => RX1 | 2 => RX2 | 3 => RX0 | 4 => RX4 | 5 => RX5 | _ => RX6
def TC (ci : Nat) : u_T := match ci with | 0 => TX0 | 1 => TX1 | 2 => TX2 | 3 => TX0 | 4 => TX4 | 5 => TX5 | _ => TX6
def tyC (ci : Nat) : Nat → FieldType := match ci with | 0 => tyX0 | 1 => tyX1 | 2 => tyX2 | 3 => tyX0 | 4 => tyX4 | 5 => tyX5 | _ => tyX6
def nfC (ci : Nat) : Nat := match ci with | 0 => 5 | 1 => 3 | 2 => 5 | 3 => 5 | 4 => 9 | 5 => 8 | _ => 6
def clsL : List vw_C := [(RX0, TX0, 5), (RX1, TX1, 3), (RX2, TX2, 5), (RX0, TX0, 5), (RX4, TX4, 9), (RX5, TX5, 8), (RX6, TX6, 6)]
theorem clsL_at {ci : Nat} (h : ci < 7) : clsL[ci]? = some (RC ci, TC ci, nfC ci) := by
  match ci, h with
  | 0, _ => rfl | 1, _ => rfl | 2, _ => rfl | 3, _ => rfl | 4, _ => rfl | 5, _ => rfl | 6, _ => rfl
theorem tyC_ok {ci : Nat} (h : ci < 7) : ∀ k, k < nfC ci → parseFieldDescriptor (TC ci k).2.2.1 = some (tyC ci k) := by
  match ci, h with
  | 0, _ => exact tyX0_ok | 1, _ => exact tyX1_ok | 2, _ => exact tyX2_ok | 3, _ => exact tyX0_ok | 4, _ => exact tyX4_ok | 5, _ => exact tyX5_ok | 6, _ => exact tyX6_ok
theorem nmC_ok {ci : Nat} (h : ci < 7) : ∀ a, a < nfC ci → ∀ b, b < nfC ci → a ≠ b → (TC ci a).2.1 ≠ (TC ci b).2.1 := by
  match ci, h with
  | 0, _ => exact nmX0 | 1, _ => exact nmX1 | 2, _ => exact nmX2 | 3, _ => exact nmX0 | 4, _ => exact nmX4 | 5, _ => exact nmX5 | 6, _ => exact nmX6
/-- a state's 22 cells, from the cell a on -/
def layS (a i : Nat) : Kd := match i with
  | 0 => .inl (4, fun k => match k with | 0 => some (a + 1) | 1 => some (a + 2) | 2 => some (a + 3) | 3 => some (a + 4) | 4 => some (a + 11) | _ => none)
  | 1 => .inr (.inl (0, 6))
  | 2 => .inr (.inl (0, 6))
  | 3 => .inr (.inl (0, 5))
  | 4 => .inr (.inr (5, 3, fun k => a + 5 + 2 * k))
  | 5 => .inl (0, fun k => match k with | 0 => some (a + 6) | _ => none)
  | 6 => .inr (.inl (0, 16))
  | 7 => .inl (0, fun k => match k with | 0 => some (a + 8) | _ => none)
  | 8 => .inr (.inl (0, 16))
  | 9 => .inl (0, fun k => match k with | 0 => some (a + 10) | _ => none)
  | 10 => .inr (.inl (0, 16))
  | 11 => .inl (5, fun k => match k with | 1 => some (a + 12) | 2 => some (a + 13) | 3 => some (a + 17) | 4 => some (a + 18) | 5 => some (a + 19) | 6 => some (a + 20) | 7 => some (a + 21) | _ => none)
  | 13 => .inr (.inr (3, 3, fun k => a + 14 + k))
  | _ => .inr (.inl (0, 64))
def LAY (L : Nat) (r : Nat) : Kd := match r with
  | 0 => .inr (.inl (0, L))
  | 1 => .inr (.inl (0, 6))
  | 2 => .inr (.inl (0, 6))
  | 3 => .inl (6, fun k => match k with | 0 => some 15 | 1 => some 37 | 2 => some 4 | 3 => some 6 | 4 => some 7 | 5 => some 8 | _ => none)
  | 4 => .inl (1, fun k => match k with | 0 => some 5 | _ => none)
  | 5 => .inr (.inr (4, 4, fun k => 103 + 22 * k))
  | 6 => .inr (.inr (4, 2, fun k => 59 + 22 * k))
  | 7 => .inr (.inl (2, 2))
  | 8 => .inl (2, fun k => match k with | 0 => some 9 | 3 => some 10 | _ => none)
  | 9 => .inr (.inl (1, 60))
  | 10 => .inr (.inl (0, 3))
  | 11 => .inr (.inl (0, 8))
  | 12 => .inr (.inl (0, 5296))
  | 13 => .inr (.inl (2, 2))
  | 14 => .inr (.inl (0, 60))
  | r + 15 => layS (r / 22 * 22 + 15) (r % 22)
theorem LAY_st (L a i : Nat) (ha : 15 ≤ a) (h22 : (a - 15) % 22 = 0) (hi : i < 22) : LAY L (a + i) = layS a i := by
  obtain ⟨j, rfl⟩ : ∃ j, a = 15 + 22 * j := ⟨(a - 15) / 22, by omega⟩
  rw [show 15 + 22 * j + i = (22 * j + i) + 15 by omega]
  show layS ((22 * j + i) / 22 * 22 + 15) ((22 * j + i) % 22) = _
  rw [show (22 * j + i) / 22 * 22 + 15 = 15 + 22 * j by omega, show (22 * j + i) % 22 = i by omega]
def tagT (t : Nat) : FieldType := match t with | 0 => .int | 1 => .char | 2 => .boolean | 3 => .array .int | 4 => .object RX4 | _ => .object RX0
def tysL (cA : Nat → ClassId) : List (ClassId × FieldType) := [(cA 0, .int), (cA 1, .char), (cA 2, .boolean), (cA 3, .array .int), (cA 4, .object RX4), (cA 5, .object RX0)]
theorem tysL_at (cA : Nat → ClassId) {t : Nat} (h : t < 6) : (tysL cA)[t]? = some (cA t, tagT t) := by
  match t, h with
  | 0, _ => rfl | 1, _ => rfl | 2, _ => rfl | 3, _ => rfl | 4, _ => rfl | 5, _ => rfl
theorem layS_ok (a i : Nat) : (∀ ci f, layS a i = .inl (ci, f) → ci < 7) ∧ (∀ t n, layS a i = .inr (.inl (t, n)) → t < 6 ∧ n < 2147483648) ∧ (∀ t n f, layS a i = .inr (.inr (t, n, f)) → t < 6 ∧ 3 ≤ t ∧ n < 2147483648) := by
  unfold layS
  split <;> (refine ⟨?_, ?_, ?_⟩ <;> intros <;> simp_all <;> omega)
theorem LAY_ok {L : Nat} (hL : L < 2147483648) (r : Nat) : (∀ ci f, LAY L r = .inl (ci, f) → ci < 7) ∧ (∀ t n, LAY L r = .inr (.inl (t, n)) → t < 6 ∧ n < 2147483648) ∧ (∀ t n f, LAY L r = .inr (.inr (t, n, f)) → t < 6 ∧ 3 ≤ t ∧ n < 2147483648) := by
  unfold LAY
  split
  case h_16 => exact layS_ok _ _
  all_goals (refine ⟨?_, ?_, ?_⟩ <;> intros <;> simp_all <;> omega)
def ceV (ad : Nat → Nat) (f : Nat → Option Nat) (m : Nat → Int) (k : Nat) : Value := match f k with | some r => .ref (ad r) | none => .int (Int32.ofInt (m k))
def ceE (ad : Nat → Nat) (cA : Nat → ClassId) (kd : Kd) (m : Nat → Int) : va_E := match kd with
  | .inl (ci, f) => .inr (ci, (List.range (nfC ci)).map (ceV ad f m))
  | .inr (.inl (t, n)) => .inl (cA t, n, .inl (fun j => Int32.ofInt (m j)))
  | .inr (.inr (t, n, f)) => .inl (cA t, n, .inr (.inr (.inr (.inr (fun j => if j < n then some (ad (f j)) else none)))))
/-- a cell's contents, by natural places -/
def nt_ (f : Int → Int) : Nat → Int := fun j => f (j : Int)
/-- the cells that the machine has: all but 11 to 14 -/
abbrev rOK (r : Nat) : Prop := 3 ≤ r ∧ r < 191 ∧ (r < 11 ∨ 15 ≤ r)
def wce (k : Nat) : Nat := if k < 8 then k + 3 else k + 7
def wpo (r : Nat) : Nat := if r < 11 then r - 3 else r - 7
theorem wce_ok {k : Nat} (h : k < 184) : rOK (wce k) := by unfold wce rOK; split <;> omega
theorem wpo_lt {r : Nat} (h : rOK r) : wpo r < 184 := by unfold rOK at h; unfold wpo; split <;> omega
theorem wce_wpo {r : Nat} (h : rOK r) : wce (wpo r) = r := by unfold rOK at h; unfold wce wpo; split <;> split <;> omega
theorem wpo_wce {k : Nat} (h : k < 184) : wpo (wce k) = k := by unfold wce wpo; split <;> split <;> omega
def wld (ad : Nat → Nat) (cA : Nat → ClassId) (L : Nat) (M : Mem) : va_W := (List.range 184).map (fun k => (ad (wce k), ceE ad cA (LAY L (wce k)) (nt_ (M (wce k)))))
theorem wld_ai {ad : Nat → Nat} {cA : Nat → ClassId} {L : Nat} {M : Mem} {k : Nat} (h : k < 184) : (wld ad cA L M)[k]? = some (ad (wce k), ceE ad cA (LAY L (wce k)) (nt_ (M (wce k)))) := by
  unfold wld
  rw [List.getElem?_map, List.getElem?_range h]
  rfl
theorem wld_at {ad : Nat → Nat} {cA : Nat → ClassId} {L : Nat} {M : Mem} {r : Nat} (h : rOK r) : (wld ad cA L M)[wpo r]? = some (ad r, ceE ad cA (LAY L r) (nt_ (M r))) := by
  rw [wld_ai (wpo_lt h), wce_wpo h]
theorem wld_len {ad : Nat → Nat} {cA : Nat → ClassId} {L : Nat} {M : Mem} : (wld ad cA L M).length = 184 := by simp [wld]
theorem wld_set {ad : Nat → Nat} {cA : Nat → ClassId} {L : Nat} {M M' : Mem} {r : Nat} (h : rOK r) (ho : ∀ r', r' ≠ r → M' r' = M r') : (wld ad cA L M).set (wpo r) (ad r, ceE ad cA (LAY L r) (nt_ (M' r))) = wld ad cA L M' := by
  apply List.ext_getElem?
  intro i
  by_cases hi : i < 184
  · rw [wld_ai hi]
    by_cases e : i = wpo r
    · subst e
      rw [List.getElem?_set_self (by rw [wld_len]; exact hi), wce_wpo h]
    · rw [List.getElem?_set_ne (Ne.symm e), wld_ai hi, ho (wce i) (fun z => e (by rw [← z, wpo_wce hi]))]
  · rw [List.getElem?_eq_none (by rw [List.length_set, wld_len]; omega), List.getElem?_eq_none (by rw [wld_len]; omega)]
theorem upM_ne {M : Mem} {r : Nat} {k x : Int} : ∀ r', r' ≠ r → upM M r k x r' = M r' := fun r' h => by funext k'; simp [upM, h]
theorem cpM_ne {M : Mem} {r0 r1 : Nat} {sp dp n : Int} : ∀ r', r' ≠ r1 → cpM M r0 sp r1 dp n r' = M r' := fun r' h => by funext k'; simp [cpM, h]
theorem upM_eq {M : Mem} {r k : Nat} {k1 x : Int} (hk : (k : Int) = k1) : nt_ (upM M r k1 x r) = fun k' => if k' = k then x else nt_ (M r) k' := by
  subst hk
  funext k'
  by_cases e : k' = k
  · simp [upM, nt_, e]
  · simp [upM, nt_, e, show ¬ ((k' : Int) = k) by omega]
/-- addresses: apart, and in A -/
def adOK (ad : Nat → Nat) (A : Nat → Prop) : Prop := (∀ r r', rOK r → rOK r' → ad r = ad r' → r = r') ∧ ∀ r, rOK r → A (ad r)
theorem wld_get {ad : Nat → Nat} {cA : Nat → ClassId} {L : Nat} {M : Mem} {i : Nat} {q : Nat × va_E} (h : (wld ad cA L M)[i]? = some q) : i < 184 ∧ q = (ad (wce i), ceE ad cA (LAY L (wce i)) (nt_ (M (wce i)))) := by
  have hi : i < 184 := by
    have := (List.getElem?_eq_some_iff.mp h).1
    rwa [wld_len] at this
  have := wld_ai (ad := ad) (cA := cA) (L := L) (M := M) hi
  rw [h] at this
  exact ⟨hi, Option.some.inj this⟩
theorem adOK.D {ad : Nat → Nat} {A : Nat → Prop} (h : adOK ad A) (cA : Nat → ClassId) (L : Nat) (M : Mem) : va_D A (wld ad cA L M) := by
  refine ⟨fun i j p q hi hj he => ?_, fun k q hk => ?_⟩
  · obtain ⟨a1, rfl⟩ := wld_get hi
    obtain ⟨a2, rfl⟩ := wld_get hj
    have e := h.1 _ _ (wce_ok a1) (wce_ok a2) he
    rw [← wpo_wce a1, e, wpo_wce a2]
  · obtain ⟨a1, rfl⟩ := wld_get hk
    exact h.2 _ (wce_ok a1)
theorem ceV_at {ad : Nat → Nat} {f : Nat → Option Nat} {m : Nat → Int} {n k : Nat} (h : k < n) : ((List.range n).map (ceV ad f m))[k]? = some (ceV ad f m k) := by
  rw [List.getElem?_map, List.getElem?_range h]
  rfl
theorem ceV_set {ad : Nat → Nat} {f : Nat → Option Nat} {m m' : Nat → Int} {n k : Nat} {x : Int} (hf : f k = none) (hm : m' = fun k' => if k' = k then x else m k') : ((List.range n).map (ceV ad f m)).set k (.int (Int32.ofInt x)) = (List.range n).map (ceV ad f m') := by
  subst hm
  apply List.ext_getElem?
  intro i
  by_cases hi : i < n
  · rw [ceV_at hi]
    by_cases e : i = k
    · subst e
      rw [List.getElem?_set_self (by simpa using hi)]
      simp [ceV, hf]
    · rw [List.getElem?_set_ne (Ne.symm e), ceV_at hi]
      simp [ceV, e]
  · rw [List.getElem?_eq_none (by simp; omega), List.getElem?_eq_none (by simp; omega)]
/-- the contents that nobody writes: the script, the two tables -/
def exN (L r : Nat) : Nat := match r with | 0 => L | _ => 6
def Ext (ad : Nat → Nat) (L : Nat) (xc : Nat → Int → Int) (A : Nat → Prop) (U : State) (H : Heap) : Prop :=
  (∀ r, r < 3 → va_T .int (ad r) (exN L r) (fun j => .int (Int32.ofInt (nt_ (xc r) j))) A U H) ∧ va_Z "DoubtfulTrunks" "LEAST_SETTINGS" "[I" (.ref (ad 1)) A U H ∧ va_Z "DoubtfulTrunks" "MOST_SETTINGS" "[I" (.ref (ad 2)) A U H
theorem LAY_ex {L r : Nat} (h : r < 3) : LAY L r = .inr (.inl (0, exN L r)) := by
  match r, h with
  | 0, _ => rfl | 1, _ => rfl | 2, _ => rfl
theorem Ext.moved {ad : Nat → Nat} {L : Nat} {xc : Nat → Int → Int} {A : Nat → Prop} {u U : State} {H : Heap} (hvm : u.vm.Alike U.vm) (h : Ext ad L xc A u H) : Ext ad L xc A U H := ⟨fun r hr => (h.1 r hr).moved hvm, h.2.1.moved hvm, h.2.2.moved hvm⟩
theorem Ext.kept {ad : Nat → Nat} {L : Nat} {xc : Nat → Int → Int} {A : Nat → Prop} {U : State} {H H1 : Heap} (h : Ext ad L xc A U H) (hq : ∀ a : Nat, a < H.size → ¬ A a → H1[a]? = H[a]?) : Ext ad L xc A U H1 := ⟨fun r hr => (h.1 r hr).kept hq, h.2.1.kept hq, h.2.2.kept hq⟩
theorem wld_co {ad : Nat → Nat} {cA : Nat → ClassId} {L : Nat} {M M2 : Mem} (h : ∀ r, rOK r → M2 r = M r) : wld ad cA L M2 = wld ad cA L M := by
  unfold wld
  refine List.map_congr_left fun k hk => ?_
  rw [h (wce k) (wce_ok (List.mem_range.mp hk))]
/-- a cell that no machine has: a row that a contract speaks of -/
def gho (M : Mem) (f : Int → Int) : Mem := fun r => if r = 200 then f else M r
theorem gho_g (M : Mem) (f : Int → Int) : gho M f 200 = f := if_pos rfl
theorem gho_r (M : Mem) (f : Int → Int) {r : Nat} (h : r < 191) : gho M f r = M r := if_neg (by omega)
end
section

/-! THE CLAUSES: one a kind of instruction. A predicate of the pure machine that is closed under all of them holds wherever it is derived: 'Runs'. -/
def lk {α : Type} (l : List (Nat × α)) (x : Nat) : Option α := match l with
  | [] => none
  | (a, b) :: t => match Nat.beq a x with | true => some b | false => lk t x
theorem lk_mem {α : Type} {l : List (Nat × α)} {x : Nat} {b : α} (h : lk l x = some b) : (x, b) ∈ l := by
  induction l with
  | nil => simp [lk] at h
  | cons c t ih =>
    obtain ⟨a, b'⟩ := c
    unfold lk at h
    cases e : Nat.beq a x with
    | true =>
      rw [e] at h
      have e2 := Nat.eq_of_beq_eq_true e
      subst e2
      cases h
      exact List.mem_cons_self
    | false =>
      rw [e] at h
      exact List.mem_cons_of_mem _ (ih h)
/-- a contract: how many arguments ('this' first), whether it answers, what it asks, what it says -/
abbrev Ct : Type := Nat × Bool × (List PV → Mem → Prop) × (List PV → Mem → Int → Mem → Prop)
/-- a method: its code, the fields, long and int constants, statics and natives of its class by their entries, its calls, whether it answers a boolean -/
abbrev Sx : Type := List (Nat × (Instr × Nat)) × List (Nat × (Nat × Nat)) × List (Nat × Int) × List (Nat × Int) × List (Nat × Nat) × List (Nat × Nat) × List (Nat × (Nat × Ct)) × Nat
abbrev inl64 (x : Int) : Prop := -9223372036854775808 ≤ x ∧ x < 9223372036854775808
def i32div (x y : Int) : Int := (Int32.ofInt x / Int32.ofInt y).toInt
def i32rem (x y : Int) : Int := (Int32.ofInt x - Int32.ofInt x / Int32.ofInt y * Int32.ofInt y).toInt
def xishl (x y : Int) : Int := (Int32.ofInt x <<< (Int32.ofInt y &&& 31)).toInt
def xishr (x y : Int) : Int := (Int32.ofInt x >>> (Int32.ofInt y &&& 31)).toInt
def xiand (x y : Int) : Int := (Int32.ofInt x &&& Int32.ofInt y).toInt
def xior (x y : Int) : Int := (Int32.ofInt x ||| Int32.ofInt y).toInt
def xixor (x y : Int) : Int := (Int32.ofInt x ^^^ Int32.ofInt y).toInt
def xiushr (x y : Int) : Int := (((Int32.ofInt x).toUInt32 >>> ((Int32.ofInt y).toUInt32 &&& Int32.toUInt32 31)).toInt32).toInt
def xland (x y : Int) : Int := (Int64.ofInt x &&& Int64.ofInt y).toInt
def xlor (x y : Int) : Int := (Int64.ofInt x ||| Int64.ofInt y).toInt
def xlushr (x y : Int) : Int := (((Int64.ofInt x).toUInt64 >>> ((Int32.ofInt y).toInt64.toUInt64 &&& Int64.toUInt64 63)).toInt64).toInt
def xlshl (x y : Int) : Int := (Int64.ofInt x <<< ((Int32.ofInt y).toInt64 &&& 63)).toInt
theorem of_i64 (x : Int64) : Int64.ofInt x.toInt = x := Int64.ofInt_toInt x
theorem i64_id {x : Int} (h : inl64 x) : (Int64.ofInt x).toInt = x := Int64.toInt_ofInt_of_le (by have := h.1; simpa using this) (by have := h.2; simpa using this)
theorem of_i8 {v : Int} (h : -128 ≤ v ∧ v < 128) : (Int8.ofInt v).toInt32 = Int32.ofInt v := by
  rw [← Int32.toInt_inj, Int8.toInt_toInt32, Int8.toInt_ofInt_of_le (by simpa using h.1) (by simpa using h.2)]
  exact (i32_id ⟨by omega, by omega⟩).symm
theorem of_i16 {v : Int} (h : -32768 ≤ v ∧ v < 32768) : (Int16.ofInt v).toInt32 = Int32.ofInt v := by
  rw [← Int32.toInt_inj, Int16.toInt_toInt32, Int16.toInt_ofInt_of_le (by simpa using h.1) (by simpa using h.2)]
  exact (i32_id ⟨by omega, by omega⟩).symm
theorem of_nL (n : Nat) : Int64.ofNat n = Int64.ofInt (n : Int) := Int64.ofInt_eq_ofNat.symm
theorem of_i2l {x : Int} (h : inr x) : (Int32.ofInt x).toInt64 = Int64.ofInt x := by
  rw [← Int64.toInt_inj, Int32.toInt_toInt64, i64_id ⟨by have := h.1; omega, by have := h.2; omega⟩]
  exact i32_id h
theorem of_l2i {x : Int} (h : inl64 x) : (Int64.ofInt x).toInt32 = Int32.ofInt x := by
  rw [← Int32.toInt_inj, Int64.toInt_toInt32, i64_id h, Int32.toInt_ofInt]
theorem of_i2c {x : Int} (h : 0 ≤ x ∧ x < 65536) : ((Int32.ofInt x).toUInt32 % 65536).toInt32 = Int32.ofInt x := by
  obtain ⟨k, rfl⟩ : ∃ k : Nat, x = k := ⟨x.toNat, by omega⟩
  rw [of_nI, pk_char, pk_tn (by omega), Nat.mod_eq_of_lt (by omega)]
theorem of_lcmp {x y : Int} (hx : inl64 x) (hy : inl64 y) : lg_cmp (Int64.ofInt x) (Int64.ofInt y) = Int32.ofInt (if y < x then 1 else if x = y then 0 else -1) := by
  have h1 : Int64.ofInt x > Int64.ofInt y ↔ y < x := by
    show Int64.ofInt y < Int64.ofInt x ↔ _
    rw [Int64.lt_iff_toInt_lt, i64_id hx, i64_id hy]
  have h2 : Int64.ofInt x = Int64.ofInt y ↔ x = y := by rw [← Int64.toInt_inj, i64_id hx, i64_id hy]
  unfold lg_cmp
  by_cases a : y < x
  · rw [if_pos (h1.mpr a), if_pos a]; rfl
  · rw [if_neg (fun z => a (h1.mp z)), if_neg a]
    by_cases b : x = y
    · rw [if_pos (h2.mpr b), if_pos b]; rfl
    · rw [if_neg (fun z => b (h2.mp z)), if_neg b]; rfl
theorem of_max {x y : Int} (hx : inr x) (hy : inr y) : (if Int32.ofInt x < Int32.ofInt y then Int32.ofInt y else Int32.ofInt x) = Int32.ofInt (if x < y then y else x) := by
  by_cases a : x < y
  · rw [if_pos ((of_lt hx hy).mpr a), if_pos a]
  · rw [if_neg (fun z => a ((of_lt hx hy).mp z)), if_neg a]
theorem of_min {x y : Int} (hx : inr x) (hy : inr y) : (if Int32.ofInt y < Int32.ofInt x then Int32.ofInt y else Int32.ofInt x) = Int32.ofInt (if y < x then y else x) := by
  by_cases a : y < x
  · rw [if_pos ((of_lt hy hx).mpr a), if_pos a]
  · rw [if_neg (fun z => a ((of_lt hy hx).mp z)), if_neg a]
theorem of_abs {x : Int} (hx : inr x) : (if 0 ≤ Int32.ofInt x then Int32.ofInt x else 0 - Int32.ofInt x) = Int32.ofInt (if 0 ≤ x then x else 0 - x) := by
  have h : 0 ≤ Int32.ofInt x ↔ 0 ≤ x := of_le (x := 0) ⟨by decide, by decide⟩ hx
  by_cases a : 0 ≤ x
  · rw [if_pos (h.mpr a), if_pos a]
  · rw [if_neg (fun z => a (h.mp z)), if_neg a, Int32.ofInt_sub]; rfl
theorem of_pos {x : Int} (h0 : 0 ≤ x) (h1 : x < 2147483648) : (¬ Int32.ofInt x < 0) ∧ (Int32.ofInt x).toNatClampNeg = x.toNat := by
  obtain ⟨k, rfl⟩ : ∃ k : Nat, x = k := ⟨x.toNat, by omega⟩
  rw [of_nI]
  exact ⟨nI_pos (by omega), by rw [nI_clamp (by omega)]; simp⟩
theorem cat1 (ad : Nat → Nat) {x : Int ⊕ (Nat ⊕ Int)} (h : isLong (some (some x)) = false) : (vp ad (some x)).category = 1 := by
  rcases x with x | r | x
  · rfl
  · rfl
  · simp [isLong] at h
def stW (st : List PV) : Nat := match st with
  | [] => 0
  | some (.inr (.inr _)) :: t => stW t + 2
  | _ :: t => stW t + 1
theorem stW_eq (ad : Nat → Nat) : ∀ st : List PV, ((st.map (vp ad)).map fun v => v.category).sum = stW st
  | [] => rfl
  | some (.inr (.inr x)) :: t => by
    have := stW_eq ad t
    simp only [List.map_cons, List.sum_cons, this]
    show 2 + _ = stW t + 2
    omega
  | none :: t => by
    have := stW_eq ad t
    simp only [List.map_cons, List.sum_cons, this]
    show 1 + _ = stW t + 1
    omega
  | some (.inl x) :: t => by
    have := stW_eq ad t
    simp only [List.map_cons, List.sum_cons, this]
    show 1 + _ = stW t + 1
    omega
  | some (.inr (.inl x)) :: t => by
    have := stW_eq ad t
    simp only [List.map_cons, List.sum_cons, this]
    show 1 + _ = stW t + 1
    omega
theorem stk8 (ad : Nat → Nat) (st : List PV) (h : Nat.ble (stW st) 8 = true) : ((st.map (vp ad)).map fun v => v.category).sum ≤ 8 := by
  rw [stW_eq]
  exact Nat.le_of_ble_eq_true h
theorem upd_of {f : Nat → Int} {k : Nat} {x : Int} : upd (fun j => Int32.ofInt (f j)) k (Int32.ofInt x) = fun j => Int32.ofInt ((fun k' => if k' = k then x else f k') j) := by
  funext j
  unfold upd
  by_cases e : j = k
  · simp [e]
  · simp [e]
theorem nar_c {x : Int} (h : 0 ≤ x ∧ x < 65536) : vp_nar .char (Int32.ofInt x) = Int32.ofInt x := by
  obtain ⟨k, rfl⟩ : ∃ k : Nat, x = k := ⟨x.toNat, by omega⟩
  rw [of_nI]
  unfold vp_nar
  rw [(pk_charN (by omega)).1]
theorem nar_z {x : Int} (h : x = 0 ∨ x = 1) : vp_nar .boolean (Int32.ofInt x) = Int32.ofInt x := by
  rcases h with rfl | rfl <;> decide +kernel
theorem cpy_of {f g : Nat → Int} {sp dp n : Nat} : va_cpy (fun j => Int32.ofInt (f j)) (fun j => Int32.ofInt (g j)) sp dp n = fun j => Int32.ofInt ((fun k => if dp ≤ k ∧ k < dp + n then f (sp + (k - dp)) else g k) j) := by
  funext j
  unfold va_cpy
  by_cases e : dp ≤ j ∧ j < dp + n
  · simp [e]
  · simp only [if_neg e]
theorem cpM_eq {M : Mem} {r0 r1 : Nat} {sp dp n : Int} (h1 : 0 ≤ sp) (h2 : 0 ≤ dp) (h3 : 0 ≤ n) : nt_ (cpM M r0 sp r1 dp n r1) = fun k => if dp.toNat ≤ k ∧ k < dp.toNat + n.toNat then nt_ (M r0) (sp.toNat + (k - dp.toNat)) else nt_ (M r1) k := by
  funext k
  by_cases e : dp.toNat ≤ k ∧ k < dp.toNat + n.toNat
  · have e2 : dp ≤ (k : Int) ∧ (k : Int) < dp + n := by omega
    rw [if_pos e]
    simp only [nt_, cpM, true_and, if_pos e2]
    congr 1
    omega
  · have e2 : ¬ (dp ≤ (k : Int) ∧ (k : Int) < dp + n) := by omega
    rw [if_neg e]
    simp only [nt_, cpM, true_and, if_neg e2]
theorem tag_ref {t : Nat} (h : t < 6) (h3 : 3 ≤ t) : (tagT t).isReference = true := by
  match t, h, h3 with
  | 3, _, _ => rfl | 4, _, _ => rfl | 5, _, _ => rfl
theorem ciLt {L r ci : Nat} {f : Nat → Option Nat} (hL : L < 2147483648) (h : LAY L r = .inl (ci, f)) : ci < 7 := (LAY_ok hL r).1 _ _ h
def xcF (scr : Int → Int) (r : Nat) (j : Int) : Int := match r with | 0 => scr j | 1 => if j = 5 then 1 else 0 | _ => if j = 0 then 200 else if j = 1 then 50 else if j = 2 then 90 else if j = 3 then 20 else if j = 4 then 9 else 4
/-- the tables' words that last -/
def GT : List Cond := lw_tbl.filter goodWord
theorem mem_GT {w : Cond} : w ∈ GT ↔ w ∈ lw_tbl ∧ goodWord w = true := List.mem_filter
theorem GT_at {w : Cond} (i : Nat) (h : lw_tbl[i]? = some w) (hg : goodWord w = true) : w ∈ GT := mem_GT.mpr ⟨List.mem_of_getElem? h, hg⟩
theorem goodGT {w : Cond} (h : w ∈ GT) : w ∈ GT ∧ ((w.onTables && w.keeps) = true ∨ ∃ ty, w = .arrayClass ty) := ⟨h, good_of_word (mem_GT.mp h).2⟩
def rmD (d : Nat) : Room := { frames := d + 1, cells := 0, slots := 0, locals := 60 + 30 * d }


theorem clsW {ci : Nat} (h : ci < 7) : ∀ w ∈ u_ws (RC ci) (TC ci) (nfC ci), w ∈ GT := by
  have key : ∀ ci, ci < 7 → ((u_ws (RC ci) (TC ci) (nfC ci)).all (fun w => decide (w ∈ GT))) = true := by
    intro ci h
    match ci, h with
    | 0, _ => decide +kernel
    | 1, _ => decide +kernel
    | 2, _ => decide +kernel
    | 3, _ => decide +kernel
    | 4, _ => decide +kernel
    | 5, _ => decide +kernel
    | 6, _ => decide +kernel
  intro w hw
  have := List.all_eq_true.mp (key ci h) w hw
  simpa using this
/-- what the tables say of a class's entries -/
def FdOK (own : String) (e : Nat × (Nat × Nat)) : Prop := e.2.1 < 7 ∧ e.2.2 < nfC e.2.1 ∧ Cond.fieldLink own e.1 (TC e.2.1 e.2.2).1 (TC e.2.1 e.2.2).2.1 (TC e.2.1 e.2.2).2.2.1 ∈ GT
def SgOK (own : String) (e : Nat × Nat) : Prop := (e.2 = 1 ∧ Cond.fieldLink own e.1 "DoubtfulTrunks" "LEAST_SETTINGS" "[I" ∈ GT) ∨ (e.2 = 2 ∧ Cond.fieldLink own e.1 "DoubtfulTrunks" "MOST_SETTINGS" "[I" ∈ GT)
def NtOK (own : String) (e : Nat × Nat) : Prop :=
  (e.2 = 0 → Cond.methodLink own e.1 arraycopyName ∈ GT ∧ Cond.native arraycopyName ∈ GT ∧ Cond.static arraycopyName ∈ GT ∧ Cond.initialized "java/lang/System" ∈ GT) ∧
  (e.2 = 1 → Cond.methodLink own e.1 Lib.Math.max.name ∈ GT ∧ Cond.static Lib.Math.max.name ∈ GT ∧ Cond.initialized "java/lang/Math" ∈ GT ∧ Cond.code Lib.Math.max.name Lib.Math.max.code 2 (some .int) ∈ GT) ∧
  (e.2 = 2 → Cond.methodLink own e.1 Lib.Math.min.name ∈ GT ∧ Cond.static Lib.Math.min.name ∈ GT ∧ Cond.initialized "java/lang/Math" ∈ GT ∧ Cond.code Lib.Math.min.name Lib.Math.min.code 2 (some .int) ∈ GT) ∧
  (e.2 = 3 → Cond.methodLink own e.1 Lib.Math.abs.name ∈ GT ∧ Cond.static Lib.Math.abs.name ∈ GT ∧ Cond.initialized "java/lang/Math" ∈ GT ∧ Cond.code Lib.Math.abs.name Lib.Math.abs.code 1 (some .int) ∈ GT)
def WdU (D : va_G) (cA : Nat → ClassId) (ad : Nat → Nat) (A : Nat → Prop) (L : Nat) (scr : Int → Int) (M : Mem) (U : State) : Prop :=
  va_P D clsL (wld ad cA L M) U.heap ∧ va_K D clsL (tysL cA) U ∧ Ext ad L (xcF scr) A U U.heap
def QcC (C : Ct) (as : List PV) (M : Mem) (D : va_G) (cA : Nat → ClassId) (ad : Nat → Nat) (A : Nat → Prop) (L : Nat) : Array Value → State → Outcome → State → Prop :=
  if C.2.1 = true then va_Qi (S := Mem) (fun r M' => ∃ x : Int, r = Int32.ofInt x ∧ C.2.2.2 as M x M') (fun M' t => va_P D clsL (wld ad cA L M') t.heap) A
  else va_Qv (S := Mem) (fun M' => C.2.2.2 as M 0 M') (fun M' t => va_P D clsL (wld ad cA L M') t.heap) A
def MtOK (y : MethodName) (b : ByteArray) (mL : Nat) (ret : Option FieldType) (d : Nat) (C : Ct) : Prop :=
  ∀ (l : Launch) (D : va_G) (cA : Nat → ClassId) (ad : Nat → Nat) (A : Nat → Prop) (L : Nat) (scr : Int → Int) (as : List PV) (M : Mem), L < 2147483648 → adOK ad A → as.length = C.1 → C.2.2.1 as M →
    Met l y (.code y b mL ret :: GT) (rmD d) (va_Pc (as.map (vp ad)) (fun U => WdU D cA ad A L scr M U)) (QcC C as M D cA ad A L) 0 0 A
def ClOK (own : String) (R : Room) (e : Nat × (Nat × Ct)) : Prop := ∃ (y : MethodName) (b : ByteArray) (mL : Nat) (ret : Option FieldType) (d : Nat), MtOK y b mL ret d e.2.2 ∧
  Cond.methodLink own e.1 y ∈ GT ∧ Cond.initialized y.cls ∈ GT ∧ Cond.code y b mL ret ∈ GT ∧
  ((y.cls ≠ "java/lang/invoke/MethodHandle") ∧ (y.cls ≠ "java/lang/invoke/VarHandle") ∧ (parseMethodDescriptor y.desc).map (fun d => d.parameters.length) = some (if e.2.1 < 7 then e.2.2.1 - 1 else e.2.2.1)) ∧
  ((rmD d).frames + 1 ≤ R.frames ∧ 8 + (mL + 11) + (rmD d).locals ≤ R.locals) ∧
  (if e.2.1 < 7 then Cond.instanceMethod y ∈ GT ∧ Cond.selects y.cls y y ∈ GT ∧ y.cls = RC e.2.1 ∧ 1 ≤ e.2.2.1 else (Cond.static y ∈ GT ∧ True))
theorem goodV {own : String} {i : Nat} {y : MethodName} {b : ByteArray} {mL : Nat} {ret : Option FieldType} (h1 : Cond.methodLink own i y ∈ GT) (h2 : Cond.initialized y.cls ∈ GT) (h3 : Cond.code y b mL ret ∈ GT) (h4 : Cond.instanceMethod y ∈ GT) (h5 : Cond.selects y.cls y y ∈ GT) :
    GoodIn GT (wsV own i y.cls y (.code y b mL ret :: GT)) := by
  intro w hw
  refine goodGT ?_
  simp only [wsV, List.mem_append, List.mem_cons, List.not_mem_nil, or_false] at hw
  rcases hw with (rfl | rfl | rfl | rfl) | rfl | hw
  · exact h1
  · exact h4
  · exact h5
  · exact h2
  · exact h3
  · exact hw
theorem callS_of {own : String} {i : Nat} {y : MethodName} {b : ByteArray} {mL : Nat} {ret : Option FieldType} {R : Room} {d n : Nat} {args : Array Value} {s : State} (hts : ∀ w ∈ GT, w.before args s = true) (h1 : Cond.methodLink own i y ∈ GT) (h2 : Cond.initialized y.cls ∈ GT) (h3 : Cond.code y b mL ret ∈ GT) (h4 : Cond.static y ∈ GT)
    (hd : y.cls ≠ "java/lang/invoke/MethodHandle" ∧ y.cls ≠ "java/lang/invoke/VarHandle" ∧ (parseMethodDescriptor y.desc).map (fun d => d.parameters.length) = some n) (hR : (rmD d).frames + 1 ≤ R.frames ∧ 8 + (mL + 11) + (rmD d).locals ≤ R.locals) :
    CallB R s args own i y b mL ret (.code y b mL ret :: GT) (rmD d) 0 0 n ∧ (Cond.static y).before args s = true := by
  refine ⟨callB_of (Ts := GT) (ws' := GT) n hts (fun w hw => ?_) rfl rfl rfl (hts _ h2) (hts _ h1) hd hR, hts _ h4⟩
  rcases List.mem_cons.mp hw with rfl | hw
  · exact goodGT h3
  · exact goodGT hw

def k_iconst (X : Sx) (L : Nat) (xc : Nat → Int → Int) (J : Nat → List PV → List PV → Mem → Prop) : Prop := ∀ (pc q : Nat) (ls st : List PV) (M : Mem) (v : Int), lk X.1 pc = some (.iconst v, 1) → pc + 1 = q → (J q ls (wI v :: st) M) → J pc ls (st) M
def k_bipush (X : Sx) (L : Nat) (xc : Nat → Int → Int) (J : Nat → List PV → List PV → Mem → Prop) : Prop := ∀ (pc q : Nat) (ls st : List PV) (M : Mem) (v : Int), lk X.1 pc = some (.bipush v, 2) → pc + 2 = q → -128 ≤ v ∧ v < 128 → (J q ls (wI v :: st) M) → J pc ls (st) M
def k_sipush (X : Sx) (L : Nat) (xc : Nat → Int → Int) (J : Nat → List PV → List PV → Mem → Prop) : Prop := ∀ (pc q : Nat) (ls st : List PV) (M : Mem) (v : Int), lk X.1 pc = some (.sipush v, 3) → pc + 3 = q → -32768 ≤ v ∧ v < 32768 → (J q ls (wI v :: st) M) → J pc ls (st) M
def k_lconst (X : Sx) (L : Nat) (xc : Nat → Int → Int) (J : Nat → List PV → List PV → Mem → Prop) : Prop := ∀ (pc q : Nat) (ls st : List PV) (M : Mem) (n : Fin 2) (v : Int), lk X.1 pc = some (.lconst n, 1) → pc + 1 = q → ((n : Nat) : Int) = v → (J q ls (wL v :: st) M) → J pc ls (st) M
def k_ldc2 (X : Sx) (L : Nat) (xc : Nat → Int → Int) (J : Nat → List PV → List PV → Mem → Prop) : Prop := ∀ (pc q : Nat) (ls st : List PV) (M : Mem) (i : Nat) (v : Int), lk X.1 pc = some (.ldc2_w i, 3) → pc + 3 = q → lk X.2.2.1 i = some v → (J q ls (wL v :: st) M) → J pc ls (st) M
def k_ldcw (X : Sx) (L : Nat) (xc : Nat → Int → Int) (J : Nat → List PV → List PV → Mem → Prop) : Prop := ∀ (pc q : Nat) (ls st : List PV) (M : Mem) (i : Nat) (v : Int), lk X.1 pc = some (.ldc_w i, 3) → pc + 3 = q → lk X.2.2.2.1 i = some v → (J q ls (wI v :: st) M) → J pc ls (st) M
def k_iload_n (X : Sx) (L : Nat) (xc : Nat → Int → Int) (J : Nat → List PV → List PV → Mem → Prop) : Prop := ∀ (pc q : Nat) (ls st : List PV) (M : Mem) (k4 : Fin 4) (i : Nat) (x : Int), lk X.1 pc = some (.iload_n k4, 1) → pc + 1 = q → (k4 : Nat) = i → ls[i]? = some (some (.inl x)) → (J q ls (wI x :: st) M) → J pc ls (st) M
def k_iload (X : Sx) (L : Nat) (xc : Nat → Int → Int) (J : Nat → List PV → List PV → Mem → Prop) : Prop := ∀ (pc q : Nat) (ls st : List PV) (M : Mem) (i : Nat) (x : Int), lk X.1 pc = some (.iload i, 2) → pc + 2 = q → ls[i]? = some (some (.inl x)) → (J q ls (wI x :: st) M) → J pc ls (st) M
def k_lload_n (X : Sx) (L : Nat) (xc : Nat → Int → Int) (J : Nat → List PV → List PV → Mem → Prop) : Prop := ∀ (pc q : Nat) (ls st : List PV) (M : Mem) (k4 : Fin 4) (i : Nat) (x : Int), lk X.1 pc = some (.lload_n k4, 1) → pc + 1 = q → (k4 : Nat) = i → ls[i]? = some (some (.inr (.inr x))) → (J q ls (wL x :: st) M) → J pc ls (st) M
def k_lload (X : Sx) (L : Nat) (xc : Nat → Int → Int) (J : Nat → List PV → List PV → Mem → Prop) : Prop := ∀ (pc q : Nat) (ls st : List PV) (M : Mem) (i : Nat) (x : Int), lk X.1 pc = some (.lload i, 2) → pc + 2 = q → ls[i]? = some (some (.inr (.inr x))) → (J q ls (wL x :: st) M) → J pc ls (st) M
def k_aload_n (X : Sx) (L : Nat) (xc : Nat → Int → Int) (J : Nat → List PV → List PV → Mem → Prop) : Prop := ∀ (pc q : Nat) (ls st : List PV) (M : Mem) (k4 : Fin 4) (i r : Nat), lk X.1 pc = some (.aload_n k4, 1) → pc + 1 = q → (k4 : Nat) = i → ls[i]? = some (some (.inr (.inl r))) → (J q ls (wR r :: st) M) → J pc ls (st) M
def k_aload (X : Sx) (L : Nat) (xc : Nat → Int → Int) (J : Nat → List PV → List PV → Mem → Prop) : Prop := ∀ (pc q : Nat) (ls st : List PV) (M : Mem) (i r : Nat), lk X.1 pc = some (.aload i, 2) → pc + 2 = q → ls[i]? = some (some (.inr (.inl r))) → (J q ls (wR r :: st) M) → J pc ls (st) M
def k_istore_n (X : Sx) (L : Nat) (xc : Nat → Int → Int) (J : Nat → List PV → List PV → Mem → Prop) : Prop := ∀ (pc q : Nat) (ls st : List PV) (M : Mem) (k4 : Fin 4) (i : Nat) (x : Int), lk X.1 pc = some (.istore_n k4, 1) → pc + 1 = q → (k4 : Nat) = i → okS ls i = true → (J q (ls.set i (wI x)) st M) → J pc ls (wI x :: st) M
def k_istore (X : Sx) (L : Nat) (xc : Nat → Int → Int) (J : Nat → List PV → List PV → Mem → Prop) : Prop := ∀ (pc q : Nat) (ls st : List PV) (M : Mem) (i : Nat) (x : Int), lk X.1 pc = some (.istore i, 2) → pc + 2 = q → okS ls i = true → (J q (ls.set i (wI x)) st M) → J pc ls (wI x :: st) M
def k_astore_n (X : Sx) (L : Nat) (xc : Nat → Int → Int) (J : Nat → List PV → List PV → Mem → Prop) : Prop := ∀ (pc q : Nat) (ls st : List PV) (M : Mem) (k4 : Fin 4) (i r : Nat), lk X.1 pc = some (.astore_n k4, 1) → pc + 1 = q → (k4 : Nat) = i → okS ls i = true → (J q (ls.set i (wR r)) st M) → J pc ls (wR r :: st) M
def k_astore (X : Sx) (L : Nat) (xc : Nat → Int → Int) (J : Nat → List PV → List PV → Mem → Prop) : Prop := ∀ (pc q : Nat) (ls st : List PV) (M : Mem) (i r : Nat), lk X.1 pc = some (.astore i, 2) → pc + 2 = q → okS ls i = true → (J q (ls.set i (wR r)) st M) → J pc ls (wR r :: st) M
def k_lstore_n (X : Sx) (L : Nat) (xc : Nat → Int → Int) (J : Nat → List PV → List PV → Mem → Prop) : Prop := ∀ (pc q : Nat) (ls st : List PV) (M : Mem) (k4 : Fin 4) (i : Nat) (x : Int), lk X.1 pc = some (.lstore_n k4, 1) → pc + 1 = q → (k4 : Nat) = i → okS ls i = true → Nat.ble (i + 1 + 1) ls.length = true → (J q ((ls.set i (wL x)).set (i + 1) none) st M) → J pc ls (wL x :: st) M
def k_lstore (X : Sx) (L : Nat) (xc : Nat → Int → Int) (J : Nat → List PV → List PV → Mem → Prop) : Prop := ∀ (pc q : Nat) (ls st : List PV) (M : Mem) (i : Nat) (x : Int), lk X.1 pc = some (.lstore i, 2) → pc + 2 = q → okS ls i = true → Nat.ble (i + 1 + 1) ls.length = true → (J q ((ls.set i (wL x)).set (i + 1) none) st M) → J pc ls (wL x :: st) M
def k_iinc (X : Sx) (L : Nat) (xc : Nat → Int → Int) (J : Nat → List PV → List PV → Mem → Prop) : Prop := ∀ (pc q : Nat) (ls st : List PV) (M : Mem) (i : Nat) (n x : Int), lk X.1 pc = some (.iinc i n, 3) → pc + 3 = q → ls[i]? = some (some (.inl x)) → okS ls i = true → (J q (ls.set i (wI (x + n))) st M) → J pc ls st M
def k_iadd (X : Sx) (L : Nat) (xc : Nat → Int → Int) (J : Nat → List PV → List PV → Mem → Prop) : Prop := ∀ (pc q : Nat) (ls st : List PV) (M : Mem) (x y : Int), lk X.1 pc = some (.iadd, 1) → pc + 1 = q → (J q ls (wI (x + y) :: st) M) → J pc ls (wI y :: wI x :: st) M
def k_isub (X : Sx) (L : Nat) (xc : Nat → Int → Int) (J : Nat → List PV → List PV → Mem → Prop) : Prop := ∀ (pc q : Nat) (ls st : List PV) (M : Mem) (x y : Int), lk X.1 pc = some (.isub, 1) → pc + 1 = q → (J q ls (wI (x - y) :: st) M) → J pc ls (wI y :: wI x :: st) M
def k_imul (X : Sx) (L : Nat) (xc : Nat → Int → Int) (J : Nat → List PV → List PV → Mem → Prop) : Prop := ∀ (pc q : Nat) (ls st : List PV) (M : Mem) (x y : Int), lk X.1 pc = some (.imul, 1) → pc + 1 = q → (J q ls (wI (x * y) :: st) M) → J pc ls (wI y :: wI x :: st) M
def k_idiv (X : Sx) (L : Nat) (xc : Nat → Int → Int) (J : Nat → List PV → List PV → Mem → Prop) : Prop := ∀ (pc q : Nat) (ls st : List PV) (M : Mem) (x y : Int), lk X.1 pc = some (.idiv, 1) → pc + 1 = q → inr y ∧ y ≠ 0 → (J q ls (wI (i32div x y) :: st) M) → J pc ls (wI y :: wI x :: st) M
def k_irem (X : Sx) (L : Nat) (xc : Nat → Int → Int) (J : Nat → List PV → List PV → Mem → Prop) : Prop := ∀ (pc q : Nat) (ls st : List PV) (M : Mem) (x y : Int), lk X.1 pc = some (.irem, 1) → pc + 1 = q → inr y ∧ y ≠ 0 → (J q ls (wI (i32rem x y) :: st) M) → J pc ls (wI y :: wI x :: st) M
def k_ineg (X : Sx) (L : Nat) (xc : Nat → Int → Int) (J : Nat → List PV → List PV → Mem → Prop) : Prop := ∀ (pc q : Nat) (ls st : List PV) (M : Mem) (x : Int), lk X.1 pc = some (.ineg, 1) → pc + 1 = q → (J q ls (wI (-x) :: st) M) → J pc ls (wI x :: st) M
def k_ishl (X : Sx) (L : Nat) (xc : Nat → Int → Int) (J : Nat → List PV → List PV → Mem → Prop) : Prop := ∀ (pc q : Nat) (ls st : List PV) (M : Mem) (x y : Int), lk X.1 pc = some (.ishl, 1) → pc + 1 = q → (J q ls (wI (xishl x y) :: st) M) → J pc ls (wI y :: wI x :: st) M
def k_ishr (X : Sx) (L : Nat) (xc : Nat → Int → Int) (J : Nat → List PV → List PV → Mem → Prop) : Prop := ∀ (pc q : Nat) (ls st : List PV) (M : Mem) (x y : Int), lk X.1 pc = some (.ishr, 1) → pc + 1 = q → (J q ls (wI (xishr x y) :: st) M) → J pc ls (wI y :: wI x :: st) M
def k_iand (X : Sx) (L : Nat) (xc : Nat → Int → Int) (J : Nat → List PV → List PV → Mem → Prop) : Prop := ∀ (pc q : Nat) (ls st : List PV) (M : Mem) (x y : Int), lk X.1 pc = some (.iand, 1) → pc + 1 = q → (J q ls (wI (xiand x y) :: st) M) → J pc ls (wI y :: wI x :: st) M
def k_ior (X : Sx) (L : Nat) (xc : Nat → Int → Int) (J : Nat → List PV → List PV → Mem → Prop) : Prop := ∀ (pc q : Nat) (ls st : List PV) (M : Mem) (x y : Int), lk X.1 pc = some (.ior, 1) → pc + 1 = q → (J q ls (wI (xior x y) :: st) M) → J pc ls (wI y :: wI x :: st) M
def k_ixor (X : Sx) (L : Nat) (xc : Nat → Int → Int) (J : Nat → List PV → List PV → Mem → Prop) : Prop := ∀ (pc q : Nat) (ls st : List PV) (M : Mem) (x y : Int), lk X.1 pc = some (.ixor, 1) → pc + 1 = q → (J q ls (wI (xixor x y) :: st) M) → J pc ls (wI y :: wI x :: st) M
def k_iushr (X : Sx) (L : Nat) (xc : Nat → Int → Int) (J : Nat → List PV → List PV → Mem → Prop) : Prop := ∀ (pc q : Nat) (ls st : List PV) (M : Mem) (x y : Int), lk X.1 pc = some (.iushr, 1) → pc + 1 = q → (J q ls (wI (xiushr x y) :: st) M) → J pc ls (wI y :: wI x :: st) M
def k_land (X : Sx) (L : Nat) (xc : Nat → Int → Int) (J : Nat → List PV → List PV → Mem → Prop) : Prop := ∀ (pc q : Nat) (ls st : List PV) (M : Mem) (x y : Int), lk X.1 pc = some (.land, 1) → pc + 1 = q → (J q ls (wL (xland x y) :: st) M) → J pc ls (wL y :: wL x :: st) M
def k_lor (X : Sx) (L : Nat) (xc : Nat → Int → Int) (J : Nat → List PV → List PV → Mem → Prop) : Prop := ∀ (pc q : Nat) (ls st : List PV) (M : Mem) (x y : Int), lk X.1 pc = some (.lor, 1) → pc + 1 = q → (J q ls (wL (xlor x y) :: st) M) → J pc ls (wL y :: wL x :: st) M
def k_lushr (X : Sx) (L : Nat) (xc : Nat → Int → Int) (J : Nat → List PV → List PV → Mem → Prop) : Prop := ∀ (pc q : Nat) (ls st : List PV) (M : Mem) (x y : Int), lk X.1 pc = some (.lushr, 1) → pc + 1 = q → (J q ls (wL (xlushr x y) :: st) M) → J pc ls (wI y :: wL x :: st) M
def k_lshl (X : Sx) (L : Nat) (xc : Nat → Int → Int) (J : Nat → List PV → List PV → Mem → Prop) : Prop := ∀ (pc q : Nat) (ls st : List PV) (M : Mem) (x y : Int), lk X.1 pc = some (.lshl, 1) → pc + 1 = q → (J q ls (wL (xlshl x y) :: st) M) → J pc ls (wI y :: wL x :: st) M
def k_i2l (X : Sx) (L : Nat) (xc : Nat → Int → Int) (J : Nat → List PV → List PV → Mem → Prop) : Prop := ∀ (pc q : Nat) (ls st : List PV) (M : Mem) (x : Int), lk X.1 pc = some (.i2l, 1) → pc + 1 = q → inr x → (J q ls (wL x :: st) M) → J pc ls (wI x :: st) M
def k_l2i (X : Sx) (L : Nat) (xc : Nat → Int → Int) (J : Nat → List PV → List PV → Mem → Prop) : Prop := ∀ (pc q : Nat) (ls st : List PV) (M : Mem) (x : Int), lk X.1 pc = some (.l2i, 1) → pc + 1 = q → inl64 x → (J q ls (wI x :: st) M) → J pc ls (wL x :: st) M
def k_i2c (X : Sx) (L : Nat) (xc : Nat → Int → Int) (J : Nat → List PV → List PV → Mem → Prop) : Prop := ∀ (pc q : Nat) (ls st : List PV) (M : Mem) (x : Int), lk X.1 pc = some (.i2c, 1) → pc + 1 = q → 0 ≤ x ∧ x < 65536 → (J q ls (wI x :: st) M) → J pc ls (wI x :: st) M
def k_lcmp (X : Sx) (L : Nat) (xc : Nat → Int → Int) (J : Nat → List PV → List PV → Mem → Prop) : Prop := ∀ (pc q : Nat) (ls st : List PV) (M : Mem) (x y : Int), lk X.1 pc = some (.lcmp, 1) → pc + 1 = q → inl64 x → inl64 y → (J q ls (wI (if y < x then 1 else if x = y then 0 else -1) :: st) M) → J pc ls (wL y :: wL x :: st) M
def k_dup (X : Sx) (L : Nat) (xc : Nat → Int → Int) (J : Nat → List PV → List PV → Mem → Prop) : Prop := ∀ (pc q : Nat) (ls st : List PV) (M : Mem) (x : Int ⊕ (Nat ⊕ Int)), lk X.1 pc = some (.dup, 1) → pc + 1 = q → isLong (some (some x)) = false → (J q ls (some x :: some x :: st) M) → J pc ls (some x :: st) M
def k_dup2 (X : Sx) (L : Nat) (xc : Nat → Int → Int) (J : Nat → List PV → List PV → Mem → Prop) : Prop := ∀ (pc q : Nat) (ls st : List PV) (M : Mem) (x y : Int ⊕ (Nat ⊕ Int)), lk X.1 pc = some (.dup2, 1) → pc + 1 = q → isLong (some (some x)) = false → isLong (some (some y)) = false → (J q ls (some y :: some x :: some y :: some x :: st) M) → J pc ls (some y :: some x :: st) M
def k_pop (X : Sx) (L : Nat) (xc : Nat → Int → Int) (J : Nat → List PV → List PV → Mem → Prop) : Prop := ∀ (pc q : Nat) (ls st : List PV) (M : Mem) (x : Int ⊕ (Nat ⊕ Int)), lk X.1 pc = some (.pop, 1) → pc + 1 = q → isLong (some (some x)) = false → (J q ls (st) M) → J pc ls (some x :: st) M
def k_icmp_eq (X : Sx) (L : Nat) (xc : Nat → Int → Int) (J : Nat → List PV → List PV → Mem → Prop) : Prop := ∀ (pc q : Nat) (ls st : List PV) (M : Mem) (x : Int) (y : Int) (off : Int) (tgt : Nat), lk X.1 pc = some (.if_icmp .eq off, 3) → pc + 3 = q → (pc : Int) + off = (tgt : Int) → inr x → inr y → ((x = y → J tgt ls st M) ∧ (¬ (x = y) → J q ls st M)) → J pc ls (wI y :: wI x :: st) M
def k_if_eq (X : Sx) (L : Nat) (xc : Nat → Int → Int) (J : Nat → List PV → List PV → Mem → Prop) : Prop := ∀ (pc q : Nat) (ls st : List PV) (M : Mem) (x : Int) (off : Int) (tgt : Nat), lk X.1 pc = some (.ifCond .eq off, 3) → pc + 3 = q → (pc : Int) + off = (tgt : Int) → inr x → ((x = 0 → J tgt ls st M) ∧ (¬ (x = 0) → J q ls st M)) → J pc ls (wI x :: st) M
def k_icmp_ne (X : Sx) (L : Nat) (xc : Nat → Int → Int) (J : Nat → List PV → List PV → Mem → Prop) : Prop := ∀ (pc q : Nat) (ls st : List PV) (M : Mem) (x : Int) (y : Int) (off : Int) (tgt : Nat), lk X.1 pc = some (.if_icmp .ne off, 3) → pc + 3 = q → (pc : Int) + off = (tgt : Int) → inr x → inr y → ((x ≠ y → J tgt ls st M) ∧ (¬ (x ≠ y) → J q ls st M)) → J pc ls (wI y :: wI x :: st) M
def k_if_ne (X : Sx) (L : Nat) (xc : Nat → Int → Int) (J : Nat → List PV → List PV → Mem → Prop) : Prop := ∀ (pc q : Nat) (ls st : List PV) (M : Mem) (x : Int) (off : Int) (tgt : Nat), lk X.1 pc = some (.ifCond .ne off, 3) → pc + 3 = q → (pc : Int) + off = (tgt : Int) → inr x → ((x ≠ 0 → J tgt ls st M) ∧ (¬ (x ≠ 0) → J q ls st M)) → J pc ls (wI x :: st) M
def k_icmp_lt (X : Sx) (L : Nat) (xc : Nat → Int → Int) (J : Nat → List PV → List PV → Mem → Prop) : Prop := ∀ (pc q : Nat) (ls st : List PV) (M : Mem) (x : Int) (y : Int) (off : Int) (tgt : Nat), lk X.1 pc = some (.if_icmp .lt off, 3) → pc + 3 = q → (pc : Int) + off = (tgt : Int) → inr x → inr y → ((x < y → J tgt ls st M) ∧ (¬ (x < y) → J q ls st M)) → J pc ls (wI y :: wI x :: st) M
def k_if_lt (X : Sx) (L : Nat) (xc : Nat → Int → Int) (J : Nat → List PV → List PV → Mem → Prop) : Prop := ∀ (pc q : Nat) (ls st : List PV) (M : Mem) (x : Int) (off : Int) (tgt : Nat), lk X.1 pc = some (.ifCond .lt off, 3) → pc + 3 = q → (pc : Int) + off = (tgt : Int) → inr x → ((x < 0 → J tgt ls st M) ∧ (¬ (x < 0) → J q ls st M)) → J pc ls (wI x :: st) M
def k_icmp_ge (X : Sx) (L : Nat) (xc : Nat → Int → Int) (J : Nat → List PV → List PV → Mem → Prop) : Prop := ∀ (pc q : Nat) (ls st : List PV) (M : Mem) (x : Int) (y : Int) (off : Int) (tgt : Nat), lk X.1 pc = some (.if_icmp .ge off, 3) → pc + 3 = q → (pc : Int) + off = (tgt : Int) → inr x → inr y → ((y ≤ x → J tgt ls st M) ∧ (¬ (y ≤ x) → J q ls st M)) → J pc ls (wI y :: wI x :: st) M
def k_if_ge (X : Sx) (L : Nat) (xc : Nat → Int → Int) (J : Nat → List PV → List PV → Mem → Prop) : Prop := ∀ (pc q : Nat) (ls st : List PV) (M : Mem) (x : Int) (off : Int) (tgt : Nat), lk X.1 pc = some (.ifCond .ge off, 3) → pc + 3 = q → (pc : Int) + off = (tgt : Int) → inr x → ((0 ≤ x → J tgt ls st M) ∧ (¬ (0 ≤ x) → J q ls st M)) → J pc ls (wI x :: st) M
def k_icmp_gt (X : Sx) (L : Nat) (xc : Nat → Int → Int) (J : Nat → List PV → List PV → Mem → Prop) : Prop := ∀ (pc q : Nat) (ls st : List PV) (M : Mem) (x : Int) (y : Int) (off : Int) (tgt : Nat), lk X.1 pc = some (.if_icmp .gt off, 3) → pc + 3 = q → (pc : Int) + off = (tgt : Int) → inr x → inr y → ((y < x → J tgt ls st M) ∧ (¬ (y < x) → J q ls st M)) → J pc ls (wI y :: wI x :: st) M
def k_if_gt (X : Sx) (L : Nat) (xc : Nat → Int → Int) (J : Nat → List PV → List PV → Mem → Prop) : Prop := ∀ (pc q : Nat) (ls st : List PV) (M : Mem) (x : Int) (off : Int) (tgt : Nat), lk X.1 pc = some (.ifCond .gt off, 3) → pc + 3 = q → (pc : Int) + off = (tgt : Int) → inr x → ((0 < x → J tgt ls st M) ∧ (¬ (0 < x) → J q ls st M)) → J pc ls (wI x :: st) M
def k_icmp_le (X : Sx) (L : Nat) (xc : Nat → Int → Int) (J : Nat → List PV → List PV → Mem → Prop) : Prop := ∀ (pc q : Nat) (ls st : List PV) (M : Mem) (x : Int) (y : Int) (off : Int) (tgt : Nat), lk X.1 pc = some (.if_icmp .le off, 3) → pc + 3 = q → (pc : Int) + off = (tgt : Int) → inr x → inr y → ((x ≤ y → J tgt ls st M) ∧ (¬ (x ≤ y) → J q ls st M)) → J pc ls (wI y :: wI x :: st) M
def k_if_le (X : Sx) (L : Nat) (xc : Nat → Int → Int) (J : Nat → List PV → List PV → Mem → Prop) : Prop := ∀ (pc q : Nat) (ls st : List PV) (M : Mem) (x : Int) (off : Int) (tgt : Nat), lk X.1 pc = some (.ifCond .le off, 3) → pc + 3 = q → (pc : Int) + off = (tgt : Int) → inr x → ((x ≤ 0 → J tgt ls st M) ∧ (¬ (x ≤ 0) → J q ls st M)) → J pc ls (wI x :: st) M
def k_goto (X : Sx) (L : Nat) (xc : Nat → Int → Int) (J : Nat → List PV → List PV → Mem → Prop) : Prop := ∀ (pc q : Nat) (ls st : List PV) (M : Mem) (off : Int) (tgt : Nat), lk X.1 pc = some (.goto off, 3) → pc + 3 = q → (pc : Int) + off = (tgt : Int) → (J tgt ls st M) → J pc ls st M
def k_eqS (X : Sx) (L : Nat) (xc : Nat → Int → Int) (J : Nat → List PV → List PV → Mem → Prop) : Prop := ∀ (pc q : Nat) (ls st : List PV) (M : Mem) (x off : Int) (tgt : Nat), lk X.1 pc = some (.if_icmp .eq off, 3) → pc + 3 = q → (pc : Int) + off = (tgt : Int) → (J tgt ls st M) → J pc ls (wI x :: wI x :: st) M
def k_tblIn (X : Sx) (L : Nat) (xc : Nat → Int → Int) (J : Nat → List PV → List PV → Mem → Prop) : Prop := ∀ (pc q : Nat) (ls st : List PV) (M : Mem) (x dflt lo hi : Int) (offs : Array Int) (len : Nat) (off : Int) (tgt : Nat), lk X.1 pc = some (.tableswitch dflt lo hi offs, len) → pc + len = q → inr x → lo ≤ x ∧ x ≤ hi → offs[(x - lo).toNat]? = some off → (pc : Int) + off = (tgt : Int) → (J tgt ls st M) → J pc ls (wI x :: st) M
def k_tblOut (X : Sx) (L : Nat) (xc : Nat → Int → Int) (J : Nat → List PV → List PV → Mem → Prop) : Prop := ∀ (pc q : Nat) (ls st : List PV) (M : Mem) (x dflt lo hi : Int) (offs : Array Int) (len : Nat) (tgt : Nat), lk X.1 pc = some (.tableswitch dflt lo hi offs, len) → pc + len = q → inr x → x < lo ∨ hi < x → (pc : Int) + dflt = (tgt : Int) → (J tgt ls st M) → J pc ls (wI x :: st) M
def k_lookup (X : Sx) (L : Nat) (xc : Nat → Int → Int) (J : Nat → List PV → List PV → Mem → Prop) : Prop := ∀ (pc q : Nat) (ls st : List PV) (M : Mem) (x dflt : Int) (ps : Array (Int × Int)) (len : Nat) (off : Int) (tgt : Nat), lk X.1 pc = some (.lookupswitch dflt ps, len) → pc + len = q → inr x → (ps.toList.zip (ps.toList.drop 1)).all (fun (a, next) => a.1 < next.1) = true → Op.lookupswitch.offset ps.toList dflt x = off → (pc : Int) + off = (tgt : Int) → (J tgt ls st M) → J pc ls (wI x :: st) M
def k_getI (X : Sx) (L : Nat) (xc : Nat → Int → Int) (J : Nat → List PV → List PV → Mem → Prop) : Prop := ∀ (pc q : Nat) (ls st : List PV) (M : Mem) (i ci k0 r : Nat) (f : Nat → Option Nat) (k1 : Int), lk X.1 pc = some (.getfield i, 3) → pc + 3 = q → lk X.2.1 i = some (ci, k0) → LAY L r = .inl (ci, f) → f k0 = none → 3 ≤ r ∧ r < 191 ∧ (r < 11 ∨ 15 ≤ r) → (k0 : Int) = k1 → (J q ls (wI (M r k1) :: st) M) → J pc ls (wR r :: st) M
def k_getR (X : Sx) (L : Nat) (xc : Nat → Int → Int) (J : Nat → List PV → List PV → Mem → Prop) : Prop := ∀ (pc q : Nat) (ls st : List PV) (M : Mem) (i ci k0 r r' : Nat) (f : Nat → Option Nat), lk X.1 pc = some (.getfield i, 3) → pc + 3 = q → lk X.2.1 i = some (ci, k0) → LAY L r = .inl (ci, f) → f k0 = some r' → 3 ≤ r ∧ r < 191 ∧ (r < 11 ∨ 15 ≤ r) → (J q ls (wR r' :: st) M) → J pc ls (wR r :: st) M
def k_putI (X : Sx) (L : Nat) (xc : Nat → Int → Int) (J : Nat → List PV → List PV → Mem → Prop) : Prop := ∀ (pc q : Nat) (ls st : List PV) (M : Mem) (i ci k0 r : Nat) (f : Nat → Option Nat) (k1 x : Int) (M2 : Mem), lk X.1 pc = some (.putfield i, 3) → pc + 3 = q → lk X.2.1 i = some (ci, k0) → LAY L r = .inl (ci, f) → f k0 = none → 3 ≤ r ∧ r < 191 ∧ (r < 11 ∨ 15 ≤ r) → (TC ci k0).2.2.2 = false → tyC ci k0 = .int → (k0 : Int) = k1 → upM M r k1 x = M2 → (J q ls st M2) → J pc ls (wI x :: wR r :: st) M
def k_iald (X : Sx) (L : Nat) (xc : Nat → Int → Int) (J : Nat → List PV → List PV → Mem → Prop) : Prop := ∀ (pc q : Nat) (ls st : List PV) (M : Mem) (i v : Int) (r n : Nat), lk X.1 pc = some (.iaload, 1) → pc + 1 = q → LAY L r = .inr (.inl (0, n)) → 3 ≤ r ∧ r < 191 ∧ (r < 11 ∨ 15 ≤ r) → 0 ≤ i ∧ i < n → M r i = v → (J q ls (wI v :: st) M) → J pc ls (wI i :: wR r :: st) M
def k_cald (X : Sx) (L : Nat) (xc : Nat → Int → Int) (J : Nat → List PV → List PV → Mem → Prop) : Prop := ∀ (pc q : Nat) (ls st : List PV) (M : Mem) (i v : Int) (r n : Nat), lk X.1 pc = some (.caload, 1) → pc + 1 = q → LAY L r = .inr (.inl (1, n)) → 3 ≤ r ∧ r < 191 ∧ (r < 11 ∨ 15 ≤ r) → 0 ≤ i ∧ i < n → M r i = v → (J q ls (wI v :: st) M) → J pc ls (wI i :: wR r :: st) M
def k_zald (X : Sx) (L : Nat) (xc : Nat → Int → Int) (J : Nat → List PV → List PV → Mem → Prop) : Prop := ∀ (pc q : Nat) (ls st : List PV) (M : Mem) (i v : Int) (r n : Nat), lk X.1 pc = some (.baload, 1) → pc + 1 = q → LAY L r = .inr (.inl (2, n)) → 3 ≤ r ∧ r < 191 ∧ (r < 11 ∨ 15 ≤ r) → 0 ≤ i ∧ i < n → M r i = v → (J q ls (wI v :: st) M) → J pc ls (wI i :: wR r :: st) M
def k_iast (X : Sx) (L : Nat) (xc : Nat → Int → Int) (J : Nat → List PV → List PV → Mem → Prop) : Prop := ∀ (pc q : Nat) (ls st : List PV) (M : Mem) (x i : Int) (r n : Nat) (M2 : Mem), lk X.1 pc = some (.iastore, 1) → pc + 1 = q → LAY L r = .inr (.inl (0, n)) → 3 ≤ r ∧ r < 191 ∧ (r < 11 ∨ 15 ≤ r) → 0 ≤ i ∧ i < n → upM M r i x = M2 → (J q ls st M2) → J pc ls (wI x :: wI i :: wR r :: st) M
def k_cast (X : Sx) (L : Nat) (xc : Nat → Int → Int) (J : Nat → List PV → List PV → Mem → Prop) : Prop := ∀ (pc q : Nat) (ls st : List PV) (M : Mem) (x i : Int) (r n : Nat) (M2 : Mem), lk X.1 pc = some (.castore, 1) → pc + 1 = q → LAY L r = .inr (.inl (1, n)) → 3 ≤ r ∧ r < 191 ∧ (r < 11 ∨ 15 ≤ r) → 0 ≤ i ∧ i < n → 0 ≤ x ∧ x < 65536 → upM M r i x = M2 → (J q ls st M2) → J pc ls (wI x :: wI i :: wR r :: st) M
def k_zast (X : Sx) (L : Nat) (xc : Nat → Int → Int) (J : Nat → List PV → List PV → Mem → Prop) : Prop := ∀ (pc q : Nat) (ls st : List PV) (M : Mem) (x i : Int) (r n : Nat) (M2 : Mem), lk X.1 pc = some (.bastore, 1) → pc + 1 = q → LAY L r = .inr (.inl (2, n)) → 3 ≤ r ∧ r < 191 ∧ (r < 11 ∨ 15 ≤ r) → 0 ≤ i ∧ i < n → x = 0 ∨ x = 1 → upM M r i x = M2 → (J q ls st M2) → J pc ls (wI x :: wI i :: wR r :: st) M
def k_aald (X : Sx) (L : Nat) (xc : Nat → Int → Int) (J : Nat → List PV → List PV → Mem → Prop) : Prop := ∀ (pc q : Nat) (ls st : List PV) (M : Mem) (i : Int) (r t n r2 : Nat) (f : Nat → Nat), lk X.1 pc = some (.aaload, 1) → pc + 1 = q → LAY L r = .inr (.inr (t, n, f)) → 3 ≤ r ∧ r < 191 ∧ (r < 11 ∨ 15 ≤ r) → 0 ≤ i ∧ i < n → f i.toNat = r2 → (J q ls (wR r2 :: st) M) → J pc ls (wI i :: wR r :: st) M
def k_ialdX (X : Sx) (L : Nat) (xc : Nat → Int → Int) (J : Nat → List PV → List PV → Mem → Prop) : Prop := ∀ (pc q : Nat) (ls st : List PV) (M : Mem) (i : Int) (r : Nat), lk X.1 pc = some (.iaload, 1) → pc + 1 = q → r < 3 → 0 ≤ i ∧ i < exN L r → (J q ls (wI (xc r i) :: st) M) → J pc ls (wI i :: wR r :: st) M
def k_alenX (X : Sx) (L : Nat) (xc : Nat → Int → Int) (J : Nat → List PV → List PV → Mem → Prop) : Prop := ∀ (pc q : Nat) (ls st : List PV) (M : Mem) (r : Nat), lk X.1 pc = some (.arraylength, 1) → pc + 1 = q → r < 3 → (J q ls (wI (exN L r) :: st) M) → J pc ls (wR r :: st) M
def k_gets (X : Sx) (L : Nat) (xc : Nat → Int → Int) (J : Nat → List PV → List PV → Mem → Prop) : Prop := ∀ (pc q : Nat) (ls st : List PV) (M : Mem) (i r : Nat), lk X.1 pc = some (.getstatic i, 3) → pc + 3 = q → lk X.2.2.2.2.1 i = some r → (J q ls (wR r :: st) M) → J pc ls st M
def k_copy (X : Sx) (L : Nat) (xc : Nat → Int → Int) (J : Nat → List PV → List PV → Mem → Prop) : Prop := ∀ (pc q : Nat) (ls st : List PV) (M : Mem) (i r0 r1 n0 n1 : Nat) (sp dp n : Int) (M2 : Mem), lk X.1 pc = some (.invokestatic i, 3) → pc + 3 = q → lk X.2.2.2.2.2.1 i = some 0 → LAY L r0 = .inr (.inl (0, n0)) → LAY L r1 = .inr (.inl (0, n1)) → (3 ≤ r0 ∧ r0 < 191 ∧ (r0 < 11 ∨ 15 ≤ r0)) ∧ 3 ≤ r1 ∧ r1 < 191 ∧ (r1 < 11 ∨ 15 ≤ r1) → 0 ≤ sp ∧ 0 ≤ dp ∧ 0 ≤ n ∧ sp + n ≤ n0 ∧ dp + n ≤ n1 → cpM M r0 sp r1 dp n = M2 → Nat.ble (stW st) 8 = true → (J q ls st M2) → J pc ls (wI n :: wI dp :: wR r1 :: wI sp :: wR r0 :: st) M
def k_mmax (X : Sx) (L : Nat) (xc : Nat → Int → Int) (J : Nat → List PV → List PV → Mem → Prop) : Prop := ∀ (pc q : Nat) (ls st : List PV) (M : Mem) (i : Nat) (x y : Int), lk X.1 pc = some (.invokestatic i, 3) → pc + 3 = q → lk X.2.2.2.2.2.1 i = some 1 → inr x → inr y → Nat.ble (stW st) 8 = true → (J q ls (wI (if x < y then y else x) :: st) M) → J pc ls (wI y :: wI x :: st) M
def k_mmin (X : Sx) (L : Nat) (xc : Nat → Int → Int) (J : Nat → List PV → List PV → Mem → Prop) : Prop := ∀ (pc q : Nat) (ls st : List PV) (M : Mem) (i : Nat) (x y : Int), lk X.1 pc = some (.invokestatic i, 3) → pc + 3 = q → lk X.2.2.2.2.2.1 i = some 2 → inr x → inr y → Nat.ble (stW st) 8 = true → (J q ls (wI (if y < x then y else x) :: st) M) → J pc ls (wI y :: wI x :: st) M
def k_mabs (X : Sx) (L : Nat) (xc : Nat → Int → Int) (J : Nat → List PV → List PV → Mem → Prop) : Prop := ∀ (pc q : Nat) (ls st : List PV) (M : Mem) (i : Nat) (x : Int), lk X.1 pc = some (.invokestatic i, 3) → pc + 3 = q → lk X.2.2.2.2.2.1 i = some 3 → inr x → Nat.ble (stW st) 8 = true → (J q ls (wI (if 0 ≤ x then x else 0 - x) :: st) M) → J pc ls (wI x :: st) M
def k_callVI (X : Sx) (L : Nat) (xc : Nat → Int → Int) (J : Nat → List PV → List PV → Mem → Prop) : Prop := ∀ (pc q : Nat) (ls st : List PV) (M : Mem) (i ci : Nat) (C : Ct) (as : List PV) (r : Nat) (f : Nat → Option Nat), lk X.1 pc = some (.invokevirtual i, 3) → pc + 3 = q → lk X.2.2.2.2.2.2.1 i = some (ci, C) → (wR r :: as).length = C.1 → C.2.1 = true → C.2.2.1 (wR r :: as) M → Nat.ble (stW st) 8 = true → LAY L r = .inl (ci, f) → 3 ≤ r ∧ r < 191 ∧ (r < 11 ∨ 15 ≤ r) → (∀ (x : Int) (M' : Mem), C.2.2.2 (wR r :: as) M x M' → J q ls (wI x :: st) M') → J pc ls (as.reverse ++ wR r :: st) M
def k_callVN (X : Sx) (L : Nat) (xc : Nat → Int → Int) (J : Nat → List PV → List PV → Mem → Prop) : Prop := ∀ (pc q : Nat) (ls st : List PV) (M : Mem) (i ci : Nat) (C : Ct) (as : List PV) (r : Nat) (f : Nat → Option Nat), lk X.1 pc = some (.invokevirtual i, 3) → pc + 3 = q → lk X.2.2.2.2.2.2.1 i = some (ci, C) → (wR r :: as).length = C.1 → C.2.1 = false → C.2.2.1 (wR r :: as) M → Nat.ble (stW st) 8 = true → LAY L r = .inl (ci, f) → 3 ≤ r ∧ r < 191 ∧ (r < 11 ∨ 15 ≤ r) → (∀ (M' : Mem), C.2.2.2 (wR r :: as) M 0 M' → J q ls st M') → J pc ls (as.reverse ++ wR r :: st) M
def k_callSI (X : Sx) (L : Nat) (xc : Nat → Int → Int) (J : Nat → List PV → List PV → Mem → Prop) : Prop := ∀ (pc q : Nat) (ls st : List PV) (M : Mem) (i ci : Nat) (C : Ct) (as : List PV), lk X.1 pc = some (.invokestatic i, 3) → pc + 3 = q → lk X.2.2.2.2.2.2.1 i = some (ci, C) → (as).length = C.1 → C.2.1 = true → C.2.2.1 (as) M → Nat.ble (stW st) 8 = true → ci = 9 → (∀ (x : Int) (M' : Mem), C.2.2.2 (as) M x M' → J q ls (wI x :: st) M') → J pc ls (as.reverse ++ st) M
def k_callSN (X : Sx) (L : Nat) (xc : Nat → Int → Int) (J : Nat → List PV → List PV → Mem → Prop) : Prop := ∀ (pc q : Nat) (ls st : List PV) (M : Mem) (i ci : Nat) (C : Ct) (as : List PV), lk X.1 pc = some (.invokestatic i, 3) → pc + 3 = q → lk X.2.2.2.2.2.2.1 i = some (ci, C) → (as).length = C.1 → C.2.1 = false → C.2.2.1 (as) M → Nat.ble (stW st) 8 = true → ci = 9 → (∀ (M' : Mem), C.2.2.2 (as) M 0 M' → J q ls st M') → J pc ls (as.reverse ++ st) M
def k_gho (X : Sx) (L : Nat) (xc : Nat → Int → Int) (J : Nat → List PV → List PV → Mem → Prop) : Prop := ∀ (pc q : Nat) (ls st : List PV) (M : Mem) (M2 : Mem), pc = q → (∀ r, 3 ≤ r → r < 191 → M2 r = M r) → (J q ls st M2) → J pc ls st M
def k_ret (X : Sx) (Qp : Int → Mem → Prop) (J : Nat → List PV → List PV → Mem → Prop) : Prop := ∀ (pc : Nat) (ls : List PV) (M : Mem) (x : Int), lk X.1 pc = some (.ireturn, 1) → (X.2.2.2.2.2.2.2 = 1 ∨ (X.2.2.2.2.2.2.2 = 2 ∧ (x = 0 ∨ x = 1))) → Qp x M → J pc ls [wI x] M
def k_vret (X : Sx) (Qp : Int → Mem → Prop) (J : Nat → List PV → List PV → Mem → Prop) : Prop := ∀ (pc : Nat) (ls : List PV) (M : Mem), lk X.1 pc = some (.return_, 1) → X.2.2.2.2.2.2.2 = 0 → Qp 0 M → J pc ls [] M
def Clo (X : Sx) (L : Nat) (xc : Nat → Int → Int) (Qp : Int → Mem → Prop) (J : Nat → List PV → List PV → Mem → Prop) : Prop :=
  k_iconst X L xc J ∧ k_bipush X L xc J ∧ k_sipush X L xc J ∧ k_lconst X L xc J ∧ k_ldc2 X L xc J ∧ k_ldcw X L xc J ∧ k_iload_n X L xc J ∧ k_iload X L xc J ∧ k_lload_n X L xc J ∧ k_lload X L xc J ∧ k_aload_n X L xc J ∧ k_aload X L xc J ∧ k_istore_n X L xc J ∧ k_istore X L xc J ∧ k_astore_n X L xc J ∧ k_astore X L xc J ∧ k_lstore_n X L xc J ∧ k_lstore X L xc J ∧ k_iinc X L xc J ∧ k_iadd X L xc J ∧ k_isub X L xc J ∧ k_imul X L xc J ∧ k_idiv X L xc J ∧ k_irem X L xc J ∧ k_ineg X L xc J ∧ k_ishl X L xc J ∧ k_ishr X L xc J ∧ k_iand X L xc J ∧ k_ior X L xc J ∧ k_ixor X L xc J ∧ k_iushr X L xc J ∧ k_land X L xc J ∧ k_lor X L xc J ∧ k_lushr X L xc J ∧ k_lshl X L xc J ∧ k_i2l X L xc J ∧ k_l2i X L xc J ∧ k_i2c X L xc J ∧ k_lcmp X L xc J ∧ k_dup X L xc J ∧ k_dup2 X L xc J ∧ k_pop X L xc J ∧ k_icmp_eq X L xc J ∧ k_if_eq X L xc J ∧ k_icmp_ne X L xc J ∧ k_if_ne X L xc J ∧ k_icmp_lt X L xc J ∧ k_if_lt X L xc J ∧ k_icmp_ge X L xc J ∧ k_if_ge X L xc J ∧ k_icmp_gt X L xc J ∧ k_if_gt X L xc J ∧ k_icmp_le X L xc J ∧ k_if_le X L xc J ∧ k_goto X L xc J ∧ k_eqS X L xc J ∧ k_tblIn X L xc J ∧ k_tblOut X L xc J ∧ k_lookup X L xc J ∧ k_getI X L xc J ∧ k_getR X L xc J ∧ k_putI X L xc J ∧ k_iald X L xc J ∧ k_cald X L xc J ∧ k_zald X L xc J ∧ k_iast X L xc J ∧ k_cast X L xc J ∧ k_zast X L xc J ∧ k_aald X L xc J ∧ k_ialdX X L xc J ∧ k_alenX X L xc J ∧ k_gets X L xc J ∧ k_copy X L xc J ∧ k_mmax X L xc J ∧ k_mmin X L xc J ∧ k_mabs X L xc J ∧ k_callVI X L xc J ∧ k_callVN X L xc J ∧ k_callSI X L xc J ∧ k_callSN X L xc J ∧ k_gho X L xc J ∧ k_ret X Qp J ∧ k_vret X Qp J
/-- derivable: the machine that is here comes to its end, with Qp of its answer and its memory -/
def Runs (X : Sx) (L : Nat) (xc : Nat → Int → Int) (Qp : Int → Mem → Prop) (pc : Nat) (ls st : List PV) (M : Mem) : Prop := ∀ J : Nat → List PV → List PV → Mem → Prop, Clo X L xc Qp J → J pc ls st M
theorem R_iconst {X : Sx} {L : Nat} {xc : Nat → Int → Int} {Qp : Int → Mem → Prop} {pc q : Nat} {ls st : List PV} {M : Mem} {v : Int} (h1 : lk X.1 pc = some (.iconst v, 1)) (h2 : pc + 1 = q) (k : Runs X L xc Qp q ls (wI v :: st) M) : Runs X L xc Qp pc ls (st) M := fun J c => c.1 pc q ls st M v h1 h2 (k J c)
theorem R_bipush {X : Sx} {L : Nat} {xc : Nat → Int → Int} {Qp : Int → Mem → Prop} {pc q : Nat} {ls st : List PV} {M : Mem} {v : Int} (h1 : lk X.1 pc = some (.bipush v, 2)) (h2 : pc + 2 = q) (h3 : -128 ≤ v ∧ v < 128) (k : Runs X L xc Qp q ls (wI v :: st) M) : Runs X L xc Qp pc ls (st) M := fun J c => c.2.1 pc q ls st M v h1 h2 h3 (k J c)
theorem R_sipush {X : Sx} {L : Nat} {xc : Nat → Int → Int} {Qp : Int → Mem → Prop} {pc q : Nat} {ls st : List PV} {M : Mem} {v : Int} (h1 : lk X.1 pc = some (.sipush v, 3)) (h2 : pc + 3 = q) (h3 : -32768 ≤ v ∧ v < 32768) (k : Runs X L xc Qp q ls (wI v :: st) M) : Runs X L xc Qp pc ls (st) M := fun J c => c.2.2.1 pc q ls st M v h1 h2 h3 (k J c)
theorem R_lconst {X : Sx} {L : Nat} {xc : Nat → Int → Int} {Qp : Int → Mem → Prop} {pc q : Nat} {ls st : List PV} {M : Mem} {n : Fin 2} {v : Int} (h1 : lk X.1 pc = some (.lconst n, 1)) (h2 : pc + 1 = q) (h3 : ((n : Nat) : Int) = v) (k : Runs X L xc Qp q ls (wL v :: st) M) : Runs X L xc Qp pc ls (st) M := fun J c => c.2.2.2.1 pc q ls st M n v h1 h2 h3 (k J c)
theorem R_ldc2 {X : Sx} {L : Nat} {xc : Nat → Int → Int} {Qp : Int → Mem → Prop} {pc q : Nat} {ls st : List PV} {M : Mem} {i : Nat} {v : Int} (h1 : lk X.1 pc = some (.ldc2_w i, 3)) (h2 : pc + 3 = q) (h3 : lk X.2.2.1 i = some v) (k : Runs X L xc Qp q ls (wL v :: st) M) : Runs X L xc Qp pc ls (st) M := fun J c => c.2.2.2.2.1 pc q ls st M i v h1 h2 h3 (k J c)
theorem R_ldcw {X : Sx} {L : Nat} {xc : Nat → Int → Int} {Qp : Int → Mem → Prop} {pc q : Nat} {ls st : List PV} {M : Mem} {i : Nat} {v : Int} (h1 : lk X.1 pc = some (.ldc_w i, 3)) (h2 : pc + 3 = q) (h3 : lk X.2.2.2.1 i = some v) (k : Runs X L xc Qp q ls (wI v :: st) M) : Runs X L xc Qp pc ls (st) M := fun J c => c.2.2.2.2.2.1 pc q ls st M i v h1 h2 h3 (k J c)
theorem R_iload_n {X : Sx} {L : Nat} {xc : Nat → Int → Int} {Qp : Int → Mem → Prop} {pc q : Nat} {ls st : List PV} {M : Mem} {k4 : Fin 4} {i : Nat} {x : Int} (h1 : lk X.1 pc = some (.iload_n k4, 1)) (h2 : pc + 1 = q) (h3 : (k4 : Nat) = i) (h4 : ls[i]? = some (some (.inl x))) (k : Runs X L xc Qp q ls (wI x :: st) M) : Runs X L xc Qp pc ls (st) M := fun J c => c.2.2.2.2.2.2.1 pc q ls st M k4 i x h1 h2 h3 h4 (k J c)
theorem R_iload {X : Sx} {L : Nat} {xc : Nat → Int → Int} {Qp : Int → Mem → Prop} {pc q : Nat} {ls st : List PV} {M : Mem} {i : Nat} {x : Int} (h1 : lk X.1 pc = some (.iload i, 2)) (h2 : pc + 2 = q) (h3 : ls[i]? = some (some (.inl x))) (k : Runs X L xc Qp q ls (wI x :: st) M) : Runs X L xc Qp pc ls (st) M := fun J c => c.2.2.2.2.2.2.2.1 pc q ls st M i x h1 h2 h3 (k J c)
theorem R_lload_n {X : Sx} {L : Nat} {xc : Nat → Int → Int} {Qp : Int → Mem → Prop} {pc q : Nat} {ls st : List PV} {M : Mem} {k4 : Fin 4} {i : Nat} {x : Int} (h1 : lk X.1 pc = some (.lload_n k4, 1)) (h2 : pc + 1 = q) (h3 : (k4 : Nat) = i) (h4 : ls[i]? = some (some (.inr (.inr x)))) (k : Runs X L xc Qp q ls (wL x :: st) M) : Runs X L xc Qp pc ls (st) M := fun J c => c.2.2.2.2.2.2.2.2.1 pc q ls st M k4 i x h1 h2 h3 h4 (k J c)
theorem R_lload {X : Sx} {L : Nat} {xc : Nat → Int → Int} {Qp : Int → Mem → Prop} {pc q : Nat} {ls st : List PV} {M : Mem} {i : Nat} {x : Int} (h1 : lk X.1 pc = some (.lload i, 2)) (h2 : pc + 2 = q) (h3 : ls[i]? = some (some (.inr (.inr x)))) (k : Runs X L xc Qp q ls (wL x :: st) M) : Runs X L xc Qp pc ls (st) M := fun J c => c.2.2.2.2.2.2.2.2.2.1 pc q ls st M i x h1 h2 h3 (k J c)
theorem R_aload_n {X : Sx} {L : Nat} {xc : Nat → Int → Int} {Qp : Int → Mem → Prop} {pc q : Nat} {ls st : List PV} {M : Mem} {k4 : Fin 4} {i r : Nat} (h1 : lk X.1 pc = some (.aload_n k4, 1)) (h2 : pc + 1 = q) (h3 : (k4 : Nat) = i) (h4 : ls[i]? = some (some (.inr (.inl r)))) (k : Runs X L xc Qp q ls (wR r :: st) M) : Runs X L xc Qp pc ls (st) M := fun J c => c.2.2.2.2.2.2.2.2.2.2.1 pc q ls st M k4 i r h1 h2 h3 h4 (k J c)
theorem R_aload {X : Sx} {L : Nat} {xc : Nat → Int → Int} {Qp : Int → Mem → Prop} {pc q : Nat} {ls st : List PV} {M : Mem} {i r : Nat} (h1 : lk X.1 pc = some (.aload i, 2)) (h2 : pc + 2 = q) (h3 : ls[i]? = some (some (.inr (.inl r)))) (k : Runs X L xc Qp q ls (wR r :: st) M) : Runs X L xc Qp pc ls (st) M := fun J c => c.2.2.2.2.2.2.2.2.2.2.2.1 pc q ls st M i r h1 h2 h3 (k J c)
theorem R_istore_n {X : Sx} {L : Nat} {xc : Nat → Int → Int} {Qp : Int → Mem → Prop} {pc q : Nat} {ls st : List PV} {M : Mem} {k4 : Fin 4} {i : Nat} {x : Int} (h1 : lk X.1 pc = some (.istore_n k4, 1)) (h2 : pc + 1 = q) (h3 : (k4 : Nat) = i) (h4 : okS ls i = true) (k : Runs X L xc Qp q (ls.set i (wI x)) st M) : Runs X L xc Qp pc ls (wI x :: st) M := fun J c => c.2.2.2.2.2.2.2.2.2.2.2.2.1 pc q ls st M k4 i x h1 h2 h3 h4 (k J c)
theorem R_istore {X : Sx} {L : Nat} {xc : Nat → Int → Int} {Qp : Int → Mem → Prop} {pc q : Nat} {ls st : List PV} {M : Mem} {i : Nat} {x : Int} (h1 : lk X.1 pc = some (.istore i, 2)) (h2 : pc + 2 = q) (h3 : okS ls i = true) (k : Runs X L xc Qp q (ls.set i (wI x)) st M) : Runs X L xc Qp pc ls (wI x :: st) M := fun J c => c.2.2.2.2.2.2.2.2.2.2.2.2.2.1 pc q ls st M i x h1 h2 h3 (k J c)
theorem R_astore_n {X : Sx} {L : Nat} {xc : Nat → Int → Int} {Qp : Int → Mem → Prop} {pc q : Nat} {ls st : List PV} {M : Mem} {k4 : Fin 4} {i r : Nat} (h1 : lk X.1 pc = some (.astore_n k4, 1)) (h2 : pc + 1 = q) (h3 : (k4 : Nat) = i) (h4 : okS ls i = true) (k : Runs X L xc Qp q (ls.set i (wR r)) st M) : Runs X L xc Qp pc ls (wR r :: st) M := fun J c => c.2.2.2.2.2.2.2.2.2.2.2.2.2.2.1 pc q ls st M k4 i r h1 h2 h3 h4 (k J c)
theorem R_astore {X : Sx} {L : Nat} {xc : Nat → Int → Int} {Qp : Int → Mem → Prop} {pc q : Nat} {ls st : List PV} {M : Mem} {i r : Nat} (h1 : lk X.1 pc = some (.astore i, 2)) (h2 : pc + 2 = q) (h3 : okS ls i = true) (k : Runs X L xc Qp q (ls.set i (wR r)) st M) : Runs X L xc Qp pc ls (wR r :: st) M := fun J c => c.2.2.2.2.2.2.2.2.2.2.2.2.2.2.2.1 pc q ls st M i r h1 h2 h3 (k J c)
theorem R_lstore_n {X : Sx} {L : Nat} {xc : Nat → Int → Int} {Qp : Int → Mem → Prop} {pc q : Nat} {ls st : List PV} {M : Mem} {k4 : Fin 4} {i : Nat} {x : Int} (h1 : lk X.1 pc = some (.lstore_n k4, 1)) (h2 : pc + 1 = q) (h3 : (k4 : Nat) = i) (h4 : okS ls i = true) (h5 : Nat.ble (i + 1 + 1) ls.length = true) (k : Runs X L xc Qp q ((ls.set i (wL x)).set (i + 1) none) st M) : Runs X L xc Qp pc ls (wL x :: st) M := fun J c => c.2.2.2.2.2.2.2.2.2.2.2.2.2.2.2.2.1 pc q ls st M k4 i x h1 h2 h3 h4 h5 (k J c)
theorem R_lstore {X : Sx} {L : Nat} {xc : Nat → Int → Int} {Qp : Int → Mem → Prop} {pc q : Nat} {ls st : List PV} {M : Mem} {i : Nat} {x : Int} (h1 : lk X.1 pc = some (.lstore i, 2)) (h2 : pc + 2 = q) (h3 : okS ls i = true) (h4 : Nat.ble (i + 1 + 1) ls.length = true) (k : Runs X L xc Qp q ((ls.set i (wL x)).set (i + 1) none) st M) : Runs X L xc Qp pc ls (wL x :: st) M := fun J c => c.2.2.2.2.2.2.2.2.2.2.2.2.2.2.2.2.2.1 pc q ls st M i x h1 h2 h3 h4 (k J c)
theorem R_iinc {X : Sx} {L : Nat} {xc : Nat → Int → Int} {Qp : Int → Mem → Prop} {pc q : Nat} {ls st : List PV} {M : Mem} {i : Nat} {n x : Int} (h1 : lk X.1 pc = some (.iinc i n, 3)) (h2 : pc + 3 = q) (h3 : ls[i]? = some (some (.inl x))) (h4 : okS ls i = true) (k : Runs X L xc Qp q (ls.set i (wI (x + n))) st M) : Runs X L xc Qp pc ls st M := fun J c => c.2.2.2.2.2.2.2.2.2.2.2.2.2.2.2.2.2.2.1 pc q ls st M i n x h1 h2 h3 h4 (k J c)
theorem R_iadd {X : Sx} {L : Nat} {xc : Nat → Int → Int} {Qp : Int → Mem → Prop} {pc q : Nat} {ls st : List PV} {M : Mem} {x y : Int} (h1 : lk X.1 pc = some (.iadd, 1)) (h2 : pc + 1 = q) (k : Runs X L xc Qp q ls (wI (x + y) :: st) M) : Runs X L xc Qp pc ls (wI y :: wI x :: st) M := fun J c => c.2.2.2.2.2.2.2.2.2.2.2.2.2.2.2.2.2.2.2.1 pc q ls st M x y h1 h2 (k J c)
theorem R_isub {X : Sx} {L : Nat} {xc : Nat → Int → Int} {Qp : Int → Mem → Prop} {pc q : Nat} {ls st : List PV} {M : Mem} {x y : Int} (h1 : lk X.1 pc = some (.isub, 1)) (h2 : pc + 1 = q) (k : Runs X L xc Qp q ls (wI (x - y) :: st) M) : Runs X L xc Qp pc ls (wI y :: wI x :: st) M := fun J c => c.2.2.2.2.2.2.2.2.2.2.2.2.2.2.2.2.2.2.2.2.1 pc q ls st M x y h1 h2 (k J c)
theorem R_imul {X : Sx} {L : Nat} {xc : Nat → Int → Int} {Qp : Int → Mem → Prop} {pc q : Nat} {ls st : List PV} {M : Mem} {x y : Int} (h1 : lk X.1 pc = some (.imul, 1)) (h2 : pc + 1 = q) (k : Runs X L xc Qp q ls (wI (x * y) :: st) M) : Runs X L xc Qp pc ls (wI y :: wI x :: st) M := fun J c => c.2.2.2.2.2.2.2.2.2.2.2.2.2.2.2.2.2.2.2.2.2.1 pc q ls st M x y h1 h2 (k J c)
theorem R_idiv {X : Sx} {L : Nat} {xc : Nat → Int → Int} {Qp : Int → Mem → Prop} {pc q : Nat} {ls st : List PV} {M : Mem} {x y : Int} (h1 : lk X.1 pc = some (.idiv, 1)) (h2 : pc + 1 = q) (h3 : inr y ∧ y ≠ 0) (k : Runs X L xc Qp q ls (wI (i32div x y) :: st) M) : Runs X L xc Qp pc ls (wI y :: wI x :: st) M := fun J c => c.2.2.2.2.2.2.2.2.2.2.2.2.2.2.2.2.2.2.2.2.2.2.1 pc q ls st M x y h1 h2 h3 (k J c)
theorem R_irem {X : Sx} {L : Nat} {xc : Nat → Int → Int} {Qp : Int → Mem → Prop} {pc q : Nat} {ls st : List PV} {M : Mem} {x y : Int} (h1 : lk X.1 pc = some (.irem, 1)) (h2 : pc + 1 = q) (h3 : inr y ∧ y ≠ 0) (k : Runs X L xc Qp q ls (wI (i32rem x y) :: st) M) : Runs X L xc Qp pc ls (wI y :: wI x :: st) M := fun J c => c.2.2.2.2.2.2.2.2.2.2.2.2.2.2.2.2.2.2.2.2.2.2.2.1 pc q ls st M x y h1 h2 h3 (k J c)
theorem R_ineg {X : Sx} {L : Nat} {xc : Nat → Int → Int} {Qp : Int → Mem → Prop} {pc q : Nat} {ls st : List PV} {M : Mem} {x : Int} (h1 : lk X.1 pc = some (.ineg, 1)) (h2 : pc + 1 = q) (k : Runs X L xc Qp q ls (wI (-x) :: st) M) : Runs X L xc Qp pc ls (wI x :: st) M := fun J c => c.2.2.2.2.2.2.2.2.2.2.2.2.2.2.2.2.2.2.2.2.2.2.2.2.1 pc q ls st M x h1 h2 (k J c)
theorem R_ishl {X : Sx} {L : Nat} {xc : Nat → Int → Int} {Qp : Int → Mem → Prop} {pc q : Nat} {ls st : List PV} {M : Mem} {x y : Int} (h1 : lk X.1 pc = some (.ishl, 1)) (h2 : pc + 1 = q) (k : Runs X L xc Qp q ls (wI (xishl x y) :: st) M) : Runs X L xc Qp pc ls (wI y :: wI x :: st) M := fun J c => c.2.2.2.2.2.2.2.2.2.2.2.2.2.2.2.2.2.2.2.2.2.2.2.2.2.1 pc q ls st M x y h1 h2 (k J c)
theorem R_ishr {X : Sx} {L : Nat} {xc : Nat → Int → Int} {Qp : Int → Mem → Prop} {pc q : Nat} {ls st : List PV} {M : Mem} {x y : Int} (h1 : lk X.1 pc = some (.ishr, 1)) (h2 : pc + 1 = q) (k : Runs X L xc Qp q ls (wI (xishr x y) :: st) M) : Runs X L xc Qp pc ls (wI y :: wI x :: st) M := fun J c => c.2.2.2.2.2.2.2.2.2.2.2.2.2.2.2.2.2.2.2.2.2.2.2.2.2.2.1 pc q ls st M x y h1 h2 (k J c)
theorem R_iand {X : Sx} {L : Nat} {xc : Nat → Int → Int} {Qp : Int → Mem → Prop} {pc q : Nat} {ls st : List PV} {M : Mem} {x y : Int} (h1 : lk X.1 pc = some (.iand, 1)) (h2 : pc + 1 = q) (k : Runs X L xc Qp q ls (wI (xiand x y) :: st) M) : Runs X L xc Qp pc ls (wI y :: wI x :: st) M := fun J c => c.2.2.2.2.2.2.2.2.2.2.2.2.2.2.2.2.2.2.2.2.2.2.2.2.2.2.2.1 pc q ls st M x y h1 h2 (k J c)
theorem R_ior {X : Sx} {L : Nat} {xc : Nat → Int → Int} {Qp : Int → Mem → Prop} {pc q : Nat} {ls st : List PV} {M : Mem} {x y : Int} (h1 : lk X.1 pc = some (.ior, 1)) (h2 : pc + 1 = q) (k : Runs X L xc Qp q ls (wI (xior x y) :: st) M) : Runs X L xc Qp pc ls (wI y :: wI x :: st) M := fun J c => c.2.2.2.2.2.2.2.2.2.2.2.2.2.2.2.2.2.2.2.2.2.2.2.2.2.2.2.2.1 pc q ls st M x y h1 h2 (k J c)
theorem R_ixor {X : Sx} {L : Nat} {xc : Nat → Int → Int} {Qp : Int → Mem → Prop} {pc q : Nat} {ls st : List PV} {M : Mem} {x y : Int} (h1 : lk X.1 pc = some (.ixor, 1)) (h2 : pc + 1 = q) (k : Runs X L xc Qp q ls (wI (xixor x y) :: st) M) : Runs X L xc Qp pc ls (wI y :: wI x :: st) M := fun J c => c.2.2.2.2.2.2.2.2.2.2.2.2.2.2.2.2.2.2.2.2.2.2.2.2.2.2.2.2.2.1 pc q ls st M x y h1 h2 (k J c)
theorem R_iushr {X : Sx} {L : Nat} {xc : Nat → Int → Int} {Qp : Int → Mem → Prop} {pc q : Nat} {ls st : List PV} {M : Mem} {x y : Int} (h1 : lk X.1 pc = some (.iushr, 1)) (h2 : pc + 1 = q) (k : Runs X L xc Qp q ls (wI (xiushr x y) :: st) M) : Runs X L xc Qp pc ls (wI y :: wI x :: st) M := fun J c => c.2.2.2.2.2.2.2.2.2.2.2.2.2.2.2.2.2.2.2.2.2.2.2.2.2.2.2.2.2.2.1 pc q ls st M x y h1 h2 (k J c)
theorem R_land {X : Sx} {L : Nat} {xc : Nat → Int → Int} {Qp : Int → Mem → Prop} {pc q : Nat} {ls st : List PV} {M : Mem} {x y : Int} (h1 : lk X.1 pc = some (.land, 1)) (h2 : pc + 1 = q) (k : Runs X L xc Qp q ls (wL (xland x y) :: st) M) : Runs X L xc Qp pc ls (wL y :: wL x :: st) M := fun J c => c.2.2.2.2.2.2.2.2.2.2.2.2.2.2.2.2.2.2.2.2.2.2.2.2.2.2.2.2.2.2.2.1 pc q ls st M x y h1 h2 (k J c)
theorem R_lor {X : Sx} {L : Nat} {xc : Nat → Int → Int} {Qp : Int → Mem → Prop} {pc q : Nat} {ls st : List PV} {M : Mem} {x y : Int} (h1 : lk X.1 pc = some (.lor, 1)) (h2 : pc + 1 = q) (k : Runs X L xc Qp q ls (wL (xlor x y) :: st) M) : Runs X L xc Qp pc ls (wL y :: wL x :: st) M := fun J c => c.2.2.2.2.2.2.2.2.2.2.2.2.2.2.2.2.2.2.2.2.2.2.2.2.2.2.2.2.2.2.2.2.1 pc q ls st M x y h1 h2 (k J c)
theorem R_lushr {X : Sx} {L : Nat} {xc : Nat → Int → Int} {Qp : Int → Mem → Prop} {pc q : Nat} {ls st : List PV} {M : Mem} {x y : Int} (h1 : lk X.1 pc = some (.lushr, 1)) (h2 : pc + 1 = q) (k : Runs X L xc Qp q ls (wL (xlushr x y) :: st) M) : Runs X L xc Qp pc ls (wI y :: wL x :: st) M := fun J c => c.2.2.2.2.2.2.2.2.2.2.2.2.2.2.2.2.2.2.2.2.2.2.2.2.2.2.2.2.2.2.2.2.2.1 pc q ls st M x y h1 h2 (k J c)
theorem R_lshl {X : Sx} {L : Nat} {xc : Nat → Int → Int} {Qp : Int → Mem → Prop} {pc q : Nat} {ls st : List PV} {M : Mem} {x y : Int} (h1 : lk X.1 pc = some (.lshl, 1)) (h2 : pc + 1 = q) (k : Runs X L xc Qp q ls (wL (xlshl x y) :: st) M) : Runs X L xc Qp pc ls (wI y :: wL x :: st) M := fun J c => c.2.2.2.2.2.2.2.2.2.2.2.2.2.2.2.2.2.2.2.2.2.2.2.2.2.2.2.2.2.2.2.2.2.2.1 pc q ls st M x y h1 h2 (k J c)
theorem R_i2l {X : Sx} {L : Nat} {xc : Nat → Int → Int} {Qp : Int → Mem → Prop} {pc q : Nat} {ls st : List PV} {M : Mem} {x : Int} (h1 : lk X.1 pc = some (.i2l, 1)) (h2 : pc + 1 = q) (h3 : inr x) (k : Runs X L xc Qp q ls (wL x :: st) M) : Runs X L xc Qp pc ls (wI x :: st) M := fun J c => c.2.2.2.2.2.2.2.2.2.2.2.2.2.2.2.2.2.2.2.2.2.2.2.2.2.2.2.2.2.2.2.2.2.2.2.1 pc q ls st M x h1 h2 h3 (k J c)
theorem R_l2i {X : Sx} {L : Nat} {xc : Nat → Int → Int} {Qp : Int → Mem → Prop} {pc q : Nat} {ls st : List PV} {M : Mem} {x : Int} (h1 : lk X.1 pc = some (.l2i, 1)) (h2 : pc + 1 = q) (h3 : inl64 x) (k : Runs X L xc Qp q ls (wI x :: st) M) : Runs X L xc Qp pc ls (wL x :: st) M := fun J c => c.2.2.2.2.2.2.2.2.2.2.2.2.2.2.2.2.2.2.2.2.2.2.2.2.2.2.2.2.2.2.2.2.2.2.2.2.1 pc q ls st M x h1 h2 h3 (k J c)
theorem R_i2c {X : Sx} {L : Nat} {xc : Nat → Int → Int} {Qp : Int → Mem → Prop} {pc q : Nat} {ls st : List PV} {M : Mem} {x : Int} (h1 : lk X.1 pc = some (.i2c, 1)) (h2 : pc + 1 = q) (h3 : 0 ≤ x ∧ x < 65536) (k : Runs X L xc Qp q ls (wI x :: st) M) : Runs X L xc Qp pc ls (wI x :: st) M := fun J c => c.2.2.2.2.2.2.2.2.2.2.2.2.2.2.2.2.2.2.2.2.2.2.2.2.2.2.2.2.2.2.2.2.2.2.2.2.2.1 pc q ls st M x h1 h2 h3 (k J c)
theorem R_lcmp {X : Sx} {L : Nat} {xc : Nat → Int → Int} {Qp : Int → Mem → Prop} {pc q : Nat} {ls st : List PV} {M : Mem} {x y : Int} (h1 : lk X.1 pc = some (.lcmp, 1)) (h2 : pc + 1 = q) (h3 : inl64 x) (h4 : inl64 y) (k : Runs X L xc Qp q ls (wI (if y < x then 1 else if x = y then 0 else -1) :: st) M) : Runs X L xc Qp pc ls (wL y :: wL x :: st) M := fun J c => c.2.2.2.2.2.2.2.2.2.2.2.2.2.2.2.2.2.2.2.2.2.2.2.2.2.2.2.2.2.2.2.2.2.2.2.2.2.2.1 pc q ls st M x y h1 h2 h3 h4 (k J c)
theorem R_dup {X : Sx} {L : Nat} {xc : Nat → Int → Int} {Qp : Int → Mem → Prop} {pc q : Nat} {ls st : List PV} {M : Mem} {x : Int ⊕ (Nat ⊕ Int)} (h1 : lk X.1 pc = some (.dup, 1)) (h2 : pc + 1 = q) (h3 : isLong (some (some x)) = false) (k : Runs X L xc Qp q ls (some x :: some x :: st) M) : Runs X L xc Qp pc ls (some x :: st) M := fun J c => c.2.2.2.2.2.2.2.2.2.2.2.2.2.2.2.2.2.2.2.2.2.2.2.2.2.2.2.2.2.2.2.2.2.2.2.2.2.2.2.1 pc q ls st M x h1 h2 h3 (k J c)
theorem R_dup2 {X : Sx} {L : Nat} {xc : Nat → Int → Int} {Qp : Int → Mem → Prop} {pc q : Nat} {ls st : List PV} {M : Mem} {x y : Int ⊕ (Nat ⊕ Int)} (h1 : lk X.1 pc = some (.dup2, 1)) (h2 : pc + 1 = q) (h3 : isLong (some (some x)) = false) (h4 : isLong (some (some y)) = false) (k : Runs X L xc Qp q ls (some y :: some x :: some y :: some x :: st) M) : Runs X L xc Qp pc ls (some y :: some x :: st) M := fun J c => c.2.2.2.2.2.2.2.2.2.2.2.2.2.2.2.2.2.2.2.2.2.2.2.2.2.2.2.2.2.2.2.2.2.2.2.2.2.2.2.2.1 pc q ls st M x y h1 h2 h3 h4 (k J c)
theorem R_pop {X : Sx} {L : Nat} {xc : Nat → Int → Int} {Qp : Int → Mem → Prop} {pc q : Nat} {ls st : List PV} {M : Mem} {x : Int ⊕ (Nat ⊕ Int)} (h1 : lk X.1 pc = some (.pop, 1)) (h2 : pc + 1 = q) (h3 : isLong (some (some x)) = false) (k : Runs X L xc Qp q ls (st) M) : Runs X L xc Qp pc ls (some x :: st) M := fun J c => c.2.2.2.2.2.2.2.2.2.2.2.2.2.2.2.2.2.2.2.2.2.2.2.2.2.2.2.2.2.2.2.2.2.2.2.2.2.2.2.2.2.1 pc q ls st M x h1 h2 h3 (k J c)
theorem R_icmp_eq {X : Sx} {L : Nat} {xc : Nat → Int → Int} {Qp : Int → Mem → Prop} {pc q : Nat} {ls st : List PV} {M : Mem} {x : Int} {y : Int} {off : Int} {tgt : Nat} (h1 : lk X.1 pc = some (.if_icmp .eq off, 3)) (h2 : pc + 3 = q) (h3 : (pc : Int) + off = (tgt : Int)) (h4 : inr x) (h5 : inr y) (kt : x = y → Runs X L xc Qp tgt ls st M) (kf : ¬ (x = y) → Runs X L xc Qp q ls st M) : Runs X L xc Qp pc ls (wI y :: wI x :: st) M := fun J c => c.2.2.2.2.2.2.2.2.2.2.2.2.2.2.2.2.2.2.2.2.2.2.2.2.2.2.2.2.2.2.2.2.2.2.2.2.2.2.2.2.2.2.1 pc q ls st M x y off tgt h1 h2 h3 h4 h5 ⟨fun z => kt z J c, fun z => kf z J c⟩
theorem R_if_eq {X : Sx} {L : Nat} {xc : Nat → Int → Int} {Qp : Int → Mem → Prop} {pc q : Nat} {ls st : List PV} {M : Mem} {x : Int} {off : Int} {tgt : Nat} (h1 : lk X.1 pc = some (.ifCond .eq off, 3)) (h2 : pc + 3 = q) (h3 : (pc : Int) + off = (tgt : Int)) (h4 : inr x) (kt : x = 0 → Runs X L xc Qp tgt ls st M) (kf : ¬ (x = 0) → Runs X L xc Qp q ls st M) : Runs X L xc Qp pc ls (wI x :: st) M := fun J c => c.2.2.2.2.2.2.2.2.2.2.2.2.2.2.2.2.2.2.2.2.2.2.2.2.2.2.2.2.2.2.2.2.2.2.2.2.2.2.2.2.2.2.2.1 pc q ls st M x off tgt h1 h2 h3 h4 ⟨fun z => kt z J c, fun z => kf z J c⟩
theorem R_icmp_ne {X : Sx} {L : Nat} {xc : Nat → Int → Int} {Qp : Int → Mem → Prop} {pc q : Nat} {ls st : List PV} {M : Mem} {x : Int} {y : Int} {off : Int} {tgt : Nat} (h1 : lk X.1 pc = some (.if_icmp .ne off, 3)) (h2 : pc + 3 = q) (h3 : (pc : Int) + off = (tgt : Int)) (h4 : inr x) (h5 : inr y) (kt : x ≠ y → Runs X L xc Qp tgt ls st M) (kf : ¬ (x ≠ y) → Runs X L xc Qp q ls st M) : Runs X L xc Qp pc ls (wI y :: wI x :: st) M := fun J c => c.2.2.2.2.2.2.2.2.2.2.2.2.2.2.2.2.2.2.2.2.2.2.2.2.2.2.2.2.2.2.2.2.2.2.2.2.2.2.2.2.2.2.2.2.1 pc q ls st M x y off tgt h1 h2 h3 h4 h5 ⟨fun z => kt z J c, fun z => kf z J c⟩
theorem R_if_ne {X : Sx} {L : Nat} {xc : Nat → Int → Int} {Qp : Int → Mem → Prop} {pc q : Nat} {ls st : List PV} {M : Mem} {x : Int} {off : Int} {tgt : Nat} (h1 : lk X.1 pc = some (.ifCond .ne off, 3)) (h2 : pc + 3 = q) (h3 : (pc : Int) + off = (tgt : Int)) (h4 : inr x) (kt : x ≠ 0 → Runs X L xc Qp tgt ls st M) (kf : ¬ (x ≠ 0) → Runs X L xc Qp q ls st M) : Runs X L xc Qp pc ls (wI x :: st) M := fun J c => c.2.2.2.2.2.2.2.2.2.2.2.2.2.2.2.2.2.2.2.2.2.2.2.2.2.2.2.2.2.2.2.2.2.2.2.2.2.2.2.2.2.2.2.2.2.1 pc q ls st M x off tgt h1 h2 h3 h4 ⟨fun z => kt z J c, fun z => kf z J c⟩
theorem R_icmp_lt {X : Sx} {L : Nat} {xc : Nat → Int → Int} {Qp : Int → Mem → Prop} {pc q : Nat} {ls st : List PV} {M : Mem} {x : Int} {y : Int} {off : Int} {tgt : Nat} (h1 : lk X.1 pc = some (.if_icmp .lt off, 3)) (h2 : pc + 3 = q) (h3 : (pc : Int) + off = (tgt : Int)) (h4 : inr x) (h5 : inr y) (kt : x < y → Runs X L xc Qp tgt ls st M) (kf : ¬ (x < y) → Runs X L xc Qp q ls st M) : Runs X L xc Qp pc ls (wI y :: wI x :: st) M := fun J c => c.2.2.2.2.2.2.2.2.2.2.2.2.2.2.2.2.2.2.2.2.2.2.2.2.2.2.2.2.2.2.2.2.2.2.2.2.2.2.2.2.2.2.2.2.2.2.1 pc q ls st M x y off tgt h1 h2 h3 h4 h5 ⟨fun z => kt z J c, fun z => kf z J c⟩
theorem R_if_lt {X : Sx} {L : Nat} {xc : Nat → Int → Int} {Qp : Int → Mem → Prop} {pc q : Nat} {ls st : List PV} {M : Mem} {x : Int} {off : Int} {tgt : Nat} (h1 : lk X.1 pc = some (.ifCond .lt off, 3)) (h2 : pc + 3 = q) (h3 : (pc : Int) + off = (tgt : Int)) (h4 : inr x) (kt : x < 0 → Runs X L xc Qp tgt ls st M) (kf : ¬ (x < 0) → Runs X L xc Qp q ls st M) : Runs X L xc Qp pc ls (wI x :: st) M := fun J c => c.2.2.2.2.2.2.2.2.2.2.2.2.2.2.2.2.2.2.2.2.2.2.2.2.2.2.2.2.2.2.2.2.2.2.2.2.2.2.2.2.2.2.2.2.2.2.2.1 pc q ls st M x off tgt h1 h2 h3 h4 ⟨fun z => kt z J c, fun z => kf z J c⟩
theorem R_icmp_ge {X : Sx} {L : Nat} {xc : Nat → Int → Int} {Qp : Int → Mem → Prop} {pc q : Nat} {ls st : List PV} {M : Mem} {x : Int} {y : Int} {off : Int} {tgt : Nat} (h1 : lk X.1 pc = some (.if_icmp .ge off, 3)) (h2 : pc + 3 = q) (h3 : (pc : Int) + off = (tgt : Int)) (h4 : inr x) (h5 : inr y) (kt : y ≤ x → Runs X L xc Qp tgt ls st M) (kf : ¬ (y ≤ x) → Runs X L xc Qp q ls st M) : Runs X L xc Qp pc ls (wI y :: wI x :: st) M := fun J c => c.2.2.2.2.2.2.2.2.2.2.2.2.2.2.2.2.2.2.2.2.2.2.2.2.2.2.2.2.2.2.2.2.2.2.2.2.2.2.2.2.2.2.2.2.2.2.2.2.1 pc q ls st M x y off tgt h1 h2 h3 h4 h5 ⟨fun z => kt z J c, fun z => kf z J c⟩
theorem R_if_ge {X : Sx} {L : Nat} {xc : Nat → Int → Int} {Qp : Int → Mem → Prop} {pc q : Nat} {ls st : List PV} {M : Mem} {x : Int} {off : Int} {tgt : Nat} (h1 : lk X.1 pc = some (.ifCond .ge off, 3)) (h2 : pc + 3 = q) (h3 : (pc : Int) + off = (tgt : Int)) (h4 : inr x) (kt : 0 ≤ x → Runs X L xc Qp tgt ls st M) (kf : ¬ (0 ≤ x) → Runs X L xc Qp q ls st M) : Runs X L xc Qp pc ls (wI x :: st) M := fun J c => c.2.2.2.2.2.2.2.2.2.2.2.2.2.2.2.2.2.2.2.2.2.2.2.2.2.2.2.2.2.2.2.2.2.2.2.2.2.2.2.2.2.2.2.2.2.2.2.2.2.1 pc q ls st M x off tgt h1 h2 h3 h4 ⟨fun z => kt z J c, fun z => kf z J c⟩
theorem R_icmp_gt {X : Sx} {L : Nat} {xc : Nat → Int → Int} {Qp : Int → Mem → Prop} {pc q : Nat} {ls st : List PV} {M : Mem} {x : Int} {y : Int} {off : Int} {tgt : Nat} (h1 : lk X.1 pc = some (.if_icmp .gt off, 3)) (h2 : pc + 3 = q) (h3 : (pc : Int) + off = (tgt : Int)) (h4 : inr x) (h5 : inr y) (kt : y < x → Runs X L xc Qp tgt ls st M) (kf : ¬ (y < x) → Runs X L xc Qp q ls st M) : Runs X L xc Qp pc ls (wI y :: wI x :: st) M := fun J c => c.2.2.2.2.2.2.2.2.2.2.2.2.2.2.2.2.2.2.2.2.2.2.2.2.2.2.2.2.2.2.2.2.2.2.2.2.2.2.2.2.2.2.2.2.2.2.2.2.2.2.1 pc q ls st M x y off tgt h1 h2 h3 h4 h5 ⟨fun z => kt z J c, fun z => kf z J c⟩
theorem R_if_gt {X : Sx} {L : Nat} {xc : Nat → Int → Int} {Qp : Int → Mem → Prop} {pc q : Nat} {ls st : List PV} {M : Mem} {x : Int} {off : Int} {tgt : Nat} (h1 : lk X.1 pc = some (.ifCond .gt off, 3)) (h2 : pc + 3 = q) (h3 : (pc : Int) + off = (tgt : Int)) (h4 : inr x) (kt : 0 < x → Runs X L xc Qp tgt ls st M) (kf : ¬ (0 < x) → Runs X L xc Qp q ls st M) : Runs X L xc Qp pc ls (wI x :: st) M := fun J c => c.2.2.2.2.2.2.2.2.2.2.2.2.2.2.2.2.2.2.2.2.2.2.2.2.2.2.2.2.2.2.2.2.2.2.2.2.2.2.2.2.2.2.2.2.2.2.2.2.2.2.2.1 pc q ls st M x off tgt h1 h2 h3 h4 ⟨fun z => kt z J c, fun z => kf z J c⟩
theorem R_icmp_le {X : Sx} {L : Nat} {xc : Nat → Int → Int} {Qp : Int → Mem → Prop} {pc q : Nat} {ls st : List PV} {M : Mem} {x : Int} {y : Int} {off : Int} {tgt : Nat} (h1 : lk X.1 pc = some (.if_icmp .le off, 3)) (h2 : pc + 3 = q) (h3 : (pc : Int) + off = (tgt : Int)) (h4 : inr x) (h5 : inr y) (kt : x ≤ y → Runs X L xc Qp tgt ls st M) (kf : ¬ (x ≤ y) → Runs X L xc Qp q ls st M) : Runs X L xc Qp pc ls (wI y :: wI x :: st) M := fun J c => c.2.2.2.2.2.2.2.2.2.2.2.2.2.2.2.2.2.2.2.2.2.2.2.2.2.2.2.2.2.2.2.2.2.2.2.2.2.2.2.2.2.2.2.2.2.2.2.2.2.2.2.2.1 pc q ls st M x y off tgt h1 h2 h3 h4 h5 ⟨fun z => kt z J c, fun z => kf z J c⟩
theorem R_if_le {X : Sx} {L : Nat} {xc : Nat → Int → Int} {Qp : Int → Mem → Prop} {pc q : Nat} {ls st : List PV} {M : Mem} {x : Int} {off : Int} {tgt : Nat} (h1 : lk X.1 pc = some (.ifCond .le off, 3)) (h2 : pc + 3 = q) (h3 : (pc : Int) + off = (tgt : Int)) (h4 : inr x) (kt : x ≤ 0 → Runs X L xc Qp tgt ls st M) (kf : ¬ (x ≤ 0) → Runs X L xc Qp q ls st M) : Runs X L xc Qp pc ls (wI x :: st) M := fun J c => c.2.2.2.2.2.2.2.2.2.2.2.2.2.2.2.2.2.2.2.2.2.2.2.2.2.2.2.2.2.2.2.2.2.2.2.2.2.2.2.2.2.2.2.2.2.2.2.2.2.2.2.2.2.1 pc q ls st M x off tgt h1 h2 h3 h4 ⟨fun z => kt z J c, fun z => kf z J c⟩
theorem R_goto {X : Sx} {L : Nat} {xc : Nat → Int → Int} {Qp : Int → Mem → Prop} {pc q : Nat} {ls st : List PV} {M : Mem} {off : Int} {tgt : Nat} (h1 : lk X.1 pc = some (.goto off, 3)) (h2 : pc + 3 = q) (h3 : (pc : Int) + off = (tgt : Int)) (k : Runs X L xc Qp tgt ls st M) : Runs X L xc Qp pc ls st M := fun J c => c.2.2.2.2.2.2.2.2.2.2.2.2.2.2.2.2.2.2.2.2.2.2.2.2.2.2.2.2.2.2.2.2.2.2.2.2.2.2.2.2.2.2.2.2.2.2.2.2.2.2.2.2.2.2.1 pc q ls st M off tgt h1 h2 h3 (k J c)
theorem R_eqS {X : Sx} {L : Nat} {xc : Nat → Int → Int} {Qp : Int → Mem → Prop} {pc q : Nat} {ls st : List PV} {M : Mem} {x off : Int} {tgt : Nat} (h1 : lk X.1 pc = some (.if_icmp .eq off, 3)) (h2 : pc + 3 = q) (h3 : (pc : Int) + off = (tgt : Int)) (k : Runs X L xc Qp tgt ls st M) : Runs X L xc Qp pc ls (wI x :: wI x :: st) M := fun J c => c.2.2.2.2.2.2.2.2.2.2.2.2.2.2.2.2.2.2.2.2.2.2.2.2.2.2.2.2.2.2.2.2.2.2.2.2.2.2.2.2.2.2.2.2.2.2.2.2.2.2.2.2.2.2.2.1 pc q ls st M x off tgt h1 h2 h3 (k J c)
theorem R_tblIn {X : Sx} {L : Nat} {xc : Nat → Int → Int} {Qp : Int → Mem → Prop} {pc q : Nat} {ls st : List PV} {M : Mem} {x dflt lo hi : Int} {offs : Array Int} {len : Nat} {off : Int} {tgt : Nat} (h1 : lk X.1 pc = some (.tableswitch dflt lo hi offs, len)) (h2 : pc + len = q) (h3 : inr x) (h4 : lo ≤ x ∧ x ≤ hi) (h5 : offs[(x - lo).toNat]? = some off) (h6 : (pc : Int) + off = (tgt : Int)) (k : Runs X L xc Qp tgt ls st M) : Runs X L xc Qp pc ls (wI x :: st) M := fun J c => c.2.2.2.2.2.2.2.2.2.2.2.2.2.2.2.2.2.2.2.2.2.2.2.2.2.2.2.2.2.2.2.2.2.2.2.2.2.2.2.2.2.2.2.2.2.2.2.2.2.2.2.2.2.2.2.2.1 pc q ls st M x dflt lo hi offs len off tgt h1 h2 h3 h4 h5 h6 (k J c)
theorem R_tblOut {X : Sx} {L : Nat} {xc : Nat → Int → Int} {Qp : Int → Mem → Prop} {pc q : Nat} {ls st : List PV} {M : Mem} {x dflt lo hi : Int} {offs : Array Int} {len : Nat} {tgt : Nat} (h1 : lk X.1 pc = some (.tableswitch dflt lo hi offs, len)) (h2 : pc + len = q) (h3 : inr x) (h4 : x < lo ∨ hi < x) (h5 : (pc : Int) + dflt = (tgt : Int)) (k : Runs X L xc Qp tgt ls st M) : Runs X L xc Qp pc ls (wI x :: st) M := fun J c => c.2.2.2.2.2.2.2.2.2.2.2.2.2.2.2.2.2.2.2.2.2.2.2.2.2.2.2.2.2.2.2.2.2.2.2.2.2.2.2.2.2.2.2.2.2.2.2.2.2.2.2.2.2.2.2.2.2.1 pc q ls st M x dflt lo hi offs len tgt h1 h2 h3 h4 h5 (k J c)
theorem R_lookup {X : Sx} {L : Nat} {xc : Nat → Int → Int} {Qp : Int → Mem → Prop} {pc q : Nat} {ls st : List PV} {M : Mem} {x dflt : Int} {ps : Array (Int × Int)} {len : Nat} {off : Int} {tgt : Nat} (h1 : lk X.1 pc = some (.lookupswitch dflt ps, len)) (h2 : pc + len = q) (h3 : inr x) (h4 : (ps.toList.zip (ps.toList.drop 1)).all (fun (a, next) => a.1 < next.1) = true) (h5 : Op.lookupswitch.offset ps.toList dflt x = off) (h6 : (pc : Int) + off = (tgt : Int)) (k : Runs X L xc Qp tgt ls st M) : Runs X L xc Qp pc ls (wI x :: st) M := fun J c => c.2.2.2.2.2.2.2.2.2.2.2.2.2.2.2.2.2.2.2.2.2.2.2.2.2.2.2.2.2.2.2.2.2.2.2.2.2.2.2.2.2.2.2.2.2.2.2.2.2.2.2.2.2.2.2.2.2.2.1 pc q ls st M x dflt ps len off tgt h1 h2 h3 h4 h5 h6 (k J c)
theorem R_getI {X : Sx} {L : Nat} {xc : Nat → Int → Int} {Qp : Int → Mem → Prop} {pc q : Nat} {ls st : List PV} {M : Mem} {i ci k0 r : Nat} {f : Nat → Option Nat} {k1 : Int} (h1 : lk X.1 pc = some (.getfield i, 3)) (h2 : pc + 3 = q) (h3 : lk X.2.1 i = some (ci, k0)) (h4 : LAY L r = .inl (ci, f)) (h5 : f k0 = none) (h6 : 3 ≤ r ∧ r < 191 ∧ (r < 11 ∨ 15 ≤ r)) (h7 : (k0 : Int) = k1) (k : Runs X L xc Qp q ls (wI (M r k1) :: st) M) : Runs X L xc Qp pc ls (wR r :: st) M := fun J c => c.2.2.2.2.2.2.2.2.2.2.2.2.2.2.2.2.2.2.2.2.2.2.2.2.2.2.2.2.2.2.2.2.2.2.2.2.2.2.2.2.2.2.2.2.2.2.2.2.2.2.2.2.2.2.2.2.2.2.2.1 pc q ls st M i ci k0 r f k1 h1 h2 h3 h4 h5 h6 h7 (k J c)
theorem R_getR {X : Sx} {L : Nat} {xc : Nat → Int → Int} {Qp : Int → Mem → Prop} {pc q : Nat} {ls st : List PV} {M : Mem} {i ci k0 r r' : Nat} {f : Nat → Option Nat} (h1 : lk X.1 pc = some (.getfield i, 3)) (h2 : pc + 3 = q) (h3 : lk X.2.1 i = some (ci, k0)) (h4 : LAY L r = .inl (ci, f)) (h5 : f k0 = some r') (h6 : 3 ≤ r ∧ r < 191 ∧ (r < 11 ∨ 15 ≤ r)) (k : Runs X L xc Qp q ls (wR r' :: st) M) : Runs X L xc Qp pc ls (wR r :: st) M := fun J c => c.2.2.2.2.2.2.2.2.2.2.2.2.2.2.2.2.2.2.2.2.2.2.2.2.2.2.2.2.2.2.2.2.2.2.2.2.2.2.2.2.2.2.2.2.2.2.2.2.2.2.2.2.2.2.2.2.2.2.2.2.1 pc q ls st M i ci k0 r r' f h1 h2 h3 h4 h5 h6 (k J c)
theorem R_putI {X : Sx} {L : Nat} {xc : Nat → Int → Int} {Qp : Int → Mem → Prop} {pc q : Nat} {ls st : List PV} {M : Mem} {i ci k0 r : Nat} {f : Nat → Option Nat} {k1 x : Int} {M2 : Mem} (h1 : lk X.1 pc = some (.putfield i, 3)) (h2 : pc + 3 = q) (h3 : lk X.2.1 i = some (ci, k0)) (h4 : LAY L r = .inl (ci, f)) (h5 : f k0 = none) (h6 : 3 ≤ r ∧ r < 191 ∧ (r < 11 ∨ 15 ≤ r)) (h7 : (TC ci k0).2.2.2 = false) (h8 : tyC ci k0 = .int) (h9 : (k0 : Int) = k1) (h10 : upM M r k1 x = M2) (k : Runs X L xc Qp q ls st M2) : Runs X L xc Qp pc ls (wI x :: wR r :: st) M := fun J c => c.2.2.2.2.2.2.2.2.2.2.2.2.2.2.2.2.2.2.2.2.2.2.2.2.2.2.2.2.2.2.2.2.2.2.2.2.2.2.2.2.2.2.2.2.2.2.2.2.2.2.2.2.2.2.2.2.2.2.2.2.2.1 pc q ls st M i ci k0 r f k1 x M2 h1 h2 h3 h4 h5 h6 h7 h8 h9 h10 (k J c)
theorem R_iald {X : Sx} {L : Nat} {xc : Nat → Int → Int} {Qp : Int → Mem → Prop} {pc q : Nat} {ls st : List PV} {M : Mem} {i v : Int} {r n : Nat} (h1 : lk X.1 pc = some (.iaload, 1)) (h2 : pc + 1 = q) (h3 : LAY L r = .inr (.inl (0, n))) (h4 : 3 ≤ r ∧ r < 191 ∧ (r < 11 ∨ 15 ≤ r)) (h5 : 0 ≤ i ∧ i < n) (h6 : M r i = v) (k : Runs X L xc Qp q ls (wI v :: st) M) : Runs X L xc Qp pc ls (wI i :: wR r :: st) M := fun J c => c.2.2.2.2.2.2.2.2.2.2.2.2.2.2.2.2.2.2.2.2.2.2.2.2.2.2.2.2.2.2.2.2.2.2.2.2.2.2.2.2.2.2.2.2.2.2.2.2.2.2.2.2.2.2.2.2.2.2.2.2.2.2.1 pc q ls st M i v r n h1 h2 h3 h4 h5 h6 (k J c)
theorem R_cald {X : Sx} {L : Nat} {xc : Nat → Int → Int} {Qp : Int → Mem → Prop} {pc q : Nat} {ls st : List PV} {M : Mem} {i v : Int} {r n : Nat} (h1 : lk X.1 pc = some (.caload, 1)) (h2 : pc + 1 = q) (h3 : LAY L r = .inr (.inl (1, n))) (h4 : 3 ≤ r ∧ r < 191 ∧ (r < 11 ∨ 15 ≤ r)) (h5 : 0 ≤ i ∧ i < n) (h6 : M r i = v) (k : Runs X L xc Qp q ls (wI v :: st) M) : Runs X L xc Qp pc ls (wI i :: wR r :: st) M := fun J c => c.2.2.2.2.2.2.2.2.2.2.2.2.2.2.2.2.2.2.2.2.2.2.2.2.2.2.2.2.2.2.2.2.2.2.2.2.2.2.2.2.2.2.2.2.2.2.2.2.2.2.2.2.2.2.2.2.2.2.2.2.2.2.2.1 pc q ls st M i v r n h1 h2 h3 h4 h5 h6 (k J c)
theorem R_zald {X : Sx} {L : Nat} {xc : Nat → Int → Int} {Qp : Int → Mem → Prop} {pc q : Nat} {ls st : List PV} {M : Mem} {i v : Int} {r n : Nat} (h1 : lk X.1 pc = some (.baload, 1)) (h2 : pc + 1 = q) (h3 : LAY L r = .inr (.inl (2, n))) (h4 : 3 ≤ r ∧ r < 191 ∧ (r < 11 ∨ 15 ≤ r)) (h5 : 0 ≤ i ∧ i < n) (h6 : M r i = v) (k : Runs X L xc Qp q ls (wI v :: st) M) : Runs X L xc Qp pc ls (wI i :: wR r :: st) M := fun J c => c.2.2.2.2.2.2.2.2.2.2.2.2.2.2.2.2.2.2.2.2.2.2.2.2.2.2.2.2.2.2.2.2.2.2.2.2.2.2.2.2.2.2.2.2.2.2.2.2.2.2.2.2.2.2.2.2.2.2.2.2.2.2.2.2.1 pc q ls st M i v r n h1 h2 h3 h4 h5 h6 (k J c)
theorem R_iast {X : Sx} {L : Nat} {xc : Nat → Int → Int} {Qp : Int → Mem → Prop} {pc q : Nat} {ls st : List PV} {M : Mem} {x i : Int} {r n : Nat} {M2 : Mem} (h1 : lk X.1 pc = some (.iastore, 1)) (h2 : pc + 1 = q) (h3 : LAY L r = .inr (.inl (0, n))) (h4 : 3 ≤ r ∧ r < 191 ∧ (r < 11 ∨ 15 ≤ r)) (h5 : 0 ≤ i ∧ i < n) (h6 : upM M r i x = M2) (k : Runs X L xc Qp q ls st M2) : Runs X L xc Qp pc ls (wI x :: wI i :: wR r :: st) M := fun J c => c.2.2.2.2.2.2.2.2.2.2.2.2.2.2.2.2.2.2.2.2.2.2.2.2.2.2.2.2.2.2.2.2.2.2.2.2.2.2.2.2.2.2.2.2.2.2.2.2.2.2.2.2.2.2.2.2.2.2.2.2.2.2.2.2.2.1 pc q ls st M x i r n M2 h1 h2 h3 h4 h5 h6 (k J c)
theorem R_cast {X : Sx} {L : Nat} {xc : Nat → Int → Int} {Qp : Int → Mem → Prop} {pc q : Nat} {ls st : List PV} {M : Mem} {x i : Int} {r n : Nat} {M2 : Mem} (h1 : lk X.1 pc = some (.castore, 1)) (h2 : pc + 1 = q) (h3 : LAY L r = .inr (.inl (1, n))) (h4 : 3 ≤ r ∧ r < 191 ∧ (r < 11 ∨ 15 ≤ r)) (h5 : 0 ≤ i ∧ i < n) (h6 : 0 ≤ x ∧ x < 65536) (h7 : upM M r i x = M2) (k : Runs X L xc Qp q ls st M2) : Runs X L xc Qp pc ls (wI x :: wI i :: wR r :: st) M := fun J c => c.2.2.2.2.2.2.2.2.2.2.2.2.2.2.2.2.2.2.2.2.2.2.2.2.2.2.2.2.2.2.2.2.2.2.2.2.2.2.2.2.2.2.2.2.2.2.2.2.2.2.2.2.2.2.2.2.2.2.2.2.2.2.2.2.2.2.1 pc q ls st M x i r n M2 h1 h2 h3 h4 h5 h6 h7 (k J c)
theorem R_zast {X : Sx} {L : Nat} {xc : Nat → Int → Int} {Qp : Int → Mem → Prop} {pc q : Nat} {ls st : List PV} {M : Mem} {x i : Int} {r n : Nat} {M2 : Mem} (h1 : lk X.1 pc = some (.bastore, 1)) (h2 : pc + 1 = q) (h3 : LAY L r = .inr (.inl (2, n))) (h4 : 3 ≤ r ∧ r < 191 ∧ (r < 11 ∨ 15 ≤ r)) (h5 : 0 ≤ i ∧ i < n) (h6 : x = 0 ∨ x = 1) (h7 : upM M r i x = M2) (k : Runs X L xc Qp q ls st M2) : Runs X L xc Qp pc ls (wI x :: wI i :: wR r :: st) M := fun J c => c.2.2.2.2.2.2.2.2.2.2.2.2.2.2.2.2.2.2.2.2.2.2.2.2.2.2.2.2.2.2.2.2.2.2.2.2.2.2.2.2.2.2.2.2.2.2.2.2.2.2.2.2.2.2.2.2.2.2.2.2.2.2.2.2.2.2.2.1 pc q ls st M x i r n M2 h1 h2 h3 h4 h5 h6 h7 (k J c)
theorem R_aald {X : Sx} {L : Nat} {xc : Nat → Int → Int} {Qp : Int → Mem → Prop} {pc q : Nat} {ls st : List PV} {M : Mem} {i : Int} {r t n r2 : Nat} {f : Nat → Nat} (h1 : lk X.1 pc = some (.aaload, 1)) (h2 : pc + 1 = q) (h3 : LAY L r = .inr (.inr (t, n, f))) (h4 : 3 ≤ r ∧ r < 191 ∧ (r < 11 ∨ 15 ≤ r)) (h5 : 0 ≤ i ∧ i < n) (h6 : f i.toNat = r2) (k : Runs X L xc Qp q ls (wR r2 :: st) M) : Runs X L xc Qp pc ls (wI i :: wR r :: st) M := fun J c => c.2.2.2.2.2.2.2.2.2.2.2.2.2.2.2.2.2.2.2.2.2.2.2.2.2.2.2.2.2.2.2.2.2.2.2.2.2.2.2.2.2.2.2.2.2.2.2.2.2.2.2.2.2.2.2.2.2.2.2.2.2.2.2.2.2.2.2.2.1 pc q ls st M i r t n r2 f h1 h2 h3 h4 h5 h6 (k J c)
theorem R_ialdX {X : Sx} {L : Nat} {xc : Nat → Int → Int} {Qp : Int → Mem → Prop} {pc q : Nat} {ls st : List PV} {M : Mem} {i : Int} {r : Nat} (h1 : lk X.1 pc = some (.iaload, 1)) (h2 : pc + 1 = q) (h3 : r < 3) (h4 : 0 ≤ i ∧ i < exN L r) (k : Runs X L xc Qp q ls (wI (xc r i) :: st) M) : Runs X L xc Qp pc ls (wI i :: wR r :: st) M := fun J c => c.2.2.2.2.2.2.2.2.2.2.2.2.2.2.2.2.2.2.2.2.2.2.2.2.2.2.2.2.2.2.2.2.2.2.2.2.2.2.2.2.2.2.2.2.2.2.2.2.2.2.2.2.2.2.2.2.2.2.2.2.2.2.2.2.2.2.2.2.2.1 pc q ls st M i r h1 h2 h3 h4 (k J c)
theorem R_alenX {X : Sx} {L : Nat} {xc : Nat → Int → Int} {Qp : Int → Mem → Prop} {pc q : Nat} {ls st : List PV} {M : Mem} {r : Nat} (h1 : lk X.1 pc = some (.arraylength, 1)) (h2 : pc + 1 = q) (h3 : r < 3) (k : Runs X L xc Qp q ls (wI (exN L r) :: st) M) : Runs X L xc Qp pc ls (wR r :: st) M := fun J c => c.2.2.2.2.2.2.2.2.2.2.2.2.2.2.2.2.2.2.2.2.2.2.2.2.2.2.2.2.2.2.2.2.2.2.2.2.2.2.2.2.2.2.2.2.2.2.2.2.2.2.2.2.2.2.2.2.2.2.2.2.2.2.2.2.2.2.2.2.2.2.1 pc q ls st M r h1 h2 h3 (k J c)
theorem R_gets {X : Sx} {L : Nat} {xc : Nat → Int → Int} {Qp : Int → Mem → Prop} {pc q : Nat} {ls st : List PV} {M : Mem} {i r : Nat} (h1 : lk X.1 pc = some (.getstatic i, 3)) (h2 : pc + 3 = q) (h3 : lk X.2.2.2.2.1 i = some r) (k : Runs X L xc Qp q ls (wR r :: st) M) : Runs X L xc Qp pc ls st M := fun J c => c.2.2.2.2.2.2.2.2.2.2.2.2.2.2.2.2.2.2.2.2.2.2.2.2.2.2.2.2.2.2.2.2.2.2.2.2.2.2.2.2.2.2.2.2.2.2.2.2.2.2.2.2.2.2.2.2.2.2.2.2.2.2.2.2.2.2.2.2.2.2.2.1 pc q ls st M i r h1 h2 h3 (k J c)
theorem R_copy {X : Sx} {L : Nat} {xc : Nat → Int → Int} {Qp : Int → Mem → Prop} {pc q : Nat} {ls st : List PV} {M : Mem} {i r0 r1 n0 n1 : Nat} {sp dp n : Int} {M2 : Mem} (h1 : lk X.1 pc = some (.invokestatic i, 3)) (h2 : pc + 3 = q) (h3 : lk X.2.2.2.2.2.1 i = some 0) (h4 : LAY L r0 = .inr (.inl (0, n0))) (h5 : LAY L r1 = .inr (.inl (0, n1))) (h6 : (3 ≤ r0 ∧ r0 < 191 ∧ (r0 < 11 ∨ 15 ≤ r0)) ∧ 3 ≤ r1 ∧ r1 < 191 ∧ (r1 < 11 ∨ 15 ≤ r1)) (h7 : 0 ≤ sp ∧ 0 ≤ dp ∧ 0 ≤ n ∧ sp + n ≤ n0 ∧ dp + n ≤ n1) (h8 : cpM M r0 sp r1 dp n = M2) (h9 : Nat.ble (stW st) 8 = true) (k : Runs X L xc Qp q ls st M2) : Runs X L xc Qp pc ls (wI n :: wI dp :: wR r1 :: wI sp :: wR r0 :: st) M := fun J c => c.2.2.2.2.2.2.2.2.2.2.2.2.2.2.2.2.2.2.2.2.2.2.2.2.2.2.2.2.2.2.2.2.2.2.2.2.2.2.2.2.2.2.2.2.2.2.2.2.2.2.2.2.2.2.2.2.2.2.2.2.2.2.2.2.2.2.2.2.2.2.2.2.1 pc q ls st M i r0 r1 n0 n1 sp dp n M2 h1 h2 h3 h4 h5 h6 h7 h8 h9 (k J c)
theorem R_mmax {X : Sx} {L : Nat} {xc : Nat → Int → Int} {Qp : Int → Mem → Prop} {pc q : Nat} {ls st : List PV} {M : Mem} {i : Nat} {x y : Int} (h1 : lk X.1 pc = some (.invokestatic i, 3)) (h2 : pc + 3 = q) (h3 : lk X.2.2.2.2.2.1 i = some 1) (h4 : inr x) (h5 : inr y) (h6 : Nat.ble (stW st) 8 = true) (k : Runs X L xc Qp q ls (wI (if x < y then y else x) :: st) M) : Runs X L xc Qp pc ls (wI y :: wI x :: st) M := fun J c => c.2.2.2.2.2.2.2.2.2.2.2.2.2.2.2.2.2.2.2.2.2.2.2.2.2.2.2.2.2.2.2.2.2.2.2.2.2.2.2.2.2.2.2.2.2.2.2.2.2.2.2.2.2.2.2.2.2.2.2.2.2.2.2.2.2.2.2.2.2.2.2.2.2.1 pc q ls st M i x y h1 h2 h3 h4 h5 h6 (k J c)
theorem R_mmin {X : Sx} {L : Nat} {xc : Nat → Int → Int} {Qp : Int → Mem → Prop} {pc q : Nat} {ls st : List PV} {M : Mem} {i : Nat} {x y : Int} (h1 : lk X.1 pc = some (.invokestatic i, 3)) (h2 : pc + 3 = q) (h3 : lk X.2.2.2.2.2.1 i = some 2) (h4 : inr x) (h5 : inr y) (h6 : Nat.ble (stW st) 8 = true) (k : Runs X L xc Qp q ls (wI (if y < x then y else x) :: st) M) : Runs X L xc Qp pc ls (wI y :: wI x :: st) M := fun J c => c.2.2.2.2.2.2.2.2.2.2.2.2.2.2.2.2.2.2.2.2.2.2.2.2.2.2.2.2.2.2.2.2.2.2.2.2.2.2.2.2.2.2.2.2.2.2.2.2.2.2.2.2.2.2.2.2.2.2.2.2.2.2.2.2.2.2.2.2.2.2.2.2.2.2.1 pc q ls st M i x y h1 h2 h3 h4 h5 h6 (k J c)
theorem R_mabs {X : Sx} {L : Nat} {xc : Nat → Int → Int} {Qp : Int → Mem → Prop} {pc q : Nat} {ls st : List PV} {M : Mem} {i : Nat} {x : Int} (h1 : lk X.1 pc = some (.invokestatic i, 3)) (h2 : pc + 3 = q) (h3 : lk X.2.2.2.2.2.1 i = some 3) (h4 : inr x) (h5 : Nat.ble (stW st) 8 = true) (k : Runs X L xc Qp q ls (wI (if 0 ≤ x then x else 0 - x) :: st) M) : Runs X L xc Qp pc ls (wI x :: st) M := fun J c => c.2.2.2.2.2.2.2.2.2.2.2.2.2.2.2.2.2.2.2.2.2.2.2.2.2.2.2.2.2.2.2.2.2.2.2.2.2.2.2.2.2.2.2.2.2.2.2.2.2.2.2.2.2.2.2.2.2.2.2.2.2.2.2.2.2.2.2.2.2.2.2.2.2.2.2.1 pc q ls st M i x h1 h2 h3 h4 h5 (k J c)
theorem R_callVI {X : Sx} {L : Nat} {xc : Nat → Int → Int} {Qp : Int → Mem → Prop} {pc q : Nat} {ls st : List PV} {M : Mem} {i ci : Nat} {C : Ct} {as : List PV} {r : Nat} {f : Nat → Option Nat} (h1 : lk X.1 pc = some (.invokevirtual i, 3)) (h2 : pc + 3 = q) (h3 : lk X.2.2.2.2.2.2.1 i = some (ci, C)) (h4 : (wR r :: as).length = C.1) (h5 : C.2.1 = true) (h6 : C.2.2.1 (wR r :: as) M) (h7 : Nat.ble (stW st) 8 = true) (h8 : LAY L r = .inl (ci, f)) (h9 : 3 ≤ r ∧ r < 191 ∧ (r < 11 ∨ 15 ≤ r)) (k : ∀ (x : Int) (M' : Mem), C.2.2.2 (wR r :: as) M x M' → Runs X L xc Qp q ls (wI x :: st) M') : Runs X L xc Qp pc ls (as.reverse ++ wR r :: st) M := fun J c => c.2.2.2.2.2.2.2.2.2.2.2.2.2.2.2.2.2.2.2.2.2.2.2.2.2.2.2.2.2.2.2.2.2.2.2.2.2.2.2.2.2.2.2.2.2.2.2.2.2.2.2.2.2.2.2.2.2.2.2.2.2.2.2.2.2.2.2.2.2.2.2.2.2.2.2.2.1 pc q ls st M i ci C as r f h1 h2 h3 h4 h5 h6 h7 h8 h9 (fun x M' h => k x M' h J c)
theorem R_callVN {X : Sx} {L : Nat} {xc : Nat → Int → Int} {Qp : Int → Mem → Prop} {pc q : Nat} {ls st : List PV} {M : Mem} {i ci : Nat} {C : Ct} {as : List PV} {r : Nat} {f : Nat → Option Nat} (h1 : lk X.1 pc = some (.invokevirtual i, 3)) (h2 : pc + 3 = q) (h3 : lk X.2.2.2.2.2.2.1 i = some (ci, C)) (h4 : (wR r :: as).length = C.1) (h5 : C.2.1 = false) (h6 : C.2.2.1 (wR r :: as) M) (h7 : Nat.ble (stW st) 8 = true) (h8 : LAY L r = .inl (ci, f)) (h9 : 3 ≤ r ∧ r < 191 ∧ (r < 11 ∨ 15 ≤ r)) (k : ∀ (M' : Mem), C.2.2.2 (wR r :: as) M 0 M' → Runs X L xc Qp q ls st M') : Runs X L xc Qp pc ls (as.reverse ++ wR r :: st) M := fun J c => c.2.2.2.2.2.2.2.2.2.2.2.2.2.2.2.2.2.2.2.2.2.2.2.2.2.2.2.2.2.2.2.2.2.2.2.2.2.2.2.2.2.2.2.2.2.2.2.2.2.2.2.2.2.2.2.2.2.2.2.2.2.2.2.2.2.2.2.2.2.2.2.2.2.2.2.2.2.1 pc q ls st M i ci C as r f h1 h2 h3 h4 h5 h6 h7 h8 h9 (fun M' h => k M' h J c)
theorem R_callSI {X : Sx} {L : Nat} {xc : Nat → Int → Int} {Qp : Int → Mem → Prop} {pc q : Nat} {ls st : List PV} {M : Mem} {i ci : Nat} {C : Ct} {as : List PV} (h1 : lk X.1 pc = some (.invokestatic i, 3)) (h2 : pc + 3 = q) (h3 : lk X.2.2.2.2.2.2.1 i = some (ci, C)) (h4 : (as).length = C.1) (h5 : C.2.1 = true) (h6 : C.2.2.1 (as) M) (h7 : Nat.ble (stW st) 8 = true) (h8 : ci = 9) (k : ∀ (x : Int) (M' : Mem), C.2.2.2 (as) M x M' → Runs X L xc Qp q ls (wI x :: st) M') : Runs X L xc Qp pc ls (as.reverse ++ st) M := fun J c => c.2.2.2.2.2.2.2.2.2.2.2.2.2.2.2.2.2.2.2.2.2.2.2.2.2.2.2.2.2.2.2.2.2.2.2.2.2.2.2.2.2.2.2.2.2.2.2.2.2.2.2.2.2.2.2.2.2.2.2.2.2.2.2.2.2.2.2.2.2.2.2.2.2.2.2.2.2.2.1 pc q ls st M i ci C as h1 h2 h3 h4 h5 h6 h7 h8 (fun x M' h => k x M' h J c)
theorem R_callSN {X : Sx} {L : Nat} {xc : Nat → Int → Int} {Qp : Int → Mem → Prop} {pc q : Nat} {ls st : List PV} {M : Mem} {i ci : Nat} {C : Ct} {as : List PV} (h1 : lk X.1 pc = some (.invokestatic i, 3)) (h2 : pc + 3 = q) (h3 : lk X.2.2.2.2.2.2.1 i = some (ci, C)) (h4 : (as).length = C.1) (h5 : C.2.1 = false) (h6 : C.2.2.1 (as) M) (h7 : Nat.ble (stW st) 8 = true) (h8 : ci = 9) (k : ∀ (M' : Mem), C.2.2.2 (as) M 0 M' → Runs X L xc Qp q ls st M') : Runs X L xc Qp pc ls (as.reverse ++ st) M := fun J c => c.2.2.2.2.2.2.2.2.2.2.2.2.2.2.2.2.2.2.2.2.2.2.2.2.2.2.2.2.2.2.2.2.2.2.2.2.2.2.2.2.2.2.2.2.2.2.2.2.2.2.2.2.2.2.2.2.2.2.2.2.2.2.2.2.2.2.2.2.2.2.2.2.2.2.2.2.2.2.2.1 pc q ls st M i ci C as h1 h2 h3 h4 h5 h6 h7 h8 (fun M' h => k M' h J c)
theorem R_gho {X : Sx} {L : Nat} {xc : Nat → Int → Int} {Qp : Int → Mem → Prop} {pc q : Nat} {ls st : List PV} {M : Mem} {M2 : Mem} (h1 : pc = q) (h2 : (∀ r, 3 ≤ r → r < 191 → M2 r = M r)) (k : Runs X L xc Qp q ls st M2) : Runs X L xc Qp pc ls st M := fun J c => c.2.2.2.2.2.2.2.2.2.2.2.2.2.2.2.2.2.2.2.2.2.2.2.2.2.2.2.2.2.2.2.2.2.2.2.2.2.2.2.2.2.2.2.2.2.2.2.2.2.2.2.2.2.2.2.2.2.2.2.2.2.2.2.2.2.2.2.2.2.2.2.2.2.2.2.2.2.2.2.2.1 pc q ls st M M2 h1 h2 (k J c)
theorem R_ret {X : Sx} {L : Nat} {xc : Nat → Int → Int} {Qp : Int → Mem → Prop} {pc : Nat} {ls : List PV} {M : Mem} {x : Int} (h1 : lk X.1 pc = some (.ireturn, 1)) (h2 : X.2.2.2.2.2.2.2 = 1 ∨ (X.2.2.2.2.2.2.2 = 2 ∧ (x = 0 ∨ x = 1))) (k : Qp x M) : Runs X L xc Qp pc ls [wI x] M := fun J c => c.2.2.2.2.2.2.2.2.2.2.2.2.2.2.2.2.2.2.2.2.2.2.2.2.2.2.2.2.2.2.2.2.2.2.2.2.2.2.2.2.2.2.2.2.2.2.2.2.2.2.2.2.2.2.2.2.2.2.2.2.2.2.2.2.2.2.2.2.2.2.2.2.2.2.2.2.2.2.2.2.2.1 pc ls M x h1 h2 k
theorem R_vret {X : Sx} {L : Nat} {xc : Nat → Int → Int} {Qp : Int → Mem → Prop} {pc : Nat} {ls : List PV} {M : Mem} (h1 : lk X.1 pc = some (.return_, 1)) (h2 : X.2.2.2.2.2.2.2 = 0) (k : Qp 0 M) : Runs X L xc Qp pc ls [] M := fun J c => c.2.2.2.2.2.2.2.2.2.2.2.2.2.2.2.2.2.2.2.2.2.2.2.2.2.2.2.2.2.2.2.2.2.2.2.2.2.2.2.2.2.2.2.2.2.2.2.2.2.2.2.2.2.2.2.2.2.2.2.2.2.2.2.2.2.2.2.2.2.2.2.2.2.2.2.2.2.2.2.2.2.2 pc ls M h1 h2 k
theorem R_cV0I {X : Sx} {L : Nat} {xc : Nat → Int → Int} {Qp : Int → Mem → Prop} {pc q : Nat} {ls st : List PV} {M : Mem} {i ci : Nat} {C : Ct} {r : Nat} {f : Nat → Option Nat} (h1 : lk X.1 pc = some (.invokevirtual i, 3)) (h2 : pc + 3 = q) (h3 : lk X.2.2.2.2.2.2.1 i = some (ci, C)) (h4 : (wR r :: []).length = C.1) (h5 : C.2.1 = true) (h6 : C.2.2.1 (wR r :: []) M) (h7 : Nat.ble (stW st) 8 = true) (h8 : LAY L r = .inl (ci, f)) (h9 : 3 ≤ r ∧ r < 191 ∧ (r < 11 ∨ 15 ≤ r)) (k : ∀ (x : Int) (M' : Mem), C.2.2.2 (wR r :: []) M x M' → Runs X L xc Qp q ls (wI x :: st) M') : Runs X L xc Qp pc ls (wR r :: st) M := R_callVI (as := []) h1 h2 h3 h4 h5 h6 h7 h8 h9 k
theorem R_cV1I {X : Sx} {L : Nat} {xc : Nat → Int → Int} {Qp : Int → Mem → Prop} {pc q : Nat} {ls st : List PV} {M : Mem} {i ci : Nat} {C : Ct} {a1 : PV} {r : Nat} {f : Nat → Option Nat} (h1 : lk X.1 pc = some (.invokevirtual i, 3)) (h2 : pc + 3 = q) (h3 : lk X.2.2.2.2.2.2.1 i = some (ci, C)) (h4 : (wR r :: [a1]).length = C.1) (h5 : C.2.1 = true) (h6 : C.2.2.1 (wR r :: [a1]) M) (h7 : Nat.ble (stW st) 8 = true) (h8 : LAY L r = .inl (ci, f)) (h9 : 3 ≤ r ∧ r < 191 ∧ (r < 11 ∨ 15 ≤ r)) (k : ∀ (x : Int) (M' : Mem), C.2.2.2 (wR r :: [a1]) M x M' → Runs X L xc Qp q ls (wI x :: st) M') : Runs X L xc Qp pc ls (a1 :: wR r :: st) M := R_callVI (as := [a1]) h1 h2 h3 h4 h5 h6 h7 h8 h9 k
theorem R_cV2I {X : Sx} {L : Nat} {xc : Nat → Int → Int} {Qp : Int → Mem → Prop} {pc q : Nat} {ls st : List PV} {M : Mem} {i ci : Nat} {C : Ct} {a1 a2 : PV} {r : Nat} {f : Nat → Option Nat} (h1 : lk X.1 pc = some (.invokevirtual i, 3)) (h2 : pc + 3 = q) (h3 : lk X.2.2.2.2.2.2.1 i = some (ci, C)) (h4 : (wR r :: [a1, a2]).length = C.1) (h5 : C.2.1 = true) (h6 : C.2.2.1 (wR r :: [a1, a2]) M) (h7 : Nat.ble (stW st) 8 = true) (h8 : LAY L r = .inl (ci, f)) (h9 : 3 ≤ r ∧ r < 191 ∧ (r < 11 ∨ 15 ≤ r)) (k : ∀ (x : Int) (M' : Mem), C.2.2.2 (wR r :: [a1, a2]) M x M' → Runs X L xc Qp q ls (wI x :: st) M') : Runs X L xc Qp pc ls (a2 :: a1 :: wR r :: st) M := R_callVI (as := [a1, a2]) h1 h2 h3 h4 h5 h6 h7 h8 h9 k
theorem R_cV3I {X : Sx} {L : Nat} {xc : Nat → Int → Int} {Qp : Int → Mem → Prop} {pc q : Nat} {ls st : List PV} {M : Mem} {i ci : Nat} {C : Ct} {a1 a2 a3 : PV} {r : Nat} {f : Nat → Option Nat} (h1 : lk X.1 pc = some (.invokevirtual i, 3)) (h2 : pc + 3 = q) (h3 : lk X.2.2.2.2.2.2.1 i = some (ci, C)) (h4 : (wR r :: [a1, a2, a3]).length = C.1) (h5 : C.2.1 = true) (h6 : C.2.2.1 (wR r :: [a1, a2, a3]) M) (h7 : Nat.ble (stW st) 8 = true) (h8 : LAY L r = .inl (ci, f)) (h9 : 3 ≤ r ∧ r < 191 ∧ (r < 11 ∨ 15 ≤ r)) (k : ∀ (x : Int) (M' : Mem), C.2.2.2 (wR r :: [a1, a2, a3]) M x M' → Runs X L xc Qp q ls (wI x :: st) M') : Runs X L xc Qp pc ls (a3 :: a2 :: a1 :: wR r :: st) M := R_callVI (as := [a1, a2, a3]) h1 h2 h3 h4 h5 h6 h7 h8 h9 k
theorem R_cV4I {X : Sx} {L : Nat} {xc : Nat → Int → Int} {Qp : Int → Mem → Prop} {pc q : Nat} {ls st : List PV} {M : Mem} {i ci : Nat} {C : Ct} {a1 a2 a3 a4 : PV} {r : Nat} {f : Nat → Option Nat} (h1 : lk X.1 pc = some (.invokevirtual i, 3)) (h2 : pc + 3 = q) (h3 : lk X.2.2.2.2.2.2.1 i = some (ci, C)) (h4 : (wR r :: [a1, a2, a3, a4]).length = C.1) (h5 : C.2.1 = true) (h6 : C.2.2.1 (wR r :: [a1, a2, a3, a4]) M) (h7 : Nat.ble (stW st) 8 = true) (h8 : LAY L r = .inl (ci, f)) (h9 : 3 ≤ r ∧ r < 191 ∧ (r < 11 ∨ 15 ≤ r)) (k : ∀ (x : Int) (M' : Mem), C.2.2.2 (wR r :: [a1, a2, a3, a4]) M x M' → Runs X L xc Qp q ls (wI x :: st) M') : Runs X L xc Qp pc ls (a4 :: a3 :: a2 :: a1 :: wR r :: st) M := R_callVI (as := [a1, a2, a3, a4]) h1 h2 h3 h4 h5 h6 h7 h8 h9 k
theorem R_cV0N {X : Sx} {L : Nat} {xc : Nat → Int → Int} {Qp : Int → Mem → Prop} {pc q : Nat} {ls st : List PV} {M : Mem} {i ci : Nat} {C : Ct} {r : Nat} {f : Nat → Option Nat} (h1 : lk X.1 pc = some (.invokevirtual i, 3)) (h2 : pc + 3 = q) (h3 : lk X.2.2.2.2.2.2.1 i = some (ci, C)) (h4 : (wR r :: []).length = C.1) (h5 : C.2.1 = false) (h6 : C.2.2.1 (wR r :: []) M) (h7 : Nat.ble (stW st) 8 = true) (h8 : LAY L r = .inl (ci, f)) (h9 : 3 ≤ r ∧ r < 191 ∧ (r < 11 ∨ 15 ≤ r)) (k : ∀ (M' : Mem), C.2.2.2 (wR r :: []) M 0 M' → Runs X L xc Qp q ls st M') : Runs X L xc Qp pc ls (wR r :: st) M := R_callVN (as := []) h1 h2 h3 h4 h5 h6 h7 h8 h9 k
theorem R_cV1N {X : Sx} {L : Nat} {xc : Nat → Int → Int} {Qp : Int → Mem → Prop} {pc q : Nat} {ls st : List PV} {M : Mem} {i ci : Nat} {C : Ct} {a1 : PV} {r : Nat} {f : Nat → Option Nat} (h1 : lk X.1 pc = some (.invokevirtual i, 3)) (h2 : pc + 3 = q) (h3 : lk X.2.2.2.2.2.2.1 i = some (ci, C)) (h4 : (wR r :: [a1]).length = C.1) (h5 : C.2.1 = false) (h6 : C.2.2.1 (wR r :: [a1]) M) (h7 : Nat.ble (stW st) 8 = true) (h8 : LAY L r = .inl (ci, f)) (h9 : 3 ≤ r ∧ r < 191 ∧ (r < 11 ∨ 15 ≤ r)) (k : ∀ (M' : Mem), C.2.2.2 (wR r :: [a1]) M 0 M' → Runs X L xc Qp q ls st M') : Runs X L xc Qp pc ls (a1 :: wR r :: st) M := R_callVN (as := [a1]) h1 h2 h3 h4 h5 h6 h7 h8 h9 k
theorem R_cV2N {X : Sx} {L : Nat} {xc : Nat → Int → Int} {Qp : Int → Mem → Prop} {pc q : Nat} {ls st : List PV} {M : Mem} {i ci : Nat} {C : Ct} {a1 a2 : PV} {r : Nat} {f : Nat → Option Nat} (h1 : lk X.1 pc = some (.invokevirtual i, 3)) (h2 : pc + 3 = q) (h3 : lk X.2.2.2.2.2.2.1 i = some (ci, C)) (h4 : (wR r :: [a1, a2]).length = C.1) (h5 : C.2.1 = false) (h6 : C.2.2.1 (wR r :: [a1, a2]) M) (h7 : Nat.ble (stW st) 8 = true) (h8 : LAY L r = .inl (ci, f)) (h9 : 3 ≤ r ∧ r < 191 ∧ (r < 11 ∨ 15 ≤ r)) (k : ∀ (M' : Mem), C.2.2.2 (wR r :: [a1, a2]) M 0 M' → Runs X L xc Qp q ls st M') : Runs X L xc Qp pc ls (a2 :: a1 :: wR r :: st) M := R_callVN (as := [a1, a2]) h1 h2 h3 h4 h5 h6 h7 h8 h9 k
theorem R_cV3N {X : Sx} {L : Nat} {xc : Nat → Int → Int} {Qp : Int → Mem → Prop} {pc q : Nat} {ls st : List PV} {M : Mem} {i ci : Nat} {C : Ct} {a1 a2 a3 : PV} {r : Nat} {f : Nat → Option Nat} (h1 : lk X.1 pc = some (.invokevirtual i, 3)) (h2 : pc + 3 = q) (h3 : lk X.2.2.2.2.2.2.1 i = some (ci, C)) (h4 : (wR r :: [a1, a2, a3]).length = C.1) (h5 : C.2.1 = false) (h6 : C.2.2.1 (wR r :: [a1, a2, a3]) M) (h7 : Nat.ble (stW st) 8 = true) (h8 : LAY L r = .inl (ci, f)) (h9 : 3 ≤ r ∧ r < 191 ∧ (r < 11 ∨ 15 ≤ r)) (k : ∀ (M' : Mem), C.2.2.2 (wR r :: [a1, a2, a3]) M 0 M' → Runs X L xc Qp q ls st M') : Runs X L xc Qp pc ls (a3 :: a2 :: a1 :: wR r :: st) M := R_callVN (as := [a1, a2, a3]) h1 h2 h3 h4 h5 h6 h7 h8 h9 k
theorem R_cV4N {X : Sx} {L : Nat} {xc : Nat → Int → Int} {Qp : Int → Mem → Prop} {pc q : Nat} {ls st : List PV} {M : Mem} {i ci : Nat} {C : Ct} {a1 a2 a3 a4 : PV} {r : Nat} {f : Nat → Option Nat} (h1 : lk X.1 pc = some (.invokevirtual i, 3)) (h2 : pc + 3 = q) (h3 : lk X.2.2.2.2.2.2.1 i = some (ci, C)) (h4 : (wR r :: [a1, a2, a3, a4]).length = C.1) (h5 : C.2.1 = false) (h6 : C.2.2.1 (wR r :: [a1, a2, a3, a4]) M) (h7 : Nat.ble (stW st) 8 = true) (h8 : LAY L r = .inl (ci, f)) (h9 : 3 ≤ r ∧ r < 191 ∧ (r < 11 ∨ 15 ≤ r)) (k : ∀ (M' : Mem), C.2.2.2 (wR r :: [a1, a2, a3, a4]) M 0 M' → Runs X L xc Qp q ls st M') : Runs X L xc Qp pc ls (a4 :: a3 :: a2 :: a1 :: wR r :: st) M := R_callVN (as := [a1, a2, a3, a4]) h1 h2 h3 h4 h5 h6 h7 h8 h9 k
theorem R_cS1I {X : Sx} {L : Nat} {xc : Nat → Int → Int} {Qp : Int → Mem → Prop} {pc q : Nat} {ls st : List PV} {M : Mem} {i ci : Nat} {C : Ct} {a1 : PV} (h1 : lk X.1 pc = some (.invokestatic i, 3)) (h2 : pc + 3 = q) (h3 : lk X.2.2.2.2.2.2.1 i = some (ci, C)) (h4 : ([a1]).length = C.1) (h5 : C.2.1 = true) (h6 : C.2.2.1 ([a1]) M) (h7 : Nat.ble (stW st) 8 = true) (h8 : ci = 9) (k : ∀ (x : Int) (M' : Mem), C.2.2.2 ([a1]) M x M' → Runs X L xc Qp q ls (wI x :: st) M') : Runs X L xc Qp pc ls (a1 :: st) M := R_callSI (as := [a1]) h1 h2 h3 h4 h5 h6 h7 h8 k
theorem R_cS2I {X : Sx} {L : Nat} {xc : Nat → Int → Int} {Qp : Int → Mem → Prop} {pc q : Nat} {ls st : List PV} {M : Mem} {i ci : Nat} {C : Ct} {a1 a2 : PV} (h1 : lk X.1 pc = some (.invokestatic i, 3)) (h2 : pc + 3 = q) (h3 : lk X.2.2.2.2.2.2.1 i = some (ci, C)) (h4 : ([a1, a2]).length = C.1) (h5 : C.2.1 = true) (h6 : C.2.2.1 ([a1, a2]) M) (h7 : Nat.ble (stW st) 8 = true) (h8 : ci = 9) (k : ∀ (x : Int) (M' : Mem), C.2.2.2 ([a1, a2]) M x M' → Runs X L xc Qp q ls (wI x :: st) M') : Runs X L xc Qp pc ls (a2 :: a1 :: st) M := R_callSI (as := [a1, a2]) h1 h2 h3 h4 h5 h6 h7 h8 k
theorem R_cS3I {X : Sx} {L : Nat} {xc : Nat → Int → Int} {Qp : Int → Mem → Prop} {pc q : Nat} {ls st : List PV} {M : Mem} {i ci : Nat} {C : Ct} {a1 a2 a3 : PV} (h1 : lk X.1 pc = some (.invokestatic i, 3)) (h2 : pc + 3 = q) (h3 : lk X.2.2.2.2.2.2.1 i = some (ci, C)) (h4 : ([a1, a2, a3]).length = C.1) (h5 : C.2.1 = true) (h6 : C.2.2.1 ([a1, a2, a3]) M) (h7 : Nat.ble (stW st) 8 = true) (h8 : ci = 9) (k : ∀ (x : Int) (M' : Mem), C.2.2.2 ([a1, a2, a3]) M x M' → Runs X L xc Qp q ls (wI x :: st) M') : Runs X L xc Qp pc ls (a3 :: a2 :: a1 :: st) M := R_callSI (as := [a1, a2, a3]) h1 h2 h3 h4 h5 h6 h7 h8 k
theorem R_cS4I {X : Sx} {L : Nat} {xc : Nat → Int → Int} {Qp : Int → Mem → Prop} {pc q : Nat} {ls st : List PV} {M : Mem} {i ci : Nat} {C : Ct} {a1 a2 a3 a4 : PV} (h1 : lk X.1 pc = some (.invokestatic i, 3)) (h2 : pc + 3 = q) (h3 : lk X.2.2.2.2.2.2.1 i = some (ci, C)) (h4 : ([a1, a2, a3, a4]).length = C.1) (h5 : C.2.1 = true) (h6 : C.2.2.1 ([a1, a2, a3, a4]) M) (h7 : Nat.ble (stW st) 8 = true) (h8 : ci = 9) (k : ∀ (x : Int) (M' : Mem), C.2.2.2 ([a1, a2, a3, a4]) M x M' → Runs X L xc Qp q ls (wI x :: st) M') : Runs X L xc Qp pc ls (a4 :: a3 :: a2 :: a1 :: st) M := R_callSI (as := [a1, a2, a3, a4]) h1 h2 h3 h4 h5 h6 h7 h8 k
theorem R_cS5I {X : Sx} {L : Nat} {xc : Nat → Int → Int} {Qp : Int → Mem → Prop} {pc q : Nat} {ls st : List PV} {M : Mem} {i ci : Nat} {C : Ct} {a1 a2 a3 a4 a5 : PV} (h1 : lk X.1 pc = some (.invokestatic i, 3)) (h2 : pc + 3 = q) (h3 : lk X.2.2.2.2.2.2.1 i = some (ci, C)) (h4 : ([a1, a2, a3, a4, a5]).length = C.1) (h5 : C.2.1 = true) (h6 : C.2.2.1 ([a1, a2, a3, a4, a5]) M) (h7 : Nat.ble (stW st) 8 = true) (h8 : ci = 9) (k : ∀ (x : Int) (M' : Mem), C.2.2.2 ([a1, a2, a3, a4, a5]) M x M' → Runs X L xc Qp q ls (wI x :: st) M') : Runs X L xc Qp pc ls (a5 :: a4 :: a3 :: a2 :: a1 :: st) M := R_callSI (as := [a1, a2, a3, a4, a5]) h1 h2 h3 h4 h5 h6 h7 h8 k
theorem R_cS1N {X : Sx} {L : Nat} {xc : Nat → Int → Int} {Qp : Int → Mem → Prop} {pc q : Nat} {ls st : List PV} {M : Mem} {i ci : Nat} {C : Ct} {a1 : PV} (h1 : lk X.1 pc = some (.invokestatic i, 3)) (h2 : pc + 3 = q) (h3 : lk X.2.2.2.2.2.2.1 i = some (ci, C)) (h4 : ([a1]).length = C.1) (h5 : C.2.1 = false) (h6 : C.2.2.1 ([a1]) M) (h7 : Nat.ble (stW st) 8 = true) (h8 : ci = 9) (k : ∀ (M' : Mem), C.2.2.2 ([a1]) M 0 M' → Runs X L xc Qp q ls st M') : Runs X L xc Qp pc ls (a1 :: st) M := R_callSN (as := [a1]) h1 h2 h3 h4 h5 h6 h7 h8 k
theorem R_cS2N {X : Sx} {L : Nat} {xc : Nat → Int → Int} {Qp : Int → Mem → Prop} {pc q : Nat} {ls st : List PV} {M : Mem} {i ci : Nat} {C : Ct} {a1 a2 : PV} (h1 : lk X.1 pc = some (.invokestatic i, 3)) (h2 : pc + 3 = q) (h3 : lk X.2.2.2.2.2.2.1 i = some (ci, C)) (h4 : ([a1, a2]).length = C.1) (h5 : C.2.1 = false) (h6 : C.2.2.1 ([a1, a2]) M) (h7 : Nat.ble (stW st) 8 = true) (h8 : ci = 9) (k : ∀ (M' : Mem), C.2.2.2 ([a1, a2]) M 0 M' → Runs X L xc Qp q ls st M') : Runs X L xc Qp pc ls (a2 :: a1 :: st) M := R_callSN (as := [a1, a2]) h1 h2 h3 h4 h5 h6 h7 h8 k
theorem R_cS3N {X : Sx} {L : Nat} {xc : Nat → Int → Int} {Qp : Int → Mem → Prop} {pc q : Nat} {ls st : List PV} {M : Mem} {i ci : Nat} {C : Ct} {a1 a2 a3 : PV} (h1 : lk X.1 pc = some (.invokestatic i, 3)) (h2 : pc + 3 = q) (h3 : lk X.2.2.2.2.2.2.1 i = some (ci, C)) (h4 : ([a1, a2, a3]).length = C.1) (h5 : C.2.1 = false) (h6 : C.2.2.1 ([a1, a2, a3]) M) (h7 : Nat.ble (stW st) 8 = true) (h8 : ci = 9) (k : ∀ (M' : Mem), C.2.2.2 ([a1, a2, a3]) M 0 M' → Runs X L xc Qp q ls st M') : Runs X L xc Qp pc ls (a3 :: a2 :: a1 :: st) M := R_callSN (as := [a1, a2, a3]) h1 h2 h3 h4 h5 h6 h7 h8 k
theorem R_cS4N {X : Sx} {L : Nat} {xc : Nat → Int → Int} {Qp : Int → Mem → Prop} {pc q : Nat} {ls st : List PV} {M : Mem} {i ci : Nat} {C : Ct} {a1 a2 a3 a4 : PV} (h1 : lk X.1 pc = some (.invokestatic i, 3)) (h2 : pc + 3 = q) (h3 : lk X.2.2.2.2.2.2.1 i = some (ci, C)) (h4 : ([a1, a2, a3, a4]).length = C.1) (h5 : C.2.1 = false) (h6 : C.2.2.1 ([a1, a2, a3, a4]) M) (h7 : Nat.ble (stW st) 8 = true) (h8 : ci = 9) (k : ∀ (M' : Mem), C.2.2.2 ([a1, a2, a3, a4]) M 0 M' → Runs X L xc Qp q ls st M') : Runs X L xc Qp pc ls (a4 :: a3 :: a2 :: a1 :: st) M := R_callSN (as := [a1, a2, a3, a4]) h1 h2 h3 h4 h5 h6 h7 h8 k
theorem R_cS5N {X : Sx} {L : Nat} {xc : Nat → Int → Int} {Qp : Int → Mem → Prop} {pc q : Nat} {ls st : List PV} {M : Mem} {i ci : Nat} {C : Ct} {a1 a2 a3 a4 a5 : PV} (h1 : lk X.1 pc = some (.invokestatic i, 3)) (h2 : pc + 3 = q) (h3 : lk X.2.2.2.2.2.2.1 i = some (ci, C)) (h4 : ([a1, a2, a3, a4, a5]).length = C.1) (h5 : C.2.1 = false) (h6 : C.2.2.1 ([a1, a2, a3, a4, a5]) M) (h7 : Nat.ble (stW st) 8 = true) (h8 : ci = 9) (k : ∀ (M' : Mem), C.2.2.2 ([a1, a2, a3, a4, a5]) M 0 M' → Runs X L xc Qp q ls st M') : Runs X L xc Qp pc ls (a5 :: a4 :: a3 :: a2 :: a1 :: st) M := R_callSN (as := [a1, a2, a3, a4, a5]) h1 h2 h3 h4 h5 h6 h7 h8 k
theorem Runs.mono {X : Sx} {L : Nat} {xc : Nat → Int → Int} {Q1 Q2 : Int → Mem → Prop} {pc : Nat} {ls st : List PV} {M : Mem} (h : ∀ x M, Q1 x M → Q2 x M) (k : Runs X L xc Q1 pc ls st M) : Runs X L xc Q2 pc ls st M := fun J c => k J ⟨c.1, c.2.1, c.2.2.1, c.2.2.2.1, c.2.2.2.2.1, c.2.2.2.2.2.1, c.2.2.2.2.2.2.1, c.2.2.2.2.2.2.2.1, c.2.2.2.2.2.2.2.2.1, c.2.2.2.2.2.2.2.2.2.1, c.2.2.2.2.2.2.2.2.2.2.1, c.2.2.2.2.2.2.2.2.2.2.2.1, c.2.2.2.2.2.2.2.2.2.2.2.2.1, c.2.2.2.2.2.2.2.2.2.2.2.2.2.1, c.2.2.2.2.2.2.2.2.2.2.2.2.2.2.1, c.2.2.2.2.2.2.2.2.2.2.2.2.2.2.2.1, c.2.2.2.2.2.2.2.2.2.2.2.2.2.2.2.2.1, c.2.2.2.2.2.2.2.2.2.2.2.2.2.2.2.2.2.1, c.2.2.2.2.2.2.2.2.2.2.2.2.2.2.2.2.2.2.1, c.2.2.2.2.2.2.2.2.2.2.2.2.2.2.2.2.2.2.2.1, c.2.2.2.2.2.2.2.2.2.2.2.2.2.2.2.2.2.2.2.2.1, c.2.2.2.2.2.2.2.2.2.2.2.2.2.2.2.2.2.2.2.2.2.1, c.2.2.2.2.2.2.2.2.2.2.2.2.2.2.2.2.2.2.2.2.2.2.1, c.2.2.2.2.2.2.2.2.2.2.2.2.2.2.2.2.2.2.2.2.2.2.2.1, c.2.2.2.2.2.2.2.2.2.2.2.2.2.2.2.2.2.2.2.2.2.2.2.2.1, c.2.2.2.2.2.2.2.2.2.2.2.2.2.2.2.2.2.2.2.2.2.2.2.2.2.1, c.2.2.2.2.2.2.2.2.2.2.2.2.2.2.2.2.2.2.2.2.2.2.2.2.2.2.1, c.2.2.2.2.2.2.2.2.2.2.2.2.2.2.2.2.2.2.2.2.2.2.2.2.2.2.2.1, c.2.2.2.2.2.2.2.2.2.2.2.2.2.2.2.2.2.2.2.2.2.2.2.2.2.2.2.2.1, c.2.2.2.2.2.2.2.2.2.2.2.2.2.2.2.2.2.2.2.2.2.2.2.2.2.2.2.2.2.1, c.2.2.2.2.2.2.2.2.2.2.2.2.2.2.2.2.2.2.2.2.2.2.2.2.2.2.2.2.2.2.1, c.2.2.2.2.2.2.2.2.2.2.2.2.2.2.2.2.2.2.2.2.2.2.2.2.2.2.2.2.2.2.2.1, c.2.2.2.2.2.2.2.2.2.2.2.2.2.2.2.2.2.2.2.2.2.2.2.2.2.2.2.2.2.2.2.2.1, c.2.2.2.2.2.2.2.2.2.2.2.2.2.2.2.2.2.2.2.2.2.2.2.2.2.2.2.2.2.2.2.2.2.1, c.2.2.2.2.2.2.2.2.2.2.2.2.2.2.2.2.2.2.2.2.2.2.2.2.2.2.2.2.2.2.2.2.2.2.1, c.2.2.2.2.2.2.2.2.2.2.2.2.2.2.2.2.2.2.2.2.2.2.2.2.2.2.2.2.2.2.2.2.2.2.2.1, c.2.2.2.2.2.2.2.2.2.2.2.2.2.2.2.2.2.2.2.2.2.2.2.2.2.2.2.2.2.2.2.2.2.2.2.2.1, c.2.2.2.2.2.2.2.2.2.2.2.2.2.2.2.2.2.2.2.2.2.2.2.2.2.2.2.2.2.2.2.2.2.2.2.2.2.1, c.2.2.2.2.2.2.2.2.2.2.2.2.2.2.2.2.2.2.2.2.2.2.2.2.2.2.2.2.2.2.2.2.2.2.2.2.2.2.1, c.2.2.2.2.2.2.2.2.2.2.2.2.2.2.2.2.2.2.2.2.2.2.2.2.2.2.2.2.2.2.2.2.2.2.2.2.2.2.2.1, c.2.2.2.2.2.2.2.2.2.2.2.2.2.2.2.2.2.2.2.2.2.2.2.2.2.2.2.2.2.2.2.2.2.2.2.2.2.2.2.2.1, c.2.2.2.2.2.2.2.2.2.2.2.2.2.2.2.2.2.2.2.2.2.2.2.2.2.2.2.2.2.2.2.2.2.2.2.2.2.2.2.2.2.1, c.2.2.2.2.2.2.2.2.2.2.2.2.2.2.2.2.2.2.2.2.2.2.2.2.2.2.2.2.2.2.2.2.2.2.2.2.2.2.2.2.2.2.1, c.2.2.2.2.2.2.2.2.2.2.2.2.2.2.2.2.2.2.2.2.2.2.2.2.2.2.2.2.2.2.2.2.2.2.2.2.2.2.2.2.2.2.2.1, c.2.2.2.2.2.2.2.2.2.2.2.2.2.2.2.2.2.2.2.2.2.2.2.2.2.2.2.2.2.2.2.2.2.2.2.2.2.2.2.2.2.2.2.2.1, c.2.2.2.2.2.2.2.2.2.2.2.2.2.2.2.2.2.2.2.2.2.2.2.2.2.2.2.2.2.2.2.2.2.2.2.2.2.2.2.2.2.2.2.2.2.1, c.2.2.2.2.2.2.2.2.2.2.2.2.2.2.2.2.2.2.2.2.2.2.2.2.2.2.2.2.2.2.2.2.2.2.2.2.2.2.2.2.2.2.2.2.2.2.1, c.2.2.2.2.2.2.2.2.2.2.2.2.2.2.2.2.2.2.2.2.2.2.2.2.2.2.2.2.2.2.2.2.2.2.2.2.2.2.2.2.2.2.2.2.2.2.2.1, c.2.2.2.2.2.2.2.2.2.2.2.2.2.2.2.2.2.2.2.2.2.2.2.2.2.2.2.2.2.2.2.2.2.2.2.2.2.2.2.2.2.2.2.2.2.2.2.2.1, c.2.2.2.2.2.2.2.2.2.2.2.2.2.2.2.2.2.2.2.2.2.2.2.2.2.2.2.2.2.2.2.2.2.2.2.2.2.2.2.2.2.2.2.2.2.2.2.2.2.1, c.2.2.2.2.2.2.2.2.2.2.2.2.2.2.2.2.2.2.2.2.2.2.2.2.2.2.2.2.2.2.2.2.2.2.2.2.2.2.2.2.2.2.2.2.2.2.2.2.2.2.1, c.2.2.2.2.2.2.2.2.2.2.2.2.2.2.2.2.2.2.2.2.2.2.2.2.2.2.2.2.2.2.2.2.2.2.2.2.2.2.2.2.2.2.2.2.2.2.2.2.2.2.2.1, c.2.2.2.2.2.2.2.2.2.2.2.2.2.2.2.2.2.2.2.2.2.2.2.2.2.2.2.2.2.2.2.2.2.2.2.2.2.2.2.2.2.2.2.2.2.2.2.2.2.2.2.2.1, c.2.2.2.2.2.2.2.2.2.2.2.2.2.2.2.2.2.2.2.2.2.2.2.2.2.2.2.2.2.2.2.2.2.2.2.2.2.2.2.2.2.2.2.2.2.2.2.2.2.2.2.2.2.1, c.2.2.2.2.2.2.2.2.2.2.2.2.2.2.2.2.2.2.2.2.2.2.2.2.2.2.2.2.2.2.2.2.2.2.2.2.2.2.2.2.2.2.2.2.2.2.2.2.2.2.2.2.2.2.1, c.2.2.2.2.2.2.2.2.2.2.2.2.2.2.2.2.2.2.2.2.2.2.2.2.2.2.2.2.2.2.2.2.2.2.2.2.2.2.2.2.2.2.2.2.2.2.2.2.2.2.2.2.2.2.2.1, c.2.2.2.2.2.2.2.2.2.2.2.2.2.2.2.2.2.2.2.2.2.2.2.2.2.2.2.2.2.2.2.2.2.2.2.2.2.2.2.2.2.2.2.2.2.2.2.2.2.2.2.2.2.2.2.2.1, c.2.2.2.2.2.2.2.2.2.2.2.2.2.2.2.2.2.2.2.2.2.2.2.2.2.2.2.2.2.2.2.2.2.2.2.2.2.2.2.2.2.2.2.2.2.2.2.2.2.2.2.2.2.2.2.2.2.1, c.2.2.2.2.2.2.2.2.2.2.2.2.2.2.2.2.2.2.2.2.2.2.2.2.2.2.2.2.2.2.2.2.2.2.2.2.2.2.2.2.2.2.2.2.2.2.2.2.2.2.2.2.2.2.2.2.2.2.1, c.2.2.2.2.2.2.2.2.2.2.2.2.2.2.2.2.2.2.2.2.2.2.2.2.2.2.2.2.2.2.2.2.2.2.2.2.2.2.2.2.2.2.2.2.2.2.2.2.2.2.2.2.2.2.2.2.2.2.2.1, c.2.2.2.2.2.2.2.2.2.2.2.2.2.2.2.2.2.2.2.2.2.2.2.2.2.2.2.2.2.2.2.2.2.2.2.2.2.2.2.2.2.2.2.2.2.2.2.2.2.2.2.2.2.2.2.2.2.2.2.2.1, c.2.2.2.2.2.2.2.2.2.2.2.2.2.2.2.2.2.2.2.2.2.2.2.2.2.2.2.2.2.2.2.2.2.2.2.2.2.2.2.2.2.2.2.2.2.2.2.2.2.2.2.2.2.2.2.2.2.2.2.2.2.1, c.2.2.2.2.2.2.2.2.2.2.2.2.2.2.2.2.2.2.2.2.2.2.2.2.2.2.2.2.2.2.2.2.2.2.2.2.2.2.2.2.2.2.2.2.2.2.2.2.2.2.2.2.2.2.2.2.2.2.2.2.2.2.1, c.2.2.2.2.2.2.2.2.2.2.2.2.2.2.2.2.2.2.2.2.2.2.2.2.2.2.2.2.2.2.2.2.2.2.2.2.2.2.2.2.2.2.2.2.2.2.2.2.2.2.2.2.2.2.2.2.2.2.2.2.2.2.2.1, c.2.2.2.2.2.2.2.2.2.2.2.2.2.2.2.2.2.2.2.2.2.2.2.2.2.2.2.2.2.2.2.2.2.2.2.2.2.2.2.2.2.2.2.2.2.2.2.2.2.2.2.2.2.2.2.2.2.2.2.2.2.2.2.2.1, c.2.2.2.2.2.2.2.2.2.2.2.2.2.2.2.2.2.2.2.2.2.2.2.2.2.2.2.2.2.2.2.2.2.2.2.2.2.2.2.2.2.2.2.2.2.2.2.2.2.2.2.2.2.2.2.2.2.2.2.2.2.2.2.2.2.1, c.2.2.2.2.2.2.2.2.2.2.2.2.2.2.2.2.2.2.2.2.2.2.2.2.2.2.2.2.2.2.2.2.2.2.2.2.2.2.2.2.2.2.2.2.2.2.2.2.2.2.2.2.2.2.2.2.2.2.2.2.2.2.2.2.2.2.1, c.2.2.2.2.2.2.2.2.2.2.2.2.2.2.2.2.2.2.2.2.2.2.2.2.2.2.2.2.2.2.2.2.2.2.2.2.2.2.2.2.2.2.2.2.2.2.2.2.2.2.2.2.2.2.2.2.2.2.2.2.2.2.2.2.2.2.2.1, c.2.2.2.2.2.2.2.2.2.2.2.2.2.2.2.2.2.2.2.2.2.2.2.2.2.2.2.2.2.2.2.2.2.2.2.2.2.2.2.2.2.2.2.2.2.2.2.2.2.2.2.2.2.2.2.2.2.2.2.2.2.2.2.2.2.2.2.2.1, c.2.2.2.2.2.2.2.2.2.2.2.2.2.2.2.2.2.2.2.2.2.2.2.2.2.2.2.2.2.2.2.2.2.2.2.2.2.2.2.2.2.2.2.2.2.2.2.2.2.2.2.2.2.2.2.2.2.2.2.2.2.2.2.2.2.2.2.2.2.1, c.2.2.2.2.2.2.2.2.2.2.2.2.2.2.2.2.2.2.2.2.2.2.2.2.2.2.2.2.2.2.2.2.2.2.2.2.2.2.2.2.2.2.2.2.2.2.2.2.2.2.2.2.2.2.2.2.2.2.2.2.2.2.2.2.2.2.2.2.2.2.1, c.2.2.2.2.2.2.2.2.2.2.2.2.2.2.2.2.2.2.2.2.2.2.2.2.2.2.2.2.2.2.2.2.2.2.2.2.2.2.2.2.2.2.2.2.2.2.2.2.2.2.2.2.2.2.2.2.2.2.2.2.2.2.2.2.2.2.2.2.2.2.2.1, c.2.2.2.2.2.2.2.2.2.2.2.2.2.2.2.2.2.2.2.2.2.2.2.2.2.2.2.2.2.2.2.2.2.2.2.2.2.2.2.2.2.2.2.2.2.2.2.2.2.2.2.2.2.2.2.2.2.2.2.2.2.2.2.2.2.2.2.2.2.2.2.2.1, c.2.2.2.2.2.2.2.2.2.2.2.2.2.2.2.2.2.2.2.2.2.2.2.2.2.2.2.2.2.2.2.2.2.2.2.2.2.2.2.2.2.2.2.2.2.2.2.2.2.2.2.2.2.2.2.2.2.2.2.2.2.2.2.2.2.2.2.2.2.2.2.2.2.1, c.2.2.2.2.2.2.2.2.2.2.2.2.2.2.2.2.2.2.2.2.2.2.2.2.2.2.2.2.2.2.2.2.2.2.2.2.2.2.2.2.2.2.2.2.2.2.2.2.2.2.2.2.2.2.2.2.2.2.2.2.2.2.2.2.2.2.2.2.2.2.2.2.2.2.1, c.2.2.2.2.2.2.2.2.2.2.2.2.2.2.2.2.2.2.2.2.2.2.2.2.2.2.2.2.2.2.2.2.2.2.2.2.2.2.2.2.2.2.2.2.2.2.2.2.2.2.2.2.2.2.2.2.2.2.2.2.2.2.2.2.2.2.2.2.2.2.2.2.2.2.2.1, c.2.2.2.2.2.2.2.2.2.2.2.2.2.2.2.2.2.2.2.2.2.2.2.2.2.2.2.2.2.2.2.2.2.2.2.2.2.2.2.2.2.2.2.2.2.2.2.2.2.2.2.2.2.2.2.2.2.2.2.2.2.2.2.2.2.2.2.2.2.2.2.2.2.2.2.2.1, c.2.2.2.2.2.2.2.2.2.2.2.2.2.2.2.2.2.2.2.2.2.2.2.2.2.2.2.2.2.2.2.2.2.2.2.2.2.2.2.2.2.2.2.2.2.2.2.2.2.2.2.2.2.2.2.2.2.2.2.2.2.2.2.2.2.2.2.2.2.2.2.2.2.2.2.2.2.1, c.2.2.2.2.2.2.2.2.2.2.2.2.2.2.2.2.2.2.2.2.2.2.2.2.2.2.2.2.2.2.2.2.2.2.2.2.2.2.2.2.2.2.2.2.2.2.2.2.2.2.2.2.2.2.2.2.2.2.2.2.2.2.2.2.2.2.2.2.2.2.2.2.2.2.2.2.2.2.1, c.2.2.2.2.2.2.2.2.2.2.2.2.2.2.2.2.2.2.2.2.2.2.2.2.2.2.2.2.2.2.2.2.2.2.2.2.2.2.2.2.2.2.2.2.2.2.2.2.2.2.2.2.2.2.2.2.2.2.2.2.2.2.2.2.2.2.2.2.2.2.2.2.2.2.2.2.2.2.2.1, c.2.2.2.2.2.2.2.2.2.2.2.2.2.2.2.2.2.2.2.2.2.2.2.2.2.2.2.2.2.2.2.2.2.2.2.2.2.2.2.2.2.2.2.2.2.2.2.2.2.2.2.2.2.2.2.2.2.2.2.2.2.2.2.2.2.2.2.2.2.2.2.2.2.2.2.2.2.2.2.2.1, fun pc ls M x h1 h2 h3 => c.2.2.2.2.2.2.2.2.2.2.2.2.2.2.2.2.2.2.2.2.2.2.2.2.2.2.2.2.2.2.2.2.2.2.2.2.2.2.2.2.2.2.2.2.2.2.2.2.2.2.2.2.2.2.2.2.2.2.2.2.2.2.2.2.2.2.2.2.2.2.2.2.2.2.2.2.2.2.2.2.2.1 pc ls M x h1 h2 (h x M h3), fun pc ls M h1 h2 h3 => c.2.2.2.2.2.2.2.2.2.2.2.2.2.2.2.2.2.2.2.2.2.2.2.2.2.2.2.2.2.2.2.2.2.2.2.2.2.2.2.2.2.2.2.2.2.2.2.2.2.2.2.2.2.2.2.2.2.2.2.2.2.2.2.2.2.2.2.2.2.2.2.2.2.2.2.2.2.2.2.2.2.2 pc ls M h1 h2 (h 0 M h3)⟩
end
section

/-! SOUNDNESS: the machine's own judgement is closed under the clauses -/
def Fx (X : Sx) (L : Nat) (scr : Int → Int) (p : Program) (s : State) (m : MethodId) (args : Array Value) (c : Code) (own : String) (cc : ByteArray) (nL : Nat) (R : Room) (ca sl : Nat) (D : va_G) (cA : Nat → ClassId) (ad : Nat → Nat) (A : Nat → Prop) : Prop :=
  p.tables.exec = Jvm.exec ∧ c.code = cc ∧ c.maxLocals = nL ∧ s.vm.findClass own = some m.cls ∧ (∀ w ∈ GT, w.before args s = true) ∧ va_K D clsL (tysL cA) s ∧ adOK ad A ∧ Ext ad L (xcF scr) A s s.heap ∧ L < 2147483648 ∧
  (∀ e ∈ X.1, decode cc e.1 = .ok e.2) ∧ (∀ e ∈ X.2.1, FdOK own e) ∧ (∀ e ∈ X.2.2.1, Cond.constantLong own e.1 (Int64.ofInt e.2) ∈ GT) ∧ (∀ e ∈ X.2.2.2.1, Cond.constant own e.1 (Int32.ofInt e.2) ∈ GT) ∧ (∀ e ∈ X.2.2.2.2.1, SgOK own e) ∧ (∀ e ∈ X.2.2.2.2.2.1, NtOK own e) ∧ (∀ e ∈ X.2.2.2.2.2.2.1, ClOK own R e) ∧
  1 ≤ R.frames ∧ 60 ≤ R.locals ∧ ca ≤ R.cells ∧ sl ≤ R.slots
def JW (p : Program) (l : Launch) (e : Env) (R : Room) (s : State) (m : MethodId) (args : Array Value) (below : List Frame) (meth : Method) (c : Code) (nL ca sl : Nat) (Q : State → Prop) (D : va_G) (cA : Nat → ClassId) (ad : Nat → Nat) (A : Nat → Prop) (L : Nat) (pc : Nat) (lp st : List PV) (M : Mem) : Prop :=
  ∀ (H : Heap) (locs : List Loc) (ls : Array Slot), va_P D clsL (wld ad cA L M) H → va_S A s.heap H locs → LR ad nL lp ls → W p l e R s m args below meth c H locs ca sl Q (F0 m pc ls (st.map (vp ad)))

set_option maxHeartbeats 1000000 in
theorem s_iconst {X : Sx} {L : Nat} {scr : Int → Int} {p : Program} {l : Launch} {e : Env} {R : Room} {s : State} {m : MethodId} {args : Array Value} {below : List Frame} {meth : Method} {c : Code} {own : String} {cc : ByteArray} {nL ca sl : Nat} {Q : State → Prop} {D : va_G} {cA : Nat → ClassId} {ad : Nat → Nat} {A : Nat → Prop} (F : Fx X L scr p s m args c own cc nL R ca sl D cA ad A) : k_iconst X L (xcF scr) (JW p l e R s m args below meth c nL ca sl Q D cA ad A L) := by
  obtain ⟨hx, hb, hml, hown, hts, hK, had, hE, hL, htab, hfd, hkL, hkI, hsg, hnt, hcl, hR1, hR2, hRc, hRs⟩ := F
  intro pc q lp st M v h1 h2 k
  have hdg := htab _ (lk_mem h1)
  subst h2
  intro H locs ls hP hS hl
  exact lv_iconst hx hb hdg rfl (k H locs ls hP hS hl)
set_option maxHeartbeats 1000000 in
theorem s_bipush {X : Sx} {L : Nat} {scr : Int → Int} {p : Program} {l : Launch} {e : Env} {R : Room} {s : State} {m : MethodId} {args : Array Value} {below : List Frame} {meth : Method} {c : Code} {own : String} {cc : ByteArray} {nL ca sl : Nat} {Q : State → Prop} {D : va_G} {cA : Nat → ClassId} {ad : Nat → Nat} {A : Nat → Prop} (F : Fx X L scr p s m args c own cc nL R ca sl D cA ad A) : k_bipush X L (xcF scr) (JW p l e R s m args below meth c nL ca sl Q D cA ad A L) := by
  obtain ⟨hx, hb, hml, hown, hts, hK, had, hE, hL, htab, hfd, hkL, hkI, hsg, hnt, hcl, hR1, hR2, hRc, hRs⟩ := F
  intro pc q lp st M v h1 h2 h3 k
  have hdg := htab _ (lk_mem h1)
  subst h2
  intro H locs ls hP hS hl
  exact lv_bipush hx hb hdg (of_i8 h3) (k H locs ls hP hS hl)
set_option maxHeartbeats 1000000 in
theorem s_sipush {X : Sx} {L : Nat} {scr : Int → Int} {p : Program} {l : Launch} {e : Env} {R : Room} {s : State} {m : MethodId} {args : Array Value} {below : List Frame} {meth : Method} {c : Code} {own : String} {cc : ByteArray} {nL ca sl : Nat} {Q : State → Prop} {D : va_G} {cA : Nat → ClassId} {ad : Nat → Nat} {A : Nat → Prop} (F : Fx X L scr p s m args c own cc nL R ca sl D cA ad A) : k_sipush X L (xcF scr) (JW p l e R s m args below meth c nL ca sl Q D cA ad A L) := by
  obtain ⟨hx, hb, hml, hown, hts, hK, had, hE, hL, htab, hfd, hkL, hkI, hsg, hnt, hcl, hR1, hR2, hRc, hRs⟩ := F
  intro pc q lp st M v h1 h2 h3 k
  have hdg := htab _ (lk_mem h1)
  subst h2
  intro H locs ls hP hS hl
  exact lv_sipush hx hb hdg (of_i16 h3) (k H locs ls hP hS hl)
set_option maxHeartbeats 1000000 in
theorem s_lconst {X : Sx} {L : Nat} {scr : Int → Int} {p : Program} {l : Launch} {e : Env} {R : Room} {s : State} {m : MethodId} {args : Array Value} {below : List Frame} {meth : Method} {c : Code} {own : String} {cc : ByteArray} {nL ca sl : Nat} {Q : State → Prop} {D : va_G} {cA : Nat → ClassId} {ad : Nat → Nat} {A : Nat → Prop} (F : Fx X L scr p s m args c own cc nL R ca sl D cA ad A) : k_lconst X L (xcF scr) (JW p l e R s m args below meth c nL ca sl Q D cA ad A L) := by
  obtain ⟨hx, hb, hml, hown, hts, hK, had, hE, hL, htab, hfd, hkL, hkI, hsg, hnt, hcl, hR1, hR2, hRc, hRs⟩ := F
  intro pc q lp st M n v h1 h2 h3 k
  have hdg := htab _ (lk_mem h1)
  subst h2
  intro H locs ls hP hS hl
  subst h3
  exact lv_lconst hx hb hdg (of_nL _) (k H locs ls hP hS hl)
set_option maxHeartbeats 1000000 in
theorem s_ldc2 {X : Sx} {L : Nat} {scr : Int → Int} {p : Program} {l : Launch} {e : Env} {R : Room} {s : State} {m : MethodId} {args : Array Value} {below : List Frame} {meth : Method} {c : Code} {own : String} {cc : ByteArray} {nL ca sl : Nat} {Q : State → Prop} {D : va_G} {cA : Nat → ClassId} {ad : Nat → Nat} {A : Nat → Prop} (F : Fx X L scr p s m args c own cc nL R ca sl D cA ad A) : k_ldc2 X L (xcF scr) (JW p l e R s m args below meth c nL ca sl Q D cA ad A L) := by
  obtain ⟨hx, hb, hml, hown, hts, hK, had, hE, hL, htab, hfd, hkL, hkI, hsg, hnt, hcl, hR1, hR2, hRc, hRs⟩ := F
  intro pc q lp st M i v h1 h2 h3 k
  have hdg := htab _ (lk_mem h1)
  subst h2
  intro H locs ls hP hS hl
  exact lv_ldc2 hx hb hown (hts _ (hkL _ (lk_mem h3))) hdg (k H locs ls hP hS hl)
set_option maxHeartbeats 1000000 in
theorem s_ldcw {X : Sx} {L : Nat} {scr : Int → Int} {p : Program} {l : Launch} {e : Env} {R : Room} {s : State} {m : MethodId} {args : Array Value} {below : List Frame} {meth : Method} {c : Code} {own : String} {cc : ByteArray} {nL ca sl : Nat} {Q : State → Prop} {D : va_G} {cA : Nat → ClassId} {ad : Nat → Nat} {A : Nat → Prop} (F : Fx X L scr p s m args c own cc nL R ca sl D cA ad A) : k_ldcw X L (xcF scr) (JW p l e R s m args below meth c nL ca sl Q D cA ad A L) := by
  obtain ⟨hx, hb, hml, hown, hts, hK, had, hE, hL, htab, hfd, hkL, hkI, hsg, hnt, hcl, hR1, hR2, hRc, hRs⟩ := F
  intro pc q lp st M i v h1 h2 h3 k
  have hdg := htab _ (lk_mem h1)
  subst h2
  intro H locs ls hP hS hl
  exact lv_ldcw hx hb hown (hts _ (hkI _ (lk_mem h3))) hdg (k H locs ls hP hS hl)
set_option maxHeartbeats 1000000 in
theorem s_iload_n {X : Sx} {L : Nat} {scr : Int → Int} {p : Program} {l : Launch} {e : Env} {R : Room} {s : State} {m : MethodId} {args : Array Value} {below : List Frame} {meth : Method} {c : Code} {own : String} {cc : ByteArray} {nL ca sl : Nat} {Q : State → Prop} {D : va_G} {cA : Nat → ClassId} {ad : Nat → Nat} {A : Nat → Prop} (F : Fx X L scr p s m args c own cc nL R ca sl D cA ad A) : k_iload_n X L (xcF scr) (JW p l e R s m args below meth c nL ca sl Q D cA ad A L) := by
  obtain ⟨hx, hb, hml, hown, hts, hK, had, hE, hL, htab, hfd, hkL, hkI, hsg, hnt, hcl, hR1, hR2, hRc, hRs⟩ := F
  intro pc q lp st M k4 i x h1 h2 h3 h4 k
  have hdg := htab _ (lk_mem h1)
  subst h2
  intro H locs ls hP hS hl
  exact lv_iload_n hx hb hdg h3 (hl.get h4) (k H locs ls hP hS hl)
set_option maxHeartbeats 1000000 in
theorem s_iload {X : Sx} {L : Nat} {scr : Int → Int} {p : Program} {l : Launch} {e : Env} {R : Room} {s : State} {m : MethodId} {args : Array Value} {below : List Frame} {meth : Method} {c : Code} {own : String} {cc : ByteArray} {nL ca sl : Nat} {Q : State → Prop} {D : va_G} {cA : Nat → ClassId} {ad : Nat → Nat} {A : Nat → Prop} (F : Fx X L scr p s m args c own cc nL R ca sl D cA ad A) : k_iload X L (xcF scr) (JW p l e R s m args below meth c nL ca sl Q D cA ad A L) := by
  obtain ⟨hx, hb, hml, hown, hts, hK, had, hE, hL, htab, hfd, hkL, hkI, hsg, hnt, hcl, hR1, hR2, hRc, hRs⟩ := F
  intro pc q lp st M i x h1 h2 h3 k
  have hdg := htab _ (lk_mem h1)
  subst h2
  intro H locs ls hP hS hl
  exact lv_iload hx hb hdg (hl.get h3) (k H locs ls hP hS hl)
set_option maxHeartbeats 1000000 in
theorem s_lload_n {X : Sx} {L : Nat} {scr : Int → Int} {p : Program} {l : Launch} {e : Env} {R : Room} {s : State} {m : MethodId} {args : Array Value} {below : List Frame} {meth : Method} {c : Code} {own : String} {cc : ByteArray} {nL ca sl : Nat} {Q : State → Prop} {D : va_G} {cA : Nat → ClassId} {ad : Nat → Nat} {A : Nat → Prop} (F : Fx X L scr p s m args c own cc nL R ca sl D cA ad A) : k_lload_n X L (xcF scr) (JW p l e R s m args below meth c nL ca sl Q D cA ad A L) := by
  obtain ⟨hx, hb, hml, hown, hts, hK, had, hE, hL, htab, hfd, hkL, hkI, hsg, hnt, hcl, hR1, hR2, hRc, hRs⟩ := F
  intro pc q lp st M k4 i x h1 h2 h3 h4 k
  have hdg := htab _ (lk_mem h1)
  subst h2
  intro H locs ls hP hS hl
  exact lv_lload_n hx hb hdg h3 (hl.get h4) (k H locs ls hP hS hl)
set_option maxHeartbeats 1000000 in
theorem s_lload {X : Sx} {L : Nat} {scr : Int → Int} {p : Program} {l : Launch} {e : Env} {R : Room} {s : State} {m : MethodId} {args : Array Value} {below : List Frame} {meth : Method} {c : Code} {own : String} {cc : ByteArray} {nL ca sl : Nat} {Q : State → Prop} {D : va_G} {cA : Nat → ClassId} {ad : Nat → Nat} {A : Nat → Prop} (F : Fx X L scr p s m args c own cc nL R ca sl D cA ad A) : k_lload X L (xcF scr) (JW p l e R s m args below meth c nL ca sl Q D cA ad A L) := by
  obtain ⟨hx, hb, hml, hown, hts, hK, had, hE, hL, htab, hfd, hkL, hkI, hsg, hnt, hcl, hR1, hR2, hRc, hRs⟩ := F
  intro pc q lp st M i x h1 h2 h3 k
  have hdg := htab _ (lk_mem h1)
  subst h2
  intro H locs ls hP hS hl
  exact lv_lload hx hb hdg (hl.get h3) (k H locs ls hP hS hl)
set_option maxHeartbeats 1000000 in
theorem s_aload_n {X : Sx} {L : Nat} {scr : Int → Int} {p : Program} {l : Launch} {e : Env} {R : Room} {s : State} {m : MethodId} {args : Array Value} {below : List Frame} {meth : Method} {c : Code} {own : String} {cc : ByteArray} {nL ca sl : Nat} {Q : State → Prop} {D : va_G} {cA : Nat → ClassId} {ad : Nat → Nat} {A : Nat → Prop} (F : Fx X L scr p s m args c own cc nL R ca sl D cA ad A) : k_aload_n X L (xcF scr) (JW p l e R s m args below meth c nL ca sl Q D cA ad A L) := by
  obtain ⟨hx, hb, hml, hown, hts, hK, had, hE, hL, htab, hfd, hkL, hkI, hsg, hnt, hcl, hR1, hR2, hRc, hRs⟩ := F
  intro pc q lp st M k4 i r h1 h2 h3 h4 k
  have hdg := htab _ (lk_mem h1)
  subst h2
  intro H locs ls hP hS hl
  exact lv_aload_n hx hb hdg h3 (hl.get h4) (k H locs ls hP hS hl)
set_option maxHeartbeats 1000000 in
theorem s_aload {X : Sx} {L : Nat} {scr : Int → Int} {p : Program} {l : Launch} {e : Env} {R : Room} {s : State} {m : MethodId} {args : Array Value} {below : List Frame} {meth : Method} {c : Code} {own : String} {cc : ByteArray} {nL ca sl : Nat} {Q : State → Prop} {D : va_G} {cA : Nat → ClassId} {ad : Nat → Nat} {A : Nat → Prop} (F : Fx X L scr p s m args c own cc nL R ca sl D cA ad A) : k_aload X L (xcF scr) (JW p l e R s m args below meth c nL ca sl Q D cA ad A L) := by
  obtain ⟨hx, hb, hml, hown, hts, hK, had, hE, hL, htab, hfd, hkL, hkI, hsg, hnt, hcl, hR1, hR2, hRc, hRs⟩ := F
  intro pc q lp st M i r h1 h2 h3 k
  have hdg := htab _ (lk_mem h1)
  subst h2
  intro H locs ls hP hS hl
  exact lv_aload hx hb hdg (hl.get h3) (k H locs ls hP hS hl)
set_option maxHeartbeats 1000000 in
theorem s_istore_n {X : Sx} {L : Nat} {scr : Int → Int} {p : Program} {l : Launch} {e : Env} {R : Room} {s : State} {m : MethodId} {args : Array Value} {below : List Frame} {meth : Method} {c : Code} {own : String} {cc : ByteArray} {nL ca sl : Nat} {Q : State → Prop} {D : va_G} {cA : Nat → ClassId} {ad : Nat → Nat} {A : Nat → Prop} (F : Fx X L scr p s m args c own cc nL R ca sl D cA ad A) : k_istore_n X L (xcF scr) (JW p l e R s m args below meth c nL ca sl Q D cA ad A L) := by
  obtain ⟨hx, hb, hml, hown, hts, hK, had, hE, hL, htab, hfd, hkL, hkI, hsg, hnt, hcl, hR1, hR2, hRc, hRs⟩ := F
  intro pc q lp st M k4 i x h1 h2 h3 h4 k
  have hdg := htab _ (lk_mem h1)
  subst h2
  intro H locs ls hP hS hl
  obtain ⟨l0, g1, g2, g3⟩ := hl
  have hi := okS_lt h4
  exact lv_istore_n hx hb hdg h3 g1 (g2 ▸ hi) rfl (fun ls' h' => k H locs ls' hP hS (LR.put g2 g3 h4 h'))
set_option maxHeartbeats 1000000 in
theorem s_istore {X : Sx} {L : Nat} {scr : Int → Int} {p : Program} {l : Launch} {e : Env} {R : Room} {s : State} {m : MethodId} {args : Array Value} {below : List Frame} {meth : Method} {c : Code} {own : String} {cc : ByteArray} {nL ca sl : Nat} {Q : State → Prop} {D : va_G} {cA : Nat → ClassId} {ad : Nat → Nat} {A : Nat → Prop} (F : Fx X L scr p s m args c own cc nL R ca sl D cA ad A) : k_istore X L (xcF scr) (JW p l e R s m args below meth c nL ca sl Q D cA ad A L) := by
  obtain ⟨hx, hb, hml, hown, hts, hK, had, hE, hL, htab, hfd, hkL, hkI, hsg, hnt, hcl, hR1, hR2, hRc, hRs⟩ := F
  intro pc q lp st M i x h1 h2 h3 k
  have hdg := htab _ (lk_mem h1)
  subst h2
  intro H locs ls hP hS hl
  obtain ⟨l0, g1, g2, g3⟩ := hl
  have hi := okS_lt h3
  exact lv_istore hx hb hdg g1 (g2 ▸ hi) rfl (fun ls' h' => k H locs ls' hP hS (LR.put g2 g3 h3 h'))
set_option maxHeartbeats 1000000 in
theorem s_astore_n {X : Sx} {L : Nat} {scr : Int → Int} {p : Program} {l : Launch} {e : Env} {R : Room} {s : State} {m : MethodId} {args : Array Value} {below : List Frame} {meth : Method} {c : Code} {own : String} {cc : ByteArray} {nL ca sl : Nat} {Q : State → Prop} {D : va_G} {cA : Nat → ClassId} {ad : Nat → Nat} {A : Nat → Prop} (F : Fx X L scr p s m args c own cc nL R ca sl D cA ad A) : k_astore_n X L (xcF scr) (JW p l e R s m args below meth c nL ca sl Q D cA ad A L) := by
  obtain ⟨hx, hb, hml, hown, hts, hK, had, hE, hL, htab, hfd, hkL, hkI, hsg, hnt, hcl, hR1, hR2, hRc, hRs⟩ := F
  intro pc q lp st M k4 i r h1 h2 h3 h4 k
  have hdg := htab _ (lk_mem h1)
  subst h2
  intro H locs ls hP hS hl
  obtain ⟨l0, g1, g2, g3⟩ := hl
  have hi := okS_lt h4
  exact lv_astore_n hx hb hdg h3 g1 (g2 ▸ hi) rfl (fun ls' h' => k H locs ls' hP hS (LR.put g2 g3 h4 h'))
set_option maxHeartbeats 1000000 in
theorem s_astore {X : Sx} {L : Nat} {scr : Int → Int} {p : Program} {l : Launch} {e : Env} {R : Room} {s : State} {m : MethodId} {args : Array Value} {below : List Frame} {meth : Method} {c : Code} {own : String} {cc : ByteArray} {nL ca sl : Nat} {Q : State → Prop} {D : va_G} {cA : Nat → ClassId} {ad : Nat → Nat} {A : Nat → Prop} (F : Fx X L scr p s m args c own cc nL R ca sl D cA ad A) : k_astore X L (xcF scr) (JW p l e R s m args below meth c nL ca sl Q D cA ad A L) := by
  obtain ⟨hx, hb, hml, hown, hts, hK, had, hE, hL, htab, hfd, hkL, hkI, hsg, hnt, hcl, hR1, hR2, hRc, hRs⟩ := F
  intro pc q lp st M i r h1 h2 h3 k
  have hdg := htab _ (lk_mem h1)
  subst h2
  intro H locs ls hP hS hl
  obtain ⟨l0, g1, g2, g3⟩ := hl
  have hi := okS_lt h3
  exact lv_astore hx hb hdg g1 (g2 ▸ hi) rfl (fun ls' h' => k H locs ls' hP hS (LR.put g2 g3 h3 h'))
set_option maxHeartbeats 1000000 in
theorem s_lstore_n {X : Sx} {L : Nat} {scr : Int → Int} {p : Program} {l : Launch} {e : Env} {R : Room} {s : State} {m : MethodId} {args : Array Value} {below : List Frame} {meth : Method} {c : Code} {own : String} {cc : ByteArray} {nL ca sl : Nat} {Q : State → Prop} {D : va_G} {cA : Nat → ClassId} {ad : Nat → Nat} {A : Nat → Prop} (F : Fx X L scr p s m args c own cc nL R ca sl D cA ad A) : k_lstore_n X L (xcF scr) (JW p l e R s m args below meth c nL ca sl Q D cA ad A L) := by
  obtain ⟨hx, hb, hml, hown, hts, hK, had, hE, hL, htab, hfd, hkL, hkI, hsg, hnt, hcl, hR1, hR2, hRc, hRs⟩ := F
  intro pc q lp st M k4 i x h1 h2 h3 h4 h5 k
  have hdg := htab _ (lk_mem h1)
  subst h2
  intro H locs ls hP hS hl
  obtain ⟨l0, g1, g2, g3⟩ := hl
  have hi := Nat.lt_of_lt_of_eq (Nat.lt_of_lt_of_le (Nat.lt_succ_self _) (Nat.le_of_ble_eq_true h5)) g2
  exact lv_lstore_n hx hb hdg h3 g1 (Nat.lt_of_lt_of_eq (Nat.lt_of_succ_le (Nat.le_of_ble_eq_true h5)) g2) rfl (fun ls' h' => k H locs ls' hP hS (LR.put2 g2 g3 h4 h'))
set_option maxHeartbeats 1000000 in
theorem s_lstore {X : Sx} {L : Nat} {scr : Int → Int} {p : Program} {l : Launch} {e : Env} {R : Room} {s : State} {m : MethodId} {args : Array Value} {below : List Frame} {meth : Method} {c : Code} {own : String} {cc : ByteArray} {nL ca sl : Nat} {Q : State → Prop} {D : va_G} {cA : Nat → ClassId} {ad : Nat → Nat} {A : Nat → Prop} (F : Fx X L scr p s m args c own cc nL R ca sl D cA ad A) : k_lstore X L (xcF scr) (JW p l e R s m args below meth c nL ca sl Q D cA ad A L) := by
  obtain ⟨hx, hb, hml, hown, hts, hK, had, hE, hL, htab, hfd, hkL, hkI, hsg, hnt, hcl, hR1, hR2, hRc, hRs⟩ := F
  intro pc q lp st M i x h1 h2 h3 h4 k
  have hdg := htab _ (lk_mem h1)
  subst h2
  intro H locs ls hP hS hl
  obtain ⟨l0, g1, g2, g3⟩ := hl
  have hi := Nat.lt_of_lt_of_eq (Nat.lt_of_lt_of_le (Nat.lt_succ_self _) (Nat.le_of_ble_eq_true h4)) g2
  exact lv_lstore hx hb hdg g1 (Nat.lt_of_lt_of_eq (Nat.lt_of_succ_le (Nat.le_of_ble_eq_true h4)) g2) rfl (fun ls' h' => k H locs ls' hP hS (LR.put2 g2 g3 h3 h'))
set_option maxHeartbeats 1000000 in
theorem s_iinc {X : Sx} {L : Nat} {scr : Int → Int} {p : Program} {l : Launch} {e : Env} {R : Room} {s : State} {m : MethodId} {args : Array Value} {below : List Frame} {meth : Method} {c : Code} {own : String} {cc : ByteArray} {nL ca sl : Nat} {Q : State → Prop} {D : va_G} {cA : Nat → ClassId} {ad : Nat → Nat} {A : Nat → Prop} (F : Fx X L scr p s m args c own cc nL R ca sl D cA ad A) : k_iinc X L (xcF scr) (JW p l e R s m args below meth c nL ca sl Q D cA ad A L) := by
  obtain ⟨hx, hb, hml, hown, hts, hK, had, hE, hL, htab, hfd, hkL, hkI, hsg, hnt, hcl, hR1, hR2, hRc, hRs⟩ := F
  intro pc q lp st M i n x h1 h2 h3 h4 k
  have hdg := htab _ (lk_mem h1)
  subst h2
  intro H locs ls hP hS hl
  obtain ⟨l0, g1, g2, g3⟩ := hl
  have hi := okS_lt h4
  obtain ⟨k0, hk0⟩ := List.getElem?_of_mem (g3 i _ h3)
  exact lv_iinc hx hb hdg g1 hk0 (Int32.ofInt_add x n).symm (g2 ▸ hi) rfl (fun ls' h' => k H locs ls' hP hS (LR.put (w := .inl (x + n)) g2 g3 h4 h'))
set_option maxHeartbeats 1000000 in
theorem s_iadd {X : Sx} {L : Nat} {scr : Int → Int} {p : Program} {l : Launch} {e : Env} {R : Room} {s : State} {m : MethodId} {args : Array Value} {below : List Frame} {meth : Method} {c : Code} {own : String} {cc : ByteArray} {nL ca sl : Nat} {Q : State → Prop} {D : va_G} {cA : Nat → ClassId} {ad : Nat → Nat} {A : Nat → Prop} (F : Fx X L scr p s m args c own cc nL R ca sl D cA ad A) : k_iadd X L (xcF scr) (JW p l e R s m args below meth c nL ca sl Q D cA ad A L) := by
  obtain ⟨hx, hb, hml, hown, hts, hK, had, hE, hL, htab, hfd, hkL, hkI, hsg, hnt, hcl, hR1, hR2, hRc, hRs⟩ := F
  intro pc q lp st M x y h1 h2 k
  have hdg := htab _ (lk_mem h1)
  subst h2
  intro H locs ls hP hS hl
  exact lv_iadd hx hb hdg (by have := k H locs ls hP hS hl; simp only [List.map_cons, vp] at this; rw [Int32.ofInt_add] at this; exact this)
set_option maxHeartbeats 1000000 in
theorem s_isub {X : Sx} {L : Nat} {scr : Int → Int} {p : Program} {l : Launch} {e : Env} {R : Room} {s : State} {m : MethodId} {args : Array Value} {below : List Frame} {meth : Method} {c : Code} {own : String} {cc : ByteArray} {nL ca sl : Nat} {Q : State → Prop} {D : va_G} {cA : Nat → ClassId} {ad : Nat → Nat} {A : Nat → Prop} (F : Fx X L scr p s m args c own cc nL R ca sl D cA ad A) : k_isub X L (xcF scr) (JW p l e R s m args below meth c nL ca sl Q D cA ad A L) := by
  obtain ⟨hx, hb, hml, hown, hts, hK, had, hE, hL, htab, hfd, hkL, hkI, hsg, hnt, hcl, hR1, hR2, hRc, hRs⟩ := F
  intro pc q lp st M x y h1 h2 k
  have hdg := htab _ (lk_mem h1)
  subst h2
  intro H locs ls hP hS hl
  exact lv_isub hx hb hdg (by have := k H locs ls hP hS hl; simp only [List.map_cons, vp] at this; rw [Int32.ofInt_sub] at this; exact this)
set_option maxHeartbeats 1000000 in
theorem s_imul {X : Sx} {L : Nat} {scr : Int → Int} {p : Program} {l : Launch} {e : Env} {R : Room} {s : State} {m : MethodId} {args : Array Value} {below : List Frame} {meth : Method} {c : Code} {own : String} {cc : ByteArray} {nL ca sl : Nat} {Q : State → Prop} {D : va_G} {cA : Nat → ClassId} {ad : Nat → Nat} {A : Nat → Prop} (F : Fx X L scr p s m args c own cc nL R ca sl D cA ad A) : k_imul X L (xcF scr) (JW p l e R s m args below meth c nL ca sl Q D cA ad A L) := by
  obtain ⟨hx, hb, hml, hown, hts, hK, had, hE, hL, htab, hfd, hkL, hkI, hsg, hnt, hcl, hR1, hR2, hRc, hRs⟩ := F
  intro pc q lp st M x y h1 h2 k
  have hdg := htab _ (lk_mem h1)
  subst h2
  intro H locs ls hP hS hl
  exact lv_imul hx hb hdg (by have := k H locs ls hP hS hl; simp only [List.map_cons, vp] at this; rw [Int32.ofInt_mul] at this; exact this)
set_option maxHeartbeats 1000000 in
theorem s_idiv {X : Sx} {L : Nat} {scr : Int → Int} {p : Program} {l : Launch} {e : Env} {R : Room} {s : State} {m : MethodId} {args : Array Value} {below : List Frame} {meth : Method} {c : Code} {own : String} {cc : ByteArray} {nL ca sl : Nat} {Q : State → Prop} {D : va_G} {cA : Nat → ClassId} {ad : Nat → Nat} {A : Nat → Prop} (F : Fx X L scr p s m args c own cc nL R ca sl D cA ad A) : k_idiv X L (xcF scr) (JW p l e R s m args below meth c nL ca sl Q D cA ad A L) := by
  obtain ⟨hx, hb, hml, hown, hts, hK, had, hE, hL, htab, hfd, hkL, hkI, hsg, hnt, hcl, hR1, hR2, hRc, hRs⟩ := F
  intro pc q lp st M x y h1 h2 h3 k
  have hdg := htab _ (lk_mem h1)
  subst h2
  intro H locs ls hP hS hl
  exact lv_idiv hx hb hdg (fun e => h3.2 ((of_eq h3.1 ⟨by decide, by decide⟩).mp e)) (by have := k H locs ls hP hS hl; simp only [List.map_cons, vp, i32div, of_i32] at this; exact this)
set_option maxHeartbeats 1000000 in
theorem s_irem {X : Sx} {L : Nat} {scr : Int → Int} {p : Program} {l : Launch} {e : Env} {R : Room} {s : State} {m : MethodId} {args : Array Value} {below : List Frame} {meth : Method} {c : Code} {own : String} {cc : ByteArray} {nL ca sl : Nat} {Q : State → Prop} {D : va_G} {cA : Nat → ClassId} {ad : Nat → Nat} {A : Nat → Prop} (F : Fx X L scr p s m args c own cc nL R ca sl D cA ad A) : k_irem X L (xcF scr) (JW p l e R s m args below meth c nL ca sl Q D cA ad A L) := by
  obtain ⟨hx, hb, hml, hown, hts, hK, had, hE, hL, htab, hfd, hkL, hkI, hsg, hnt, hcl, hR1, hR2, hRc, hRs⟩ := F
  intro pc q lp st M x y h1 h2 h3 k
  have hdg := htab _ (lk_mem h1)
  subst h2
  intro H locs ls hP hS hl
  exact lv_irem hx hb hdg (fun e => h3.2 ((of_eq h3.1 ⟨by decide, by decide⟩).mp e)) (by have := k H locs ls hP hS hl; simp only [List.map_cons, vp, i32rem, of_i32] at this; exact this)
set_option maxHeartbeats 1000000 in
theorem s_ineg {X : Sx} {L : Nat} {scr : Int → Int} {p : Program} {l : Launch} {e : Env} {R : Room} {s : State} {m : MethodId} {args : Array Value} {below : List Frame} {meth : Method} {c : Code} {own : String} {cc : ByteArray} {nL ca sl : Nat} {Q : State → Prop} {D : va_G} {cA : Nat → ClassId} {ad : Nat → Nat} {A : Nat → Prop} (F : Fx X L scr p s m args c own cc nL R ca sl D cA ad A) : k_ineg X L (xcF scr) (JW p l e R s m args below meth c nL ca sl Q D cA ad A L) := by
  obtain ⟨hx, hb, hml, hown, hts, hK, had, hE, hL, htab, hfd, hkL, hkI, hsg, hnt, hcl, hR1, hR2, hRc, hRs⟩ := F
  intro pc q lp st M x h1 h2 k
  have hdg := htab _ (lk_mem h1)
  subst h2
  intro H locs ls hP hS hl
  exact lv_ineg hx hb hdg (by have := k H locs ls hP hS hl; simp only [List.map_cons, vp] at this; rw [Int32.ofInt_neg] at this; exact this)
set_option maxHeartbeats 1000000 in
theorem s_ishl {X : Sx} {L : Nat} {scr : Int → Int} {p : Program} {l : Launch} {e : Env} {R : Room} {s : State} {m : MethodId} {args : Array Value} {below : List Frame} {meth : Method} {c : Code} {own : String} {cc : ByteArray} {nL ca sl : Nat} {Q : State → Prop} {D : va_G} {cA : Nat → ClassId} {ad : Nat → Nat} {A : Nat → Prop} (F : Fx X L scr p s m args c own cc nL R ca sl D cA ad A) : k_ishl X L (xcF scr) (JW p l e R s m args below meth c nL ca sl Q D cA ad A L) := by
  obtain ⟨hx, hb, hml, hown, hts, hK, had, hE, hL, htab, hfd, hkL, hkI, hsg, hnt, hcl, hR1, hR2, hRc, hRs⟩ := F
  intro pc q lp st M x y h1 h2 k
  have hdg := htab _ (lk_mem h1)
  subst h2
  intro H locs ls hP hS hl
  exact lv_ishl hx hb hdg  (by have := k H locs ls hP hS hl; simp only [List.map_cons, vp, xishl, of_i32] at this; exact this)
set_option maxHeartbeats 1000000 in
theorem s_ishr {X : Sx} {L : Nat} {scr : Int → Int} {p : Program} {l : Launch} {e : Env} {R : Room} {s : State} {m : MethodId} {args : Array Value} {below : List Frame} {meth : Method} {c : Code} {own : String} {cc : ByteArray} {nL ca sl : Nat} {Q : State → Prop} {D : va_G} {cA : Nat → ClassId} {ad : Nat → Nat} {A : Nat → Prop} (F : Fx X L scr p s m args c own cc nL R ca sl D cA ad A) : k_ishr X L (xcF scr) (JW p l e R s m args below meth c nL ca sl Q D cA ad A L) := by
  obtain ⟨hx, hb, hml, hown, hts, hK, had, hE, hL, htab, hfd, hkL, hkI, hsg, hnt, hcl, hR1, hR2, hRc, hRs⟩ := F
  intro pc q lp st M x y h1 h2 k
  have hdg := htab _ (lk_mem h1)
  subst h2
  intro H locs ls hP hS hl
  exact lv_ishr hx hb hdg  (by have := k H locs ls hP hS hl; simp only [List.map_cons, vp, xishr, of_i32] at this; exact this)
set_option maxHeartbeats 1000000 in
theorem s_iand {X : Sx} {L : Nat} {scr : Int → Int} {p : Program} {l : Launch} {e : Env} {R : Room} {s : State} {m : MethodId} {args : Array Value} {below : List Frame} {meth : Method} {c : Code} {own : String} {cc : ByteArray} {nL ca sl : Nat} {Q : State → Prop} {D : va_G} {cA : Nat → ClassId} {ad : Nat → Nat} {A : Nat → Prop} (F : Fx X L scr p s m args c own cc nL R ca sl D cA ad A) : k_iand X L (xcF scr) (JW p l e R s m args below meth c nL ca sl Q D cA ad A L) := by
  obtain ⟨hx, hb, hml, hown, hts, hK, had, hE, hL, htab, hfd, hkL, hkI, hsg, hnt, hcl, hR1, hR2, hRc, hRs⟩ := F
  intro pc q lp st M x y h1 h2 k
  have hdg := htab _ (lk_mem h1)
  subst h2
  intro H locs ls hP hS hl
  exact lv_iand hx hb hdg  (by have := k H locs ls hP hS hl; simp only [List.map_cons, vp, xiand, of_i32] at this; exact this)
set_option maxHeartbeats 1000000 in
theorem s_ior {X : Sx} {L : Nat} {scr : Int → Int} {p : Program} {l : Launch} {e : Env} {R : Room} {s : State} {m : MethodId} {args : Array Value} {below : List Frame} {meth : Method} {c : Code} {own : String} {cc : ByteArray} {nL ca sl : Nat} {Q : State → Prop} {D : va_G} {cA : Nat → ClassId} {ad : Nat → Nat} {A : Nat → Prop} (F : Fx X L scr p s m args c own cc nL R ca sl D cA ad A) : k_ior X L (xcF scr) (JW p l e R s m args below meth c nL ca sl Q D cA ad A L) := by
  obtain ⟨hx, hb, hml, hown, hts, hK, had, hE, hL, htab, hfd, hkL, hkI, hsg, hnt, hcl, hR1, hR2, hRc, hRs⟩ := F
  intro pc q lp st M x y h1 h2 k
  have hdg := htab _ (lk_mem h1)
  subst h2
  intro H locs ls hP hS hl
  exact lv_ior hx hb hdg  (by have := k H locs ls hP hS hl; simp only [List.map_cons, vp, xior, of_i32] at this; exact this)
set_option maxHeartbeats 1000000 in
theorem s_ixor {X : Sx} {L : Nat} {scr : Int → Int} {p : Program} {l : Launch} {e : Env} {R : Room} {s : State} {m : MethodId} {args : Array Value} {below : List Frame} {meth : Method} {c : Code} {own : String} {cc : ByteArray} {nL ca sl : Nat} {Q : State → Prop} {D : va_G} {cA : Nat → ClassId} {ad : Nat → Nat} {A : Nat → Prop} (F : Fx X L scr p s m args c own cc nL R ca sl D cA ad A) : k_ixor X L (xcF scr) (JW p l e R s m args below meth c nL ca sl Q D cA ad A L) := by
  obtain ⟨hx, hb, hml, hown, hts, hK, had, hE, hL, htab, hfd, hkL, hkI, hsg, hnt, hcl, hR1, hR2, hRc, hRs⟩ := F
  intro pc q lp st M x y h1 h2 k
  have hdg := htab _ (lk_mem h1)
  subst h2
  intro H locs ls hP hS hl
  exact lv_ixor hx hb hdg  (by have := k H locs ls hP hS hl; simp only [List.map_cons, vp, xixor, of_i32] at this; exact this)
set_option maxHeartbeats 1000000 in
theorem s_iushr {X : Sx} {L : Nat} {scr : Int → Int} {p : Program} {l : Launch} {e : Env} {R : Room} {s : State} {m : MethodId} {args : Array Value} {below : List Frame} {meth : Method} {c : Code} {own : String} {cc : ByteArray} {nL ca sl : Nat} {Q : State → Prop} {D : va_G} {cA : Nat → ClassId} {ad : Nat → Nat} {A : Nat → Prop} (F : Fx X L scr p s m args c own cc nL R ca sl D cA ad A) : k_iushr X L (xcF scr) (JW p l e R s m args below meth c nL ca sl Q D cA ad A L) := by
  obtain ⟨hx, hb, hml, hown, hts, hK, had, hE, hL, htab, hfd, hkL, hkI, hsg, hnt, hcl, hR1, hR2, hRc, hRs⟩ := F
  intro pc q lp st M x y h1 h2 k
  have hdg := htab _ (lk_mem h1)
  subst h2
  intro H locs ls hP hS hl
  exact lv_iushr hx hb hdg rfl (by have := k H locs ls hP hS hl; simp only [List.map_cons, vp, xiushr, of_i32] at this; exact this)
set_option maxHeartbeats 1000000 in
theorem s_land {X : Sx} {L : Nat} {scr : Int → Int} {p : Program} {l : Launch} {e : Env} {R : Room} {s : State} {m : MethodId} {args : Array Value} {below : List Frame} {meth : Method} {c : Code} {own : String} {cc : ByteArray} {nL ca sl : Nat} {Q : State → Prop} {D : va_G} {cA : Nat → ClassId} {ad : Nat → Nat} {A : Nat → Prop} (F : Fx X L scr p s m args c own cc nL R ca sl D cA ad A) : k_land X L (xcF scr) (JW p l e R s m args below meth c nL ca sl Q D cA ad A L) := by
  obtain ⟨hx, hb, hml, hown, hts, hK, had, hE, hL, htab, hfd, hkL, hkI, hsg, hnt, hcl, hR1, hR2, hRc, hRs⟩ := F
  intro pc q lp st M x y h1 h2 k
  have hdg := htab _ (lk_mem h1)
  subst h2
  intro H locs ls hP hS hl
  exact lv_land hx hb hdg (by have := k H locs ls hP hS hl; simp only [List.map_cons, vp, xland, of_i64] at this; exact this)
set_option maxHeartbeats 1000000 in
theorem s_lor {X : Sx} {L : Nat} {scr : Int → Int} {p : Program} {l : Launch} {e : Env} {R : Room} {s : State} {m : MethodId} {args : Array Value} {below : List Frame} {meth : Method} {c : Code} {own : String} {cc : ByteArray} {nL ca sl : Nat} {Q : State → Prop} {D : va_G} {cA : Nat → ClassId} {ad : Nat → Nat} {A : Nat → Prop} (F : Fx X L scr p s m args c own cc nL R ca sl D cA ad A) : k_lor X L (xcF scr) (JW p l e R s m args below meth c nL ca sl Q D cA ad A L) := by
  obtain ⟨hx, hb, hml, hown, hts, hK, had, hE, hL, htab, hfd, hkL, hkI, hsg, hnt, hcl, hR1, hR2, hRc, hRs⟩ := F
  intro pc q lp st M x y h1 h2 k
  have hdg := htab _ (lk_mem h1)
  subst h2
  intro H locs ls hP hS hl
  exact lv_lor hx hb hdg (by have := k H locs ls hP hS hl; simp only [List.map_cons, vp, xlor, of_i64] at this; exact this)
set_option maxHeartbeats 1000000 in
theorem s_lushr {X : Sx} {L : Nat} {scr : Int → Int} {p : Program} {l : Launch} {e : Env} {R : Room} {s : State} {m : MethodId} {args : Array Value} {below : List Frame} {meth : Method} {c : Code} {own : String} {cc : ByteArray} {nL ca sl : Nat} {Q : State → Prop} {D : va_G} {cA : Nat → ClassId} {ad : Nat → Nat} {A : Nat → Prop} (F : Fx X L scr p s m args c own cc nL R ca sl D cA ad A) : k_lushr X L (xcF scr) (JW p l e R s m args below meth c nL ca sl Q D cA ad A L) := by
  obtain ⟨hx, hb, hml, hown, hts, hK, had, hE, hL, htab, hfd, hkL, hkI, hsg, hnt, hcl, hR1, hR2, hRc, hRs⟩ := F
  intro pc q lp st M x y h1 h2 k
  have hdg := htab _ (lk_mem h1)
  subst h2
  intro H locs ls hP hS hl
  exact lv_lushr hx hb hdg rfl (by have := k H locs ls hP hS hl; simp only [List.map_cons, vp, xlushr, of_i64] at this; exact this)
set_option maxHeartbeats 1000000 in
theorem s_lshl {X : Sx} {L : Nat} {scr : Int → Int} {p : Program} {l : Launch} {e : Env} {R : Room} {s : State} {m : MethodId} {args : Array Value} {below : List Frame} {meth : Method} {c : Code} {own : String} {cc : ByteArray} {nL ca sl : Nat} {Q : State → Prop} {D : va_G} {cA : Nat → ClassId} {ad : Nat → Nat} {A : Nat → Prop} (F : Fx X L scr p s m args c own cc nL R ca sl D cA ad A) : k_lshl X L (xcF scr) (JW p l e R s m args below meth c nL ca sl Q D cA ad A L) := by
  obtain ⟨hx, hb, hml, hown, hts, hK, had, hE, hL, htab, hfd, hkL, hkI, hsg, hnt, hcl, hR1, hR2, hRc, hRs⟩ := F
  intro pc q lp st M x y h1 h2 k
  have hdg := htab _ (lk_mem h1)
  subst h2
  intro H locs ls hP hS hl
  exact lv_lshl hx hb hdg rfl (by have := k H locs ls hP hS hl; simp only [List.map_cons, vp, xlshl, of_i64] at this; exact this)
set_option maxHeartbeats 1000000 in
theorem s_i2l {X : Sx} {L : Nat} {scr : Int → Int} {p : Program} {l : Launch} {e : Env} {R : Room} {s : State} {m : MethodId} {args : Array Value} {below : List Frame} {meth : Method} {c : Code} {own : String} {cc : ByteArray} {nL ca sl : Nat} {Q : State → Prop} {D : va_G} {cA : Nat → ClassId} {ad : Nat → Nat} {A : Nat → Prop} (F : Fx X L scr p s m args c own cc nL R ca sl D cA ad A) : k_i2l X L (xcF scr) (JW p l e R s m args below meth c nL ca sl Q D cA ad A L) := by
  obtain ⟨hx, hb, hml, hown, hts, hK, had, hE, hL, htab, hfd, hkL, hkI, hsg, hnt, hcl, hR1, hR2, hRc, hRs⟩ := F
  intro pc q lp st M x h1 h2 h3 k
  have hdg := htab _ (lk_mem h1)
  subst h2
  intro H locs ls hP hS hl
  exact lv_i2l hx hb hdg (of_i2l h3) (k H locs ls hP hS hl)
set_option maxHeartbeats 1000000 in
theorem s_l2i {X : Sx} {L : Nat} {scr : Int → Int} {p : Program} {l : Launch} {e : Env} {R : Room} {s : State} {m : MethodId} {args : Array Value} {below : List Frame} {meth : Method} {c : Code} {own : String} {cc : ByteArray} {nL ca sl : Nat} {Q : State → Prop} {D : va_G} {cA : Nat → ClassId} {ad : Nat → Nat} {A : Nat → Prop} (F : Fx X L scr p s m args c own cc nL R ca sl D cA ad A) : k_l2i X L (xcF scr) (JW p l e R s m args below meth c nL ca sl Q D cA ad A L) := by
  obtain ⟨hx, hb, hml, hown, hts, hK, had, hE, hL, htab, hfd, hkL, hkI, hsg, hnt, hcl, hR1, hR2, hRc, hRs⟩ := F
  intro pc q lp st M x h1 h2 h3 k
  have hdg := htab _ (lk_mem h1)
  subst h2
  intro H locs ls hP hS hl
  exact lv_l2i hx hb hdg (of_l2i h3) (k H locs ls hP hS hl)
set_option maxHeartbeats 1000000 in
theorem s_i2c {X : Sx} {L : Nat} {scr : Int → Int} {p : Program} {l : Launch} {e : Env} {R : Room} {s : State} {m : MethodId} {args : Array Value} {below : List Frame} {meth : Method} {c : Code} {own : String} {cc : ByteArray} {nL ca sl : Nat} {Q : State → Prop} {D : va_G} {cA : Nat → ClassId} {ad : Nat → Nat} {A : Nat → Prop} (F : Fx X L scr p s m args c own cc nL R ca sl D cA ad A) : k_i2c X L (xcF scr) (JW p l e R s m args below meth c nL ca sl Q D cA ad A L) := by
  obtain ⟨hx, hb, hml, hown, hts, hK, had, hE, hL, htab, hfd, hkL, hkI, hsg, hnt, hcl, hR1, hR2, hRc, hRs⟩ := F
  intro pc q lp st M x h1 h2 h3 k
  have hdg := htab _ (lk_mem h1)
  subst h2
  intro H locs ls hP hS hl
  exact lv_i2c hx hb hdg (of_i2c h3) (k H locs ls hP hS hl)
set_option maxHeartbeats 1000000 in
theorem s_lcmp {X : Sx} {L : Nat} {scr : Int → Int} {p : Program} {l : Launch} {e : Env} {R : Room} {s : State} {m : MethodId} {args : Array Value} {below : List Frame} {meth : Method} {c : Code} {own : String} {cc : ByteArray} {nL ca sl : Nat} {Q : State → Prop} {D : va_G} {cA : Nat → ClassId} {ad : Nat → Nat} {A : Nat → Prop} (F : Fx X L scr p s m args c own cc nL R ca sl D cA ad A) : k_lcmp X L (xcF scr) (JW p l e R s m args below meth c nL ca sl Q D cA ad A L) := by
  obtain ⟨hx, hb, hml, hown, hts, hK, had, hE, hL, htab, hfd, hkL, hkI, hsg, hnt, hcl, hR1, hR2, hRc, hRs⟩ := F
  intro pc q lp st M x y h1 h2 h3 h4 k
  have hdg := htab _ (lk_mem h1)
  subst h2
  intro H locs ls hP hS hl
  exact W.lcmp hx hb hdg (by have := k H locs ls hP hS hl; simp only [List.map_cons, vp] at this; rw [of_lcmp h3 h4]; exact this)
set_option maxHeartbeats 1000000 in
theorem s_dup {X : Sx} {L : Nat} {scr : Int → Int} {p : Program} {l : Launch} {e : Env} {R : Room} {s : State} {m : MethodId} {args : Array Value} {below : List Frame} {meth : Method} {c : Code} {own : String} {cc : ByteArray} {nL ca sl : Nat} {Q : State → Prop} {D : va_G} {cA : Nat → ClassId} {ad : Nat → Nat} {A : Nat → Prop} (F : Fx X L scr p s m args c own cc nL R ca sl D cA ad A) : k_dup X L (xcF scr) (JW p l e R s m args below meth c nL ca sl Q D cA ad A L) := by
  obtain ⟨hx, hb, hml, hown, hts, hK, had, hE, hL, htab, hfd, hkL, hkI, hsg, hnt, hcl, hR1, hR2, hRc, hRs⟩ := F
  intro pc q lp st M x h1 h2 h3 k
  have hdg := htab _ (lk_mem h1)
  subst h2
  intro H locs ls hP hS hl
  exact lv_dup hx hb hdg (cat1 ad h3) (k H locs ls hP hS hl)
set_option maxHeartbeats 1000000 in
theorem s_dup2 {X : Sx} {L : Nat} {scr : Int → Int} {p : Program} {l : Launch} {e : Env} {R : Room} {s : State} {m : MethodId} {args : Array Value} {below : List Frame} {meth : Method} {c : Code} {own : String} {cc : ByteArray} {nL ca sl : Nat} {Q : State → Prop} {D : va_G} {cA : Nat → ClassId} {ad : Nat → Nat} {A : Nat → Prop} (F : Fx X L scr p s m args c own cc nL R ca sl D cA ad A) : k_dup2 X L (xcF scr) (JW p l e R s m args below meth c nL ca sl Q D cA ad A L) := by
  obtain ⟨hx, hb, hml, hown, hts, hK, had, hE, hL, htab, hfd, hkL, hkI, hsg, hnt, hcl, hR1, hR2, hRc, hRs⟩ := F
  intro pc q lp st M x y h1 h2 h3 h4 k
  have hdg := htab _ (lk_mem h1)
  subst h2
  intro H locs ls hP hS hl
  exact lv_dup2_11 hx hb hdg (cat1 ad h4) (cat1 ad h3) (k H locs ls hP hS hl)
set_option maxHeartbeats 1000000 in
theorem s_pop {X : Sx} {L : Nat} {scr : Int → Int} {p : Program} {l : Launch} {e : Env} {R : Room} {s : State} {m : MethodId} {args : Array Value} {below : List Frame} {meth : Method} {c : Code} {own : String} {cc : ByteArray} {nL ca sl : Nat} {Q : State → Prop} {D : va_G} {cA : Nat → ClassId} {ad : Nat → Nat} {A : Nat → Prop} (F : Fx X L scr p s m args c own cc nL R ca sl D cA ad A) : k_pop X L (xcF scr) (JW p l e R s m args below meth c nL ca sl Q D cA ad A L) := by
  obtain ⟨hx, hb, hml, hown, hts, hK, had, hE, hL, htab, hfd, hkL, hkI, hsg, hnt, hcl, hR1, hR2, hRc, hRs⟩ := F
  intro pc q lp st M x h1 h2 h3 k
  have hdg := htab _ (lk_mem h1)
  subst h2
  intro H locs ls hP hS hl
  exact lv_pop hx hb hdg (cat1 ad h3) (k H locs ls hP hS hl)
set_option maxHeartbeats 1000000 in
theorem s_icmp_eq {X : Sx} {L : Nat} {scr : Int → Int} {p : Program} {l : Launch} {e : Env} {R : Room} {s : State} {m : MethodId} {args : Array Value} {below : List Frame} {meth : Method} {c : Code} {own : String} {cc : ByteArray} {nL ca sl : Nat} {Q : State → Prop} {D : va_G} {cA : Nat → ClassId} {ad : Nat → Nat} {A : Nat → Prop} (F : Fx X L scr p s m args c own cc nL R ca sl D cA ad A) : k_icmp_eq X L (xcF scr) (JW p l e R s m args below meth c nL ca sl Q D cA ad A L) := by
  obtain ⟨hx, hb, hml, hown, hts, hK, had, hE, hL, htab, hfd, hkL, hkI, hsg, hnt, hcl, hR1, hR2, hRc, hRs⟩ := F
  intro pc q lp st M x y off tgt h1 h2 h3 h4 h5 k
  have hdg := htab _ (lk_mem h1)
  subst h2
  intro H locs ls hP hS hl
  exact lv_icmp_eq hx hb hdg h3 (fun z => k.1 ((of_eq h4 h5).mp z) H locs ls hP hS hl) (fun z => k.2 (fun e => z ((of_eq h4 h5).mpr e)) H locs ls hP hS hl)
set_option maxHeartbeats 1000000 in
theorem s_if_eq {X : Sx} {L : Nat} {scr : Int → Int} {p : Program} {l : Launch} {e : Env} {R : Room} {s : State} {m : MethodId} {args : Array Value} {below : List Frame} {meth : Method} {c : Code} {own : String} {cc : ByteArray} {nL ca sl : Nat} {Q : State → Prop} {D : va_G} {cA : Nat → ClassId} {ad : Nat → Nat} {A : Nat → Prop} (F : Fx X L scr p s m args c own cc nL R ca sl D cA ad A) : k_if_eq X L (xcF scr) (JW p l e R s m args below meth c nL ca sl Q D cA ad A L) := by
  obtain ⟨hx, hb, hml, hown, hts, hK, had, hE, hL, htab, hfd, hkL, hkI, hsg, hnt, hcl, hR1, hR2, hRc, hRs⟩ := F
  intro pc q lp st M x off tgt h1 h2 h3 h4 k
  have hdg := htab _ (lk_mem h1)
  subst h2
  intro H locs ls hP hS hl
  exact lv_if_eq hx hb hdg h3 (fun z => k.1 ((of_eq h4 ⟨by decide, by decide⟩).mp z) H locs ls hP hS hl) (fun z => k.2 (fun e => z ((of_eq h4 ⟨by decide, by decide⟩).mpr e)) H locs ls hP hS hl)
set_option maxHeartbeats 1000000 in
theorem s_icmp_ne {X : Sx} {L : Nat} {scr : Int → Int} {p : Program} {l : Launch} {e : Env} {R : Room} {s : State} {m : MethodId} {args : Array Value} {below : List Frame} {meth : Method} {c : Code} {own : String} {cc : ByteArray} {nL ca sl : Nat} {Q : State → Prop} {D : va_G} {cA : Nat → ClassId} {ad : Nat → Nat} {A : Nat → Prop} (F : Fx X L scr p s m args c own cc nL R ca sl D cA ad A) : k_icmp_ne X L (xcF scr) (JW p l e R s m args below meth c nL ca sl Q D cA ad A L) := by
  obtain ⟨hx, hb, hml, hown, hts, hK, had, hE, hL, htab, hfd, hkL, hkI, hsg, hnt, hcl, hR1, hR2, hRc, hRs⟩ := F
  intro pc q lp st M x y off tgt h1 h2 h3 h4 h5 k
  have hdg := htab _ (lk_mem h1)
  subst h2
  intro H locs ls hP hS hl
  exact lv_icmp_ne hx hb hdg h3 (fun z => k.1 (fun e => z ((of_eq h4 h5).mpr e)) H locs ls hP hS hl) (fun z => k.2 (fun g => g ((of_eq h4 h5).mp z)) H locs ls hP hS hl)
set_option maxHeartbeats 1000000 in
theorem s_if_ne {X : Sx} {L : Nat} {scr : Int → Int} {p : Program} {l : Launch} {e : Env} {R : Room} {s : State} {m : MethodId} {args : Array Value} {below : List Frame} {meth : Method} {c : Code} {own : String} {cc : ByteArray} {nL ca sl : Nat} {Q : State → Prop} {D : va_G} {cA : Nat → ClassId} {ad : Nat → Nat} {A : Nat → Prop} (F : Fx X L scr p s m args c own cc nL R ca sl D cA ad A) : k_if_ne X L (xcF scr) (JW p l e R s m args below meth c nL ca sl Q D cA ad A L) := by
  obtain ⟨hx, hb, hml, hown, hts, hK, had, hE, hL, htab, hfd, hkL, hkI, hsg, hnt, hcl, hR1, hR2, hRc, hRs⟩ := F
  intro pc q lp st M x off tgt h1 h2 h3 h4 k
  have hdg := htab _ (lk_mem h1)
  subst h2
  intro H locs ls hP hS hl
  exact lv_if_ne hx hb hdg h3 (fun z => k.1 (fun e => z ((of_eq h4 ⟨by decide, by decide⟩).mpr e)) H locs ls hP hS hl) (fun z => k.2 (fun g => g ((of_eq h4 ⟨by decide, by decide⟩).mp z)) H locs ls hP hS hl)
set_option maxHeartbeats 1000000 in
theorem s_icmp_lt {X : Sx} {L : Nat} {scr : Int → Int} {p : Program} {l : Launch} {e : Env} {R : Room} {s : State} {m : MethodId} {args : Array Value} {below : List Frame} {meth : Method} {c : Code} {own : String} {cc : ByteArray} {nL ca sl : Nat} {Q : State → Prop} {D : va_G} {cA : Nat → ClassId} {ad : Nat → Nat} {A : Nat → Prop} (F : Fx X L scr p s m args c own cc nL R ca sl D cA ad A) : k_icmp_lt X L (xcF scr) (JW p l e R s m args below meth c nL ca sl Q D cA ad A L) := by
  obtain ⟨hx, hb, hml, hown, hts, hK, had, hE, hL, htab, hfd, hkL, hkI, hsg, hnt, hcl, hR1, hR2, hRc, hRs⟩ := F
  intro pc q lp st M x y off tgt h1 h2 h3 h4 h5 k
  have hdg := htab _ (lk_mem h1)
  subst h2
  intro H locs ls hP hS hl
  exact lv_icmp_lt hx hb hdg h3 (fun z => k.1 ((of_lt h4 h5).mp z) H locs ls hP hS hl) (fun z => k.2 (fun e => z ((of_lt h4 h5).mpr e)) H locs ls hP hS hl)
set_option maxHeartbeats 1000000 in
theorem s_if_lt {X : Sx} {L : Nat} {scr : Int → Int} {p : Program} {l : Launch} {e : Env} {R : Room} {s : State} {m : MethodId} {args : Array Value} {below : List Frame} {meth : Method} {c : Code} {own : String} {cc : ByteArray} {nL ca sl : Nat} {Q : State → Prop} {D : va_G} {cA : Nat → ClassId} {ad : Nat → Nat} {A : Nat → Prop} (F : Fx X L scr p s m args c own cc nL R ca sl D cA ad A) : k_if_lt X L (xcF scr) (JW p l e R s m args below meth c nL ca sl Q D cA ad A L) := by
  obtain ⟨hx, hb, hml, hown, hts, hK, had, hE, hL, htab, hfd, hkL, hkI, hsg, hnt, hcl, hR1, hR2, hRc, hRs⟩ := F
  intro pc q lp st M x off tgt h1 h2 h3 h4 k
  have hdg := htab _ (lk_mem h1)
  subst h2
  intro H locs ls hP hS hl
  exact lv_if_lt hx hb hdg h3 (fun z => k.1 ((of_lt h4 ⟨by decide, by decide⟩).mp z) H locs ls hP hS hl) (fun z => k.2 (fun e => z ((of_lt h4 ⟨by decide, by decide⟩).mpr e)) H locs ls hP hS hl)
set_option maxHeartbeats 1000000 in
theorem s_icmp_ge {X : Sx} {L : Nat} {scr : Int → Int} {p : Program} {l : Launch} {e : Env} {R : Room} {s : State} {m : MethodId} {args : Array Value} {below : List Frame} {meth : Method} {c : Code} {own : String} {cc : ByteArray} {nL ca sl : Nat} {Q : State → Prop} {D : va_G} {cA : Nat → ClassId} {ad : Nat → Nat} {A : Nat → Prop} (F : Fx X L scr p s m args c own cc nL R ca sl D cA ad A) : k_icmp_ge X L (xcF scr) (JW p l e R s m args below meth c nL ca sl Q D cA ad A L) := by
  obtain ⟨hx, hb, hml, hown, hts, hK, had, hE, hL, htab, hfd, hkL, hkI, hsg, hnt, hcl, hR1, hR2, hRc, hRs⟩ := F
  intro pc q lp st M x y off tgt h1 h2 h3 h4 h5 k
  have hdg := htab _ (lk_mem h1)
  subst h2
  intro H locs ls hP hS hl
  exact lv_icmp_ge hx hb hdg h3 (fun z => k.1 ((of_le h5 h4).mp z) H locs ls hP hS hl) (fun z => k.2 (fun e => z ((of_le h5 h4).mpr e)) H locs ls hP hS hl)
set_option maxHeartbeats 1000000 in
theorem s_if_ge {X : Sx} {L : Nat} {scr : Int → Int} {p : Program} {l : Launch} {e : Env} {R : Room} {s : State} {m : MethodId} {args : Array Value} {below : List Frame} {meth : Method} {c : Code} {own : String} {cc : ByteArray} {nL ca sl : Nat} {Q : State → Prop} {D : va_G} {cA : Nat → ClassId} {ad : Nat → Nat} {A : Nat → Prop} (F : Fx X L scr p s m args c own cc nL R ca sl D cA ad A) : k_if_ge X L (xcF scr) (JW p l e R s m args below meth c nL ca sl Q D cA ad A L) := by
  obtain ⟨hx, hb, hml, hown, hts, hK, had, hE, hL, htab, hfd, hkL, hkI, hsg, hnt, hcl, hR1, hR2, hRc, hRs⟩ := F
  intro pc q lp st M x off tgt h1 h2 h3 h4 k
  have hdg := htab _ (lk_mem h1)
  subst h2
  intro H locs ls hP hS hl
  exact lv_if_ge hx hb hdg h3 (fun z => k.1 ((of_le ⟨by decide, by decide⟩ h4).mp z) H locs ls hP hS hl) (fun z => k.2 (fun e => z ((of_le ⟨by decide, by decide⟩ h4).mpr e)) H locs ls hP hS hl)
set_option maxHeartbeats 1000000 in
theorem s_icmp_gt {X : Sx} {L : Nat} {scr : Int → Int} {p : Program} {l : Launch} {e : Env} {R : Room} {s : State} {m : MethodId} {args : Array Value} {below : List Frame} {meth : Method} {c : Code} {own : String} {cc : ByteArray} {nL ca sl : Nat} {Q : State → Prop} {D : va_G} {cA : Nat → ClassId} {ad : Nat → Nat} {A : Nat → Prop} (F : Fx X L scr p s m args c own cc nL R ca sl D cA ad A) : k_icmp_gt X L (xcF scr) (JW p l e R s m args below meth c nL ca sl Q D cA ad A L) := by
  obtain ⟨hx, hb, hml, hown, hts, hK, had, hE, hL, htab, hfd, hkL, hkI, hsg, hnt, hcl, hR1, hR2, hRc, hRs⟩ := F
  intro pc q lp st M x y off tgt h1 h2 h3 h4 h5 k
  have hdg := htab _ (lk_mem h1)
  subst h2
  intro H locs ls hP hS hl
  exact lv_icmp_gt hx hb hdg h3 (fun z => k.1 ((of_lt h5 h4).mp z) H locs ls hP hS hl) (fun z => k.2 (fun e => z ((of_lt h5 h4).mpr e)) H locs ls hP hS hl)
set_option maxHeartbeats 1000000 in
theorem s_if_gt {X : Sx} {L : Nat} {scr : Int → Int} {p : Program} {l : Launch} {e : Env} {R : Room} {s : State} {m : MethodId} {args : Array Value} {below : List Frame} {meth : Method} {c : Code} {own : String} {cc : ByteArray} {nL ca sl : Nat} {Q : State → Prop} {D : va_G} {cA : Nat → ClassId} {ad : Nat → Nat} {A : Nat → Prop} (F : Fx X L scr p s m args c own cc nL R ca sl D cA ad A) : k_if_gt X L (xcF scr) (JW p l e R s m args below meth c nL ca sl Q D cA ad A L) := by
  obtain ⟨hx, hb, hml, hown, hts, hK, had, hE, hL, htab, hfd, hkL, hkI, hsg, hnt, hcl, hR1, hR2, hRc, hRs⟩ := F
  intro pc q lp st M x off tgt h1 h2 h3 h4 k
  have hdg := htab _ (lk_mem h1)
  subst h2
  intro H locs ls hP hS hl
  exact lv_if_gt hx hb hdg h3 (fun z => k.1 ((of_lt ⟨by decide, by decide⟩ h4).mp z) H locs ls hP hS hl) (fun z => k.2 (fun e => z ((of_lt ⟨by decide, by decide⟩ h4).mpr e)) H locs ls hP hS hl)
set_option maxHeartbeats 1000000 in
theorem s_icmp_le {X : Sx} {L : Nat} {scr : Int → Int} {p : Program} {l : Launch} {e : Env} {R : Room} {s : State} {m : MethodId} {args : Array Value} {below : List Frame} {meth : Method} {c : Code} {own : String} {cc : ByteArray} {nL ca sl : Nat} {Q : State → Prop} {D : va_G} {cA : Nat → ClassId} {ad : Nat → Nat} {A : Nat → Prop} (F : Fx X L scr p s m args c own cc nL R ca sl D cA ad A) : k_icmp_le X L (xcF scr) (JW p l e R s m args below meth c nL ca sl Q D cA ad A L) := by
  obtain ⟨hx, hb, hml, hown, hts, hK, had, hE, hL, htab, hfd, hkL, hkI, hsg, hnt, hcl, hR1, hR2, hRc, hRs⟩ := F
  intro pc q lp st M x y off tgt h1 h2 h3 h4 h5 k
  have hdg := htab _ (lk_mem h1)
  subst h2
  intro H locs ls hP hS hl
  exact lv_icmp_le hx hb hdg h3 (fun z => k.1 ((of_le h4 h5).mp z) H locs ls hP hS hl) (fun z => k.2 (fun e => z ((of_le h4 h5).mpr e)) H locs ls hP hS hl)
set_option maxHeartbeats 1000000 in
theorem s_if_le {X : Sx} {L : Nat} {scr : Int → Int} {p : Program} {l : Launch} {e : Env} {R : Room} {s : State} {m : MethodId} {args : Array Value} {below : List Frame} {meth : Method} {c : Code} {own : String} {cc : ByteArray} {nL ca sl : Nat} {Q : State → Prop} {D : va_G} {cA : Nat → ClassId} {ad : Nat → Nat} {A : Nat → Prop} (F : Fx X L scr p s m args c own cc nL R ca sl D cA ad A) : k_if_le X L (xcF scr) (JW p l e R s m args below meth c nL ca sl Q D cA ad A L) := by
  obtain ⟨hx, hb, hml, hown, hts, hK, had, hE, hL, htab, hfd, hkL, hkI, hsg, hnt, hcl, hR1, hR2, hRc, hRs⟩ := F
  intro pc q lp st M x off tgt h1 h2 h3 h4 k
  have hdg := htab _ (lk_mem h1)
  subst h2
  intro H locs ls hP hS hl
  exact lv_if_le hx hb hdg h3 (fun z => k.1 ((of_le h4 ⟨by decide, by decide⟩).mp z) H locs ls hP hS hl) (fun z => k.2 (fun e => z ((of_le h4 ⟨by decide, by decide⟩).mpr e)) H locs ls hP hS hl)
set_option maxHeartbeats 1000000 in
theorem s_goto {X : Sx} {L : Nat} {scr : Int → Int} {p : Program} {l : Launch} {e : Env} {R : Room} {s : State} {m : MethodId} {args : Array Value} {below : List Frame} {meth : Method} {c : Code} {own : String} {cc : ByteArray} {nL ca sl : Nat} {Q : State → Prop} {D : va_G} {cA : Nat → ClassId} {ad : Nat → Nat} {A : Nat → Prop} (F : Fx X L scr p s m args c own cc nL R ca sl D cA ad A) : k_goto X L (xcF scr) (JW p l e R s m args below meth c nL ca sl Q D cA ad A L) := by
  obtain ⟨hx, hb, hml, hown, hts, hK, had, hE, hL, htab, hfd, hkL, hkI, hsg, hnt, hcl, hR1, hR2, hRc, hRs⟩ := F
  intro pc q lp st M off tgt h1 h2 h3 k
  have hdg := htab _ (lk_mem h1)
  subst h2
  intro H locs ls hP hS hl
  exact lv_goto hx hb hdg h3 (k H locs ls hP hS hl)
set_option maxHeartbeats 1000000 in
theorem s_eqS {X : Sx} {L : Nat} {scr : Int → Int} {p : Program} {l : Launch} {e : Env} {R : Room} {s : State} {m : MethodId} {args : Array Value} {below : List Frame} {meth : Method} {c : Code} {own : String} {cc : ByteArray} {nL ca sl : Nat} {Q : State → Prop} {D : va_G} {cA : Nat → ClassId} {ad : Nat → Nat} {A : Nat → Prop} (F : Fx X L scr p s m args c own cc nL R ca sl D cA ad A) : k_eqS X L (xcF scr) (JW p l e R s m args below meth c nL ca sl Q D cA ad A L) := by
  obtain ⟨hx, hb, hml, hown, hts, hK, had, hE, hL, htab, hfd, hkL, hkI, hsg, hnt, hcl, hR1, hR2, hRc, hRs⟩ := F
  intro pc q lp st M x off tgt h1 h2 h3 k
  have hdg := htab _ (lk_mem h1)
  subst h2
  intro H locs ls hP hS hl
  exact lv_icmp_eq hx hb hdg h3 (fun _ => k H locs ls hP hS hl) (fun z => absurd rfl z)
set_option maxHeartbeats 1000000 in
theorem s_tblIn {X : Sx} {L : Nat} {scr : Int → Int} {p : Program} {l : Launch} {e : Env} {R : Room} {s : State} {m : MethodId} {args : Array Value} {below : List Frame} {meth : Method} {c : Code} {own : String} {cc : ByteArray} {nL ca sl : Nat} {Q : State → Prop} {D : va_G} {cA : Nat → ClassId} {ad : Nat → Nat} {A : Nat → Prop} (F : Fx X L scr p s m args c own cc nL R ca sl D cA ad A) : k_tblIn X L (xcF scr) (JW p l e R s m args below meth c nL ca sl Q D cA ad A L) := by
  obtain ⟨hx, hb, hml, hown, hts, hK, had, hE, hL, htab, hfd, hkL, hkI, hsg, hnt, hcl, hR1, hR2, hRc, hRs⟩ := F
  intro pc q lp st M x dflt lo hi offs len off tgt h1 h2 h3 h4 h5 h6 k
  have hdg := htab _ (lk_mem h1)
  subst h2
  intro H locs ls hP hS hl
  have e := i32_id h3
  unfold i32 at e
  exact lv_tableIn hx hb hdg (by rw [e]; omega) (by rw [e]; omega) (by rw [e]; exact h5) h6 (k H locs ls hP hS hl)
set_option maxHeartbeats 1000000 in
theorem s_tblOut {X : Sx} {L : Nat} {scr : Int → Int} {p : Program} {l : Launch} {e : Env} {R : Room} {s : State} {m : MethodId} {args : Array Value} {below : List Frame} {meth : Method} {c : Code} {own : String} {cc : ByteArray} {nL ca sl : Nat} {Q : State → Prop} {D : va_G} {cA : Nat → ClassId} {ad : Nat → Nat} {A : Nat → Prop} (F : Fx X L scr p s m args c own cc nL R ca sl D cA ad A) : k_tblOut X L (xcF scr) (JW p l e R s m args below meth c nL ca sl Q D cA ad A L) := by
  obtain ⟨hx, hb, hml, hown, hts, hK, had, hE, hL, htab, hfd, hkL, hkI, hsg, hnt, hcl, hR1, hR2, hRc, hRs⟩ := F
  intro pc q lp st M x dflt lo hi offs len tgt h1 h2 h3 h4 h5 k
  have hdg := htab _ (lk_mem h1)
  subst h2
  intro H locs ls hP hS hl
  have e := i32_id h3
  unfold i32 at e
  exact lv_tableOut hx hb hdg (by rw [e]; exact h4) h5 (k H locs ls hP hS hl)
set_option maxHeartbeats 1000000 in
theorem s_lookup {X : Sx} {L : Nat} {scr : Int → Int} {p : Program} {l : Launch} {e : Env} {R : Room} {s : State} {m : MethodId} {args : Array Value} {below : List Frame} {meth : Method} {c : Code} {own : String} {cc : ByteArray} {nL ca sl : Nat} {Q : State → Prop} {D : va_G} {cA : Nat → ClassId} {ad : Nat → Nat} {A : Nat → Prop} (F : Fx X L scr p s m args c own cc nL R ca sl D cA ad A) : k_lookup X L (xcF scr) (JW p l e R s m args below meth c nL ca sl Q D cA ad A L) := by
  obtain ⟨hx, hb, hml, hown, hts, hK, had, hE, hL, htab, hfd, hkL, hkI, hsg, hnt, hcl, hR1, hR2, hRc, hRs⟩ := F
  intro pc q lp st M x dflt ps len off tgt h1 h2 h3 h4 h5 h6 k
  have hdg := htab _ (lk_mem h1)
  subst h2
  intro H locs ls hP hS hl
  have e := i32_id h3
  unfold i32 at e
  exact lv_lookup hx hb hdg h4 (by rw [e]; exact h5) h6 (k H locs ls hP hS hl)
set_option maxHeartbeats 1000000 in
theorem s_getI {X : Sx} {L : Nat} {scr : Int → Int} {p : Program} {l : Launch} {e : Env} {R : Room} {s : State} {m : MethodId} {args : Array Value} {below : List Frame} {meth : Method} {c : Code} {own : String} {cc : ByteArray} {nL ca sl : Nat} {Q : State → Prop} {D : va_G} {cA : Nat → ClassId} {ad : Nat → Nat} {A : Nat → Prop} (F : Fx X L scr p s m args c own cc nL R ca sl D cA ad A) : k_getI X L (xcF scr) (JW p l e R s m args below meth c nL ca sl Q D cA ad A L) := by
  obtain ⟨hx, hb, hml, hown, hts, hK, had, hE, hL, htab, hfd, hkL, hkI, hsg, hnt, hcl, hR1, hR2, hRc, hRs⟩ := F
  intro pc q lp st M i ci k0 r f k1 h1 h2 h3 h4 h5 h6 h7 k
  have hdg := htab _ (lk_mem h1)
  subst h2
  intro H locs ls hP hS hl
  try subst h7
  obtain ⟨f1, f2, f3⟩ := hfd _ (lk_mem h3)
  have he := wld_at (ad := ad) (cA := cA) (L := L) (M := M) h6
  rw [h4] at he
  exact va_get hx hb hts (clsW f1) hown hK hP _ he (clsL_at f1) k0 f2 (hts _ f3) (fun _ z => z) ((ceV_at f2).trans (congrArg some (by simp only [ceV, h5]; rfl))) hdg (k H locs ls hP hS hl)
set_option maxHeartbeats 1000000 in
theorem s_getR {X : Sx} {L : Nat} {scr : Int → Int} {p : Program} {l : Launch} {e : Env} {R : Room} {s : State} {m : MethodId} {args : Array Value} {below : List Frame} {meth : Method} {c : Code} {own : String} {cc : ByteArray} {nL ca sl : Nat} {Q : State → Prop} {D : va_G} {cA : Nat → ClassId} {ad : Nat → Nat} {A : Nat → Prop} (F : Fx X L scr p s m args c own cc nL R ca sl D cA ad A) : k_getR X L (xcF scr) (JW p l e R s m args below meth c nL ca sl Q D cA ad A L) := by
  obtain ⟨hx, hb, hml, hown, hts, hK, had, hE, hL, htab, hfd, hkL, hkI, hsg, hnt, hcl, hR1, hR2, hRc, hRs⟩ := F
  intro pc q lp st M i ci k0 r r' f h1 h2 h3 h4 h5 h6 k
  have hdg := htab _ (lk_mem h1)
  subst h2
  intro H locs ls hP hS hl
  obtain ⟨f1, f2, f3⟩ := hfd _ (lk_mem h3)
  have he := wld_at (ad := ad) (cA := cA) (L := L) (M := M) h6
  rw [h4] at he
  exact va_get hx hb hts (clsW f1) hown hK hP _ he (clsL_at f1) k0 f2 (hts _ f3) (fun _ z => z) ((ceV_at f2).trans (congrArg some (by simp only [ceV, h5]; rfl))) hdg (k H locs ls hP hS hl)
set_option maxHeartbeats 1000000 in
theorem s_putI {X : Sx} {L : Nat} {scr : Int → Int} {p : Program} {l : Launch} {e : Env} {R : Room} {s : State} {m : MethodId} {args : Array Value} {below : List Frame} {meth : Method} {c : Code} {own : String} {cc : ByteArray} {nL ca sl : Nat} {Q : State → Prop} {D : va_G} {cA : Nat → ClassId} {ad : Nat → Nat} {A : Nat → Prop} (F : Fx X L scr p s m args c own cc nL R ca sl D cA ad A) : k_putI X L (xcF scr) (JW p l e R s m args below meth c nL ca sl Q D cA ad A L) := by
  obtain ⟨hx, hb, hml, hown, hts, hK, had, hE, hL, htab, hfd, hkL, hkI, hsg, hnt, hcl, hR1, hR2, hRc, hRs⟩ := F
  intro pc q lp st M i ci k0 r f k1 x M2 h1 h2 h3 h4 h5 h6 h7 h8 h9 h10 k
  have hdg := htab _ (lk_mem h1)
  subst h2
  intro H locs ls hP hS hl
  subst h10
  obtain ⟨f1, f2, f3⟩ := hfd _ (lk_mem h3)
  have he := wld_at (ad := ad) (cA := cA) (L := L) (M := M) h6
  rw [h4] at he
  refine va_put (ty := .int) hx hb hts (clsW f1) (tyC ci) (tyC_ok f1) (nmC_ok f1) hown hK hP (had.D cA L M) hS _ he (clsL_at f1) k0 f2 (hts _ f3) (fun _ z => z) h7 ((tyC_ok f1 k0 f2).trans (congrArg some h8)) rfl rfl (by simpa using f2) hdg (fun H1 locs1 hP1 hD1 hS1 => ?_)
  rw [show vp ad (wI x) = Value.int (Int32.ofInt x) from rfl, ceV_set h5 (upM_eq (r := r) (k := k0) (k1 := k1) (x := x) (M := M) h9)] at hP1
  have hw := wld_set (ad := ad) (cA := cA) (L := L) (M := M) (M' := upM M r k1 x) h6 upM_ne
  rw [h4] at hw
  exact k H1 locs1 ls (hw ▸ hP1) hS1 hl
set_option maxHeartbeats 1000000 in
theorem s_iald {X : Sx} {L : Nat} {scr : Int → Int} {p : Program} {l : Launch} {e : Env} {R : Room} {s : State} {m : MethodId} {args : Array Value} {below : List Frame} {meth : Method} {c : Code} {own : String} {cc : ByteArray} {nL ca sl : Nat} {Q : State → Prop} {D : va_G} {cA : Nat → ClassId} {ad : Nat → Nat} {A : Nat → Prop} (F : Fx X L scr p s m args c own cc nL R ca sl D cA ad A) : k_iald X L (xcF scr) (JW p l e R s m args below meth c nL ca sl Q D cA ad A L) := by
  obtain ⟨hx, hb, hml, hown, hts, hK, had, hE, hL, htab, hfd, hkL, hkI, hsg, hnt, hcl, hR1, hR2, hRc, hRs⟩ := F
  intro pc q lp st M i v r n h1 h2 h3 h4 h5 h6 k
  have hdg := htab _ (lk_mem h1)
  subst h2
  intro H locs ls hP hS hl
  subst h6
  have he := wld_at (ad := ad) (cA := cA) (L := L) (M := M) h4
  rw [h3] at he
  obtain ⟨g1, g2⟩ := of_in h5.1 h5.2 ((LAY_ok hL r).2.1 _ _ h3).2
  exact va_iald hx hb hK hP _ 0 he (tysL_at cA (by decide)) g1 hdg (by rw [g2]; show W p l e R s m args below meth c H locs ca sl Q (F0 m (pc + 1) ls (.int (Int32.ofInt (M r (i.toNat : Int))) :: _)); rw [Int.toNat_of_nonneg h5.1]; exact k H locs ls hP hS hl)
set_option maxHeartbeats 1000000 in
theorem s_cald {X : Sx} {L : Nat} {scr : Int → Int} {p : Program} {l : Launch} {e : Env} {R : Room} {s : State} {m : MethodId} {args : Array Value} {below : List Frame} {meth : Method} {c : Code} {own : String} {cc : ByteArray} {nL ca sl : Nat} {Q : State → Prop} {D : va_G} {cA : Nat → ClassId} {ad : Nat → Nat} {A : Nat → Prop} (F : Fx X L scr p s m args c own cc nL R ca sl D cA ad A) : k_cald X L (xcF scr) (JW p l e R s m args below meth c nL ca sl Q D cA ad A L) := by
  obtain ⟨hx, hb, hml, hown, hts, hK, had, hE, hL, htab, hfd, hkL, hkI, hsg, hnt, hcl, hR1, hR2, hRc, hRs⟩ := F
  intro pc q lp st M i v r n h1 h2 h3 h4 h5 h6 k
  have hdg := htab _ (lk_mem h1)
  subst h2
  intro H locs ls hP hS hl
  subst h6
  have he := wld_at (ad := ad) (cA := cA) (L := L) (M := M) h4
  rw [h3] at he
  obtain ⟨g1, g2⟩ := of_in h5.1 h5.2 ((LAY_ok hL r).2.1 _ _ h3).2
  exact va_cald hx hb hK hP _ 1 he (tysL_at cA (by decide)) g1 hdg (by rw [g2]; show W p l e R s m args below meth c H locs ca sl Q (F0 m (pc + 1) ls (.int (Int32.ofInt (M r (i.toNat : Int))) :: _)); rw [Int.toNat_of_nonneg h5.1]; exact k H locs ls hP hS hl)
set_option maxHeartbeats 1000000 in
theorem s_zald {X : Sx} {L : Nat} {scr : Int → Int} {p : Program} {l : Launch} {e : Env} {R : Room} {s : State} {m : MethodId} {args : Array Value} {below : List Frame} {meth : Method} {c : Code} {own : String} {cc : ByteArray} {nL ca sl : Nat} {Q : State → Prop} {D : va_G} {cA : Nat → ClassId} {ad : Nat → Nat} {A : Nat → Prop} (F : Fx X L scr p s m args c own cc nL R ca sl D cA ad A) : k_zald X L (xcF scr) (JW p l e R s m args below meth c nL ca sl Q D cA ad A L) := by
  obtain ⟨hx, hb, hml, hown, hts, hK, had, hE, hL, htab, hfd, hkL, hkI, hsg, hnt, hcl, hR1, hR2, hRc, hRs⟩ := F
  intro pc q lp st M i v r n h1 h2 h3 h4 h5 h6 k
  have hdg := htab _ (lk_mem h1)
  subst h2
  intro H locs ls hP hS hl
  subst h6
  have he := wld_at (ad := ad) (cA := cA) (L := L) (M := M) h4
  rw [h3] at he
  obtain ⟨g1, g2⟩ := of_in h5.1 h5.2 ((LAY_ok hL r).2.1 _ _ h3).2
  exact va_zald hx hb hK hP _ 2 he (tysL_at cA (by decide)) g1 hdg (by rw [g2]; show W p l e R s m args below meth c H locs ca sl Q (F0 m (pc + 1) ls (.int (Int32.ofInt (M r (i.toNat : Int))) :: _)); rw [Int.toNat_of_nonneg h5.1]; exact k H locs ls hP hS hl)
set_option maxHeartbeats 1000000 in
theorem s_iast {X : Sx} {L : Nat} {scr : Int → Int} {p : Program} {l : Launch} {e : Env} {R : Room} {s : State} {m : MethodId} {args : Array Value} {below : List Frame} {meth : Method} {c : Code} {own : String} {cc : ByteArray} {nL ca sl : Nat} {Q : State → Prop} {D : va_G} {cA : Nat → ClassId} {ad : Nat → Nat} {A : Nat → Prop} (F : Fx X L scr p s m args c own cc nL R ca sl D cA ad A) : k_iast X L (xcF scr) (JW p l e R s m args below meth c nL ca sl Q D cA ad A L) := by
  obtain ⟨hx, hb, hml, hown, hts, hK, had, hE, hL, htab, hfd, hkL, hkI, hsg, hnt, hcl, hR1, hR2, hRc, hRs⟩ := F
  intro pc q lp st M x i r n M2 h1 h2 h3 h4 h5 h6 k
  have hdg := htab _ (lk_mem h1)
  subst h2
  intro H locs ls hP hS hl
  subst h6
  have he := wld_at (ad := ad) (cA := cA) (L := L) (M := M) h4
  rw [h3] at he
  obtain ⟨g1, g2⟩ := of_in h5.1 h5.2 ((LAY_ok hL r).2.1 _ _ h3).2
  refine va_iast hx hb hK hP (had.D cA L M) hS _ 0 he (tysL_at cA (by decide)) g1 hdg (fun H1 locs1 hP1 hD1 hS1 => ?_)
  rw [g2, upd_of] at hP1
  have hw := wld_set (ad := ad) (cA := cA) (L := L) (M := M) (M' := upM M r i x) h4 upM_ne
  rw [h3, upM_eq (Int.toNat_of_nonneg h5.1)] at hw
  exact k H1 locs1 ls (hw ▸ hP1) hS1 hl
set_option maxHeartbeats 1000000 in
theorem s_cast {X : Sx} {L : Nat} {scr : Int → Int} {p : Program} {l : Launch} {e : Env} {R : Room} {s : State} {m : MethodId} {args : Array Value} {below : List Frame} {meth : Method} {c : Code} {own : String} {cc : ByteArray} {nL ca sl : Nat} {Q : State → Prop} {D : va_G} {cA : Nat → ClassId} {ad : Nat → Nat} {A : Nat → Prop} (F : Fx X L scr p s m args c own cc nL R ca sl D cA ad A) : k_cast X L (xcF scr) (JW p l e R s m args below meth c nL ca sl Q D cA ad A L) := by
  obtain ⟨hx, hb, hml, hown, hts, hK, had, hE, hL, htab, hfd, hkL, hkI, hsg, hnt, hcl, hR1, hR2, hRc, hRs⟩ := F
  intro pc q lp st M x i r n M2 h1 h2 h3 h4 h5 h6 h7 k
  have hdg := htab _ (lk_mem h1)
  subst h2
  intro H locs ls hP hS hl
  subst h7
  have he := wld_at (ad := ad) (cA := cA) (L := L) (M := M) h4
  rw [h3] at he
  obtain ⟨g1, g2⟩ := of_in h5.1 h5.2 ((LAY_ok hL r).2.1 _ _ h3).2
  refine va_cast hx hb hK hP (had.D cA L M) hS _ 1 he (tysL_at cA (by decide)) g1 hdg (fun H1 locs1 hP1 hD1 hS1 => ?_)
  rw [g2, nar_c h6, upd_of] at hP1
  have hw := wld_set (ad := ad) (cA := cA) (L := L) (M := M) (M' := upM M r i x) h4 upM_ne
  rw [h3, upM_eq (Int.toNat_of_nonneg h5.1)] at hw
  exact k H1 locs1 ls (hw ▸ hP1) hS1 hl
set_option maxHeartbeats 1000000 in
theorem s_zast {X : Sx} {L : Nat} {scr : Int → Int} {p : Program} {l : Launch} {e : Env} {R : Room} {s : State} {m : MethodId} {args : Array Value} {below : List Frame} {meth : Method} {c : Code} {own : String} {cc : ByteArray} {nL ca sl : Nat} {Q : State → Prop} {D : va_G} {cA : Nat → ClassId} {ad : Nat → Nat} {A : Nat → Prop} (F : Fx X L scr p s m args c own cc nL R ca sl D cA ad A) : k_zast X L (xcF scr) (JW p l e R s m args below meth c nL ca sl Q D cA ad A L) := by
  obtain ⟨hx, hb, hml, hown, hts, hK, had, hE, hL, htab, hfd, hkL, hkI, hsg, hnt, hcl, hR1, hR2, hRc, hRs⟩ := F
  intro pc q lp st M x i r n M2 h1 h2 h3 h4 h5 h6 h7 k
  have hdg := htab _ (lk_mem h1)
  subst h2
  intro H locs ls hP hS hl
  subst h7
  have he := wld_at (ad := ad) (cA := cA) (L := L) (M := M) h4
  rw [h3] at he
  obtain ⟨g1, g2⟩ := of_in h5.1 h5.2 ((LAY_ok hL r).2.1 _ _ h3).2
  refine va_zast hx hb hK hP (had.D cA L M) hS _ 2 he (tysL_at cA (by decide)) g1 hdg (fun H1 locs1 hP1 hD1 hS1 => ?_)
  rw [g2, nar_z h6, upd_of] at hP1
  have hw := wld_set (ad := ad) (cA := cA) (L := L) (M := M) (M' := upM M r i x) h4 upM_ne
  rw [h3, upM_eq (Int.toNat_of_nonneg h5.1)] at hw
  exact k H1 locs1 ls (hw ▸ hP1) hS1 hl
set_option maxHeartbeats 1000000 in
theorem s_aald {X : Sx} {L : Nat} {scr : Int → Int} {p : Program} {l : Launch} {e : Env} {R : Room} {s : State} {m : MethodId} {args : Array Value} {below : List Frame} {meth : Method} {c : Code} {own : String} {cc : ByteArray} {nL ca sl : Nat} {Q : State → Prop} {D : va_G} {cA : Nat → ClassId} {ad : Nat → Nat} {A : Nat → Prop} (F : Fx X L scr p s m args c own cc nL R ca sl D cA ad A) : k_aald X L (xcF scr) (JW p l e R s m args below meth c nL ca sl Q D cA ad A L) := by
  obtain ⟨hx, hb, hml, hown, hts, hK, had, hE, hL, htab, hfd, hkL, hkI, hsg, hnt, hcl, hR1, hR2, hRc, hRs⟩ := F
  intro pc q lp st M i r t n r2 f h1 h2 h3 h4 h5 h6 k
  have hdg := htab _ (lk_mem h1)
  subst h2
  intro H locs ls hP hS hl
  subst h6
  have he := wld_at (ad := ad) (cA := cA) (L := L) (M := M) h4
  rw [h3] at he
  obtain ⟨t1, t2, t3⟩ := (LAY_ok hL r).2.2 _ _ _ h3
  obtain ⟨g1, g2⟩ := of_in h5.1 h5.2 t3
  have hlt : i.toNat < n := by omega
  have hq := (hK.2 t _ (tysL_at cA t1)).1 n (fun j => va_rf (if j < n then some (ad (f j)) else none))
  exact W.aald (v := .ref (ad (f i.toNat))) (ty := tagT t) hx hb (hP _ _ he) hq (tag_ref t1 t2) (fun z => by cases z) (by show ¬ (_ < 0 ∨ (arrV _ _ _).slots.size ≤ _); rw [arrV_size]; exact g1) (by show (arrV _ _ _).slots[_]? = _; rw [g2, arrV_read _ _ hlt]; show some (va_rf (if i.toNat < n then some (ad (f i.toNat)) else none)) = _; rw [if_pos hlt]; rfl) rfl rfl hdg (k H locs ls hP hS hl)
set_option maxHeartbeats 1000000 in
theorem s_ialdX {X : Sx} {L : Nat} {scr : Int → Int} {p : Program} {l : Launch} {e : Env} {R : Room} {s : State} {m : MethodId} {args : Array Value} {below : List Frame} {meth : Method} {c : Code} {own : String} {cc : ByteArray} {nL ca sl : Nat} {Q : State → Prop} {D : va_G} {cA : Nat → ClassId} {ad : Nat → Nat} {A : Nat → Prop} (F : Fx X L scr p s m args c own cc nL R ca sl D cA ad A) : k_ialdX X L (xcF scr) (JW p l e R s m args below meth c nL ca sl Q D cA ad A L) := by
  obtain ⟨hx, hb, hml, hown, hts, hK, had, hE, hL, htab, hfd, hkL, hkI, hsg, hnt, hcl, hR1, hR2, hRc, hRs⟩ := F
  intro pc q lp st M i r h1 h2 h3 h4 k
  have hdg := htab _ (lk_mem h1)
  subst h2
  intro H locs ls hP hS hl
  obtain ⟨cell, e1, e2, e3, e4, e5, e6, e7⟩ := hE.1 r h3
  have hn : exN L r < 2147483648 := by unfold exN; split <;> omega
  obtain ⟨g1, g2⟩ := of_in h4.1 h4.2 hn
  have hlt : i.toNat < exN L r := by omega
  have e6 : cell.slots[i.toNat]? = some (Value.int (Int32.ofInt (nt_ (xcF scr r) i.toNat))) := e6 _ hlt
  rw [show nt_ (xcF scr r) i.toNat = xcF scr r i from congrArg (xcF scr r) (Int.toNat_of_nonneg h4.1)] at e6
  exact W.iald (v := .int (Int32.ofInt (xcF scr r i))) hx hb (by rw [hS.2.1 _ (Array.getElem?_eq_some_iff.mp e1).1 e7]; exact e1) e2 e3 (fun z => g1 (z.imp id (fun z => Nat.le_trans e4 z))) (by rw [g2]; exact e6) rfl rfl hdg (k H locs ls hP hS hl)
set_option maxHeartbeats 1000000 in
theorem s_alenX {X : Sx} {L : Nat} {scr : Int → Int} {p : Program} {l : Launch} {e : Env} {R : Room} {s : State} {m : MethodId} {args : Array Value} {below : List Frame} {meth : Method} {c : Code} {own : String} {cc : ByteArray} {nL ca sl : Nat} {Q : State → Prop} {D : va_G} {cA : Nat → ClassId} {ad : Nat → Nat} {A : Nat → Prop} (F : Fx X L scr p s m args c own cc nL R ca sl D cA ad A) : k_alenX X L (xcF scr) (JW p l e R s m args below meth c nL ca sl Q D cA ad A L) := by
  obtain ⟨hx, hb, hml, hown, hts, hK, had, hE, hL, htab, hfd, hkL, hkI, hsg, hnt, hcl, hR1, hR2, hRc, hRs⟩ := F
  intro pc q lp st M r h1 h2 h3 k
  have hdg := htab _ (lk_mem h1)
  subst h2
  intro H locs ls hP hS hl
  obtain ⟨cell, e1, e2, e3, e4, e5, e6, e7⟩ := hE.1 r h3
  exact W.alen hx hb (by rw [hS.2.1 _ (Array.getElem?_eq_some_iff.mp e1).1 e7]; exact e1) e2 (e5.trans (of_nI _).symm) rfl rfl hdg (k H locs ls hP hS hl)
set_option maxHeartbeats 1000000 in
theorem s_gets {X : Sx} {L : Nat} {scr : Int → Int} {p : Program} {l : Launch} {e : Env} {R : Room} {s : State} {m : MethodId} {args : Array Value} {below : List Frame} {meth : Method} {c : Code} {own : String} {cc : ByteArray} {nL ca sl : Nat} {Q : State → Prop} {D : va_G} {cA : Nat → ClassId} {ad : Nat → Nat} {A : Nat → Prop} (F : Fx X L scr p s m args c own cc nL R ca sl D cA ad A) : k_gets X L (xcF scr) (JW p l e R s m args below meth c nL ca sl Q D cA ad A L) := by
  obtain ⟨hx, hb, hml, hown, hts, hK, had, hE, hL, htab, hfd, hkL, hkI, hsg, hnt, hcl, hR1, hR2, hRc, hRs⟩ := F
  intro pc q lp st M i r h1 h2 h3 k
  have hdg := htab _ (lk_mem h1)
  subst h2
  intro H locs ls hP hS hl
  rcases hsg _ (lk_mem h3) with ⟨s1, s2⟩ | ⟨s1, s2⟩
  · subst s1
    exact va_gets hx hb hE.2.1 hS hown (hts _ s2) (fun _ z => z) hdg (k H locs ls hP hS hl)
  · subst s1
    exact va_gets hx hb hE.2.2 hS hown (hts _ s2) (fun _ z => z) hdg (k H locs ls hP hS hl)
set_option maxHeartbeats 1000000 in
theorem s_copy {X : Sx} {L : Nat} {scr : Int → Int} {p : Program} {l : Launch} {e : Env} {R : Room} {s : State} {m : MethodId} {args : Array Value} {below : List Frame} {meth : Method} {c : Code} {own : String} {cc : ByteArray} {nL ca sl : Nat} {Q : State → Prop} {D : va_G} {cA : Nat → ClassId} {ad : Nat → Nat} {A : Nat → Prop} (F : Fx X L scr p s m args c own cc nL R ca sl D cA ad A) : k_copy X L (xcF scr) (JW p l e R s m args below meth c nL ca sl Q D cA ad A L) := by
  obtain ⟨hx, hb, hml, hown, hts, hK, had, hE, hL, htab, hfd, hkL, hkI, hsg, hnt, hcl, hR1, hR2, hRc, hRs⟩ := F
  intro pc q lp st M i r0 r1 n0 n1 sp dp n M2 h1 h2 h3 h4 h5 h6 h7 h8 h9 k
  have hdg := htab _ (lk_mem h1)
  subst h2
  intro H locs ls hP hS hl
  subst h8
  obtain ⟨w1, w2⟩ := hnt _ (lk_mem h3)
  have w1 := w1 rfl
  have he0 := wld_at (ad := ad) (cA := cA) (L := L) (M := M) h6.1
  have he1 := wld_at (ad := ad) (cA := cA) (L := L) (M := M) h6.2
  rw [h4] at he0
  rw [h5] at he1
  have b0 := ((LAY_ok hL r0).2.1 _ _ h4).2
  have b1 := ((LAY_ok hL r1).2.1 _ _ h5).2
  obtain ⟨z1, z2, z3, z4, z5⟩ := h7
  have c1 := of_pos z1 (by omega)
  have c2 := of_pos z2 (by omega)
  have c3 := of_pos z3 (by omega)
  refine va_copyi (ty := .int) hx hb (hml.trans hl.size.symm) hown (hts _ w1.1) (hts _ w1.2.1) (hts _ w1.2.2.1) (hts _ w1.2.2.2) hK hP (had.D cA L M) hS _ _ 0 0 he0 he1 (tysL_at cA (by decide)) (tysL_at cA (by decide)) rfl c1.1 c2.1 c3.1 (by rw [c1.2, c3.2]; omega) (by rw [c2.2, c3.2]; omega) (fun _ _ => rfl) hR1 ?_ hdg (fun H1 locs1 hP1 hD1 hS1 => ?_)
  · have := stk8 ad st h9
    exact Nat.le_trans (Nat.add_le_add_right this _) (Nat.le_trans (by decide) hR2)
  · rw [c1.2, c2.2, c3.2, cpy_of] at hP1
    have hw := wld_set (ad := ad) (cA := cA) (L := L) (M := M) (M' := cpM M r0 sp r1 dp n) h6.2 cpM_ne
    rw [h5, cpM_eq z1 z2 z3] at hw
    exact k H1 locs1 ls (hw ▸ hP1) hS1 hl
set_option maxHeartbeats 1000000 in
theorem s_mmax {X : Sx} {L : Nat} {scr : Int → Int} {p : Program} {l : Launch} {e : Env} {R : Room} {s : State} {m : MethodId} {args : Array Value} {below : List Frame} {meth : Method} {c : Code} {own : String} {cc : ByteArray} {nL ca sl : Nat} {Q : State → Prop} {D : va_G} {cA : Nat → ClassId} {ad : Nat → Nat} {A : Nat → Prop} (F : Fx X L scr p s m args c own cc nL R ca sl D cA ad A) : k_mmax X L (xcF scr) (JW p l e R s m args below meth c nL ca sl Q D cA ad A L) := by
  obtain ⟨hx, hb, hml, hown, hts, hK, had, hE, hL, htab, hfd, hkL, hkI, hsg, hnt, hcl, hR1, hR2, hRc, hRs⟩ := F
  intro pc q lp st M i x y h1 h2 h3 h4 h5 h6 k
  have hdg := htab _ (lk_mem h1)
  subst h2
  intro H locs ls hP hS hl
  obtain ⟨w0, w1, w2, w3⟩ := hnt _ (lk_mem h3)
  have w := w1 rfl
  have h8 := stk8 ad st h6
  exact va_mmax hx hb (hml.trans hl.size.symm) hown (hts _ w.1) (hts _ w.2.1) (hts _ w.2.2.1) (hts _ w.2.2.2) hR1 (by omega) hRc hRs hdg (by have := k H locs ls hP hS hl; simp only [List.map_cons, vp] at this; rw [← of_max h4 h5] at this; exact this)
set_option maxHeartbeats 1000000 in
theorem s_mmin {X : Sx} {L : Nat} {scr : Int → Int} {p : Program} {l : Launch} {e : Env} {R : Room} {s : State} {m : MethodId} {args : Array Value} {below : List Frame} {meth : Method} {c : Code} {own : String} {cc : ByteArray} {nL ca sl : Nat} {Q : State → Prop} {D : va_G} {cA : Nat → ClassId} {ad : Nat → Nat} {A : Nat → Prop} (F : Fx X L scr p s m args c own cc nL R ca sl D cA ad A) : k_mmin X L (xcF scr) (JW p l e R s m args below meth c nL ca sl Q D cA ad A L) := by
  obtain ⟨hx, hb, hml, hown, hts, hK, had, hE, hL, htab, hfd, hkL, hkI, hsg, hnt, hcl, hR1, hR2, hRc, hRs⟩ := F
  intro pc q lp st M i x y h1 h2 h3 h4 h5 h6 k
  have hdg := htab _ (lk_mem h1)
  subst h2
  intro H locs ls hP hS hl
  obtain ⟨w0, w1, w2, w3⟩ := hnt _ (lk_mem h3)
  have w := w2 rfl
  have h8 := stk8 ad st h6
  exact va_mmin hx hb (hml.trans hl.size.symm) hown (hts _ w.1) (hts _ w.2.1) (hts _ w.2.2.1) (hts _ w.2.2.2) hR1 (by omega) hRc hRs hdg (by have := k H locs ls hP hS hl; simp only [List.map_cons, vp] at this; rw [← of_min h4 h5] at this; exact this)
set_option maxHeartbeats 1000000 in
theorem s_mabs {X : Sx} {L : Nat} {scr : Int → Int} {p : Program} {l : Launch} {e : Env} {R : Room} {s : State} {m : MethodId} {args : Array Value} {below : List Frame} {meth : Method} {c : Code} {own : String} {cc : ByteArray} {nL ca sl : Nat} {Q : State → Prop} {D : va_G} {cA : Nat → ClassId} {ad : Nat → Nat} {A : Nat → Prop} (F : Fx X L scr p s m args c own cc nL R ca sl D cA ad A) : k_mabs X L (xcF scr) (JW p l e R s m args below meth c nL ca sl Q D cA ad A L) := by
  obtain ⟨hx, hb, hml, hown, hts, hK, had, hE, hL, htab, hfd, hkL, hkI, hsg, hnt, hcl, hR1, hR2, hRc, hRs⟩ := F
  intro pc q lp st M i x h1 h2 h3 h4 h5 k
  have hdg := htab _ (lk_mem h1)
  subst h2
  intro H locs ls hP hS hl
  obtain ⟨w0, w1, w2, w3⟩ := hnt _ (lk_mem h3)
  have w := w3 rfl
  have h8 := stk8 ad st h5
  exact va_mabs hx hb (hml.trans hl.size.symm) hown (hts _ w.1) (hts _ w.2.1) (hts _ w.2.2.1) (hts _ w.2.2.2) hR1 (by omega) hRc hRs hdg (by have := k H locs ls hP hS hl; simp only [List.map_cons, vp] at this; rw [← of_abs h4] at this; exact this)
set_option maxHeartbeats 1000000 in
theorem s_callVI {X : Sx} {L : Nat} {scr : Int → Int} {p : Program} {l : Launch} {e : Env} {R : Room} {s : State} {m : MethodId} {args : Array Value} {below : List Frame} {meth : Method} {c : Code} {own : String} {cc : ByteArray} {nL ca sl : Nat} {Q : State → Prop} {D : va_G} {cA : Nat → ClassId} {ad : Nat → Nat} {A : Nat → Prop} (F : Fx X L scr p s m args c own cc nL R ca sl D cA ad A) : k_callVI X L (xcF scr) (JW p l e R s m args below meth c nL ca sl Q D cA ad A L) := by
  obtain ⟨hx, hb, hml, hown, hts, hK, had, hE, hL, htab, hfd, hkL, hkI, hsg, hnt, hcl, hR1, hR2, hRc, hRs⟩ := F
  intro pc q lp st M i ci C as r f h1 h2 h3 h4 h5 h6 h7 h8 h9 k
  have hdg := htab _ (lk_mem h1)
  subst h2
  intro H locs ls hP hS hl
  obtain ⟨y, b, mL, ret, d, hM, e1, e2, e3, e4, e5, e6⟩ := hcl _ (lk_mem h3)
  rw [if_pos (ciLt hL h8)] at e6
  obtain ⟨k1, k2, k3, k4⟩ := e6
  have hpl : (parseMethodDescriptor y.desc).map (fun d => d.parameters.length) = some as.length := by
    have z := e4.2.2
    rw [if_pos (ciLt hL h8)] at z
    rw [z, ← h4]
    rfl
  have hM := hM l D cA ad A L scr (wR r :: as) M hL had h4 h6
  unfold QcC at hM
  rw [if_pos h5] at hM
  have he := wld_at (ad := ad) (cA := cA) (L := L) (M := M) h9
  rw [h8] at he
  have hrv := va_recv hK hP (clsL_at (ciLt hL h8)) he
  rw [show (RC ci, TC ci, nfC ci).1 = y.cls from k3.symm] at hrv
  have hcw := cwV (own := own) (index := i) (R := R) (rm := rmD d) (mc := 0) (ms := 0) (ws := .code y b mL ret :: GT) (ws' := GT) (bytes := b) (maxL := mL) (ret := ret) (Ts := GT) (args := args) (s := s) (n := as.length) hts (goodV e1 e2 e3 k1 k2) rfl rfl rfl ⟨rfl, e4.1, e4.2.1, hpl⟩ e5
  rw [List.map_append, List.map_reverse]
  refine va_calli (va_runV (As := as.map (vp ad)) (rest := st.map (vp ad)) ⟨hx, hb, hml, hown, hts⟩ hM hcw ⟨fun a U g mk q => ⟨q.1, q.2.1, va_K.moved (u := U) (U := U.calling g mk a) (Vm.Alike.refl U.vm) q.2.2.1, Ext.moved (u := U) (U := U.calling g mk a) (Vm.Alike.refl U.vm) q.2.2.2⟩, hrv, fun U hU hW => ⟨rfl, by rw [hU]; exact hP, va_K.moved hW.alike hK, by rw [hU]; exact (Ext.moved hW.alike hE).kept (fun a g1 g2 => hS.2.1 a g1 g2)⟩⟩ rfl (by simp) hl.size rfl (lv_room (stk8 ad st h7)) hdg ⟨hRc, hRs⟩) hS (fun _ _ z => z) (fun _ z => z) ?_
  rintro r0 M' t H1 locs1 ht hvm ⟨x, rfl, hp⟩ hB hz hk hS1
  exact k x M' hp H1 locs1 ls (ht ▸ hB) hS1 hl
set_option maxHeartbeats 1000000 in
theorem s_callVN {X : Sx} {L : Nat} {scr : Int → Int} {p : Program} {l : Launch} {e : Env} {R : Room} {s : State} {m : MethodId} {args : Array Value} {below : List Frame} {meth : Method} {c : Code} {own : String} {cc : ByteArray} {nL ca sl : Nat} {Q : State → Prop} {D : va_G} {cA : Nat → ClassId} {ad : Nat → Nat} {A : Nat → Prop} (F : Fx X L scr p s m args c own cc nL R ca sl D cA ad A) : k_callVN X L (xcF scr) (JW p l e R s m args below meth c nL ca sl Q D cA ad A L) := by
  obtain ⟨hx, hb, hml, hown, hts, hK, had, hE, hL, htab, hfd, hkL, hkI, hsg, hnt, hcl, hR1, hR2, hRc, hRs⟩ := F
  intro pc q lp st M i ci C as r f h1 h2 h3 h4 h5 h6 h7 h8 h9 k
  have hdg := htab _ (lk_mem h1)
  subst h2
  intro H locs ls hP hS hl
  obtain ⟨y, b, mL, ret, d, hM, e1, e2, e3, e4, e5, e6⟩ := hcl _ (lk_mem h3)
  rw [if_pos (ciLt hL h8)] at e6
  obtain ⟨k1, k2, k3, k4⟩ := e6
  have hpl : (parseMethodDescriptor y.desc).map (fun d => d.parameters.length) = some as.length := by
    have z := e4.2.2
    rw [if_pos (ciLt hL h8)] at z
    rw [z, ← h4]
    rfl
  have hM := hM l D cA ad A L scr (wR r :: as) M hL had h4 h6
  unfold QcC at hM
  rw [if_neg (by rw [h5]; decide)] at hM
  have he := wld_at (ad := ad) (cA := cA) (L := L) (M := M) h9
  rw [h8] at he
  have hrv := va_recv hK hP (clsL_at (ciLt hL h8)) he
  rw [show (RC ci, TC ci, nfC ci).1 = y.cls from k3.symm] at hrv
  have hcw := cwV (own := own) (index := i) (R := R) (rm := rmD d) (mc := 0) (ms := 0) (ws := .code y b mL ret :: GT) (ws' := GT) (bytes := b) (maxL := mL) (ret := ret) (Ts := GT) (args := args) (s := s) (n := as.length) hts (goodV e1 e2 e3 k1 k2) rfl rfl rfl ⟨rfl, e4.1, e4.2.1, hpl⟩ e5
  rw [List.map_append, List.map_reverse]
  refine va_callv (va_runV (As := as.map (vp ad)) (rest := st.map (vp ad)) ⟨hx, hb, hml, hown, hts⟩ hM hcw ⟨fun a U g mk q => ⟨q.1, q.2.1, va_K.moved (u := U) (U := U.calling g mk a) (Vm.Alike.refl U.vm) q.2.2.1, Ext.moved (u := U) (U := U.calling g mk a) (Vm.Alike.refl U.vm) q.2.2.2⟩, hrv, fun U hU hW => ⟨rfl, by rw [hU]; exact hP, va_K.moved hW.alike hK, by rw [hU]; exact (Ext.moved hW.alike hE).kept (fun a g1 g2 => hS.2.1 a g1 g2)⟩⟩ rfl (by simp) hl.size rfl (lv_room (stk8 ad st h7)) hdg ⟨hRc, hRs⟩) hS (fun _ _ z => z) (fun _ z => z) ?_
  intro M' t H1 locs1 ht hvm hp hB hz hk hS1
  exact k M' hp H1 locs1 ls (ht ▸ hB) hS1 hl
set_option maxHeartbeats 1000000 in
theorem s_callSI {X : Sx} {L : Nat} {scr : Int → Int} {p : Program} {l : Launch} {e : Env} {R : Room} {s : State} {m : MethodId} {args : Array Value} {below : List Frame} {meth : Method} {c : Code} {own : String} {cc : ByteArray} {nL ca sl : Nat} {Q : State → Prop} {D : va_G} {cA : Nat → ClassId} {ad : Nat → Nat} {A : Nat → Prop} (F : Fx X L scr p s m args c own cc nL R ca sl D cA ad A) : k_callSI X L (xcF scr) (JW p l e R s m args below meth c nL ca sl Q D cA ad A L) := by
  obtain ⟨hx, hb, hml, hown, hts, hK, had, hE, hL, htab, hfd, hkL, hkI, hsg, hnt, hcl, hR1, hR2, hRc, hRs⟩ := F
  intro pc q lp st M i ci C as h1 h2 h3 h4 h5 h6 h7 h8 k
  have hdg := htab _ (lk_mem h1)
  subst h2
  intro H locs ls hP hS hl
  obtain ⟨y, b, mL, ret, d, hM, e1, e2, e3, e4, e5, e6⟩ := hcl _ (lk_mem h3)
  rw [if_neg (fun z => by have z : ci < 7 := z; omega)] at e6
  have hpl : (parseMethodDescriptor y.desc).map (fun d => d.parameters.length) = some as.length := by
    have z := e4.2.2
    rw [if_neg (fun z => by have z : ci < 7 := z; omega)] at z
    rw [z, ← h4]
  have hM := hM l D cA ad A L scr (as) M hL had h4 h6
  unfold QcC at hM
  rw [if_pos h5] at hM
  have hcw := callS_of (own := own) (i := i) (R := R) (y := y) (b := b) (mL := mL) (ret := ret) (d := d) (args := args) (s := s) (n := as.length) hts e1 e2 e3 e6.1 ⟨e4.1, e4.2.1, hpl⟩ e5
  rw [List.map_append, List.map_reverse]
  refine va_calli (va_runS (As := as.map (vp ad)) (rest := st.map (vp ad)) ⟨hx, hb, hml, hown, hts⟩ hM hcw ⟨fun a U g mk q => ⟨q.1, q.2.1, va_K.moved (u := U) (U := U.calling g mk a) (Vm.Alike.refl U.vm) q.2.2.1, Ext.moved (u := U) (U := U.calling g mk a) (Vm.Alike.refl U.vm) q.2.2.2⟩, fun U hU hW => ⟨rfl, by rw [hU]; exact hP, va_K.moved hW.alike hK, by rw [hU]; exact (Ext.moved hW.alike hE).kept (fun a g1 g2 => hS.2.1 a g1 g2)⟩⟩ rfl (by simp) hl.size rfl (lv_room (stk8 ad st h7)) hdg ⟨hRc, hRs⟩) hS (fun _ _ z => z) (fun _ z => z) ?_
  rintro r0 M' t H1 locs1 ht hvm ⟨x, rfl, hp⟩ hB hz hk hS1
  exact k x M' hp H1 locs1 ls (ht ▸ hB) hS1 hl
set_option maxHeartbeats 1000000 in
theorem s_callSN {X : Sx} {L : Nat} {scr : Int → Int} {p : Program} {l : Launch} {e : Env} {R : Room} {s : State} {m : MethodId} {args : Array Value} {below : List Frame} {meth : Method} {c : Code} {own : String} {cc : ByteArray} {nL ca sl : Nat} {Q : State → Prop} {D : va_G} {cA : Nat → ClassId} {ad : Nat → Nat} {A : Nat → Prop} (F : Fx X L scr p s m args c own cc nL R ca sl D cA ad A) : k_callSN X L (xcF scr) (JW p l e R s m args below meth c nL ca sl Q D cA ad A L) := by
  obtain ⟨hx, hb, hml, hown, hts, hK, had, hE, hL, htab, hfd, hkL, hkI, hsg, hnt, hcl, hR1, hR2, hRc, hRs⟩ := F
  intro pc q lp st M i ci C as h1 h2 h3 h4 h5 h6 h7 h8 k
  have hdg := htab _ (lk_mem h1)
  subst h2
  intro H locs ls hP hS hl
  obtain ⟨y, b, mL, ret, d, hM, e1, e2, e3, e4, e5, e6⟩ := hcl _ (lk_mem h3)
  rw [if_neg (fun z => by have z : ci < 7 := z; omega)] at e6
  have hpl : (parseMethodDescriptor y.desc).map (fun d => d.parameters.length) = some as.length := by
    have z := e4.2.2
    rw [if_neg (fun z => by have z : ci < 7 := z; omega)] at z
    rw [z, ← h4]
  have hM := hM l D cA ad A L scr (as) M hL had h4 h6
  unfold QcC at hM
  rw [if_neg (by rw [h5]; decide)] at hM
  have hcw := callS_of (own := own) (i := i) (R := R) (y := y) (b := b) (mL := mL) (ret := ret) (d := d) (args := args) (s := s) (n := as.length) hts e1 e2 e3 e6.1 ⟨e4.1, e4.2.1, hpl⟩ e5
  rw [List.map_append, List.map_reverse]
  refine va_callv (va_runS (As := as.map (vp ad)) (rest := st.map (vp ad)) ⟨hx, hb, hml, hown, hts⟩ hM hcw ⟨fun a U g mk q => ⟨q.1, q.2.1, va_K.moved (u := U) (U := U.calling g mk a) (Vm.Alike.refl U.vm) q.2.2.1, Ext.moved (u := U) (U := U.calling g mk a) (Vm.Alike.refl U.vm) q.2.2.2⟩, fun U hU hW => ⟨rfl, by rw [hU]; exact hP, va_K.moved hW.alike hK, by rw [hU]; exact (Ext.moved hW.alike hE).kept (fun a g1 g2 => hS.2.1 a g1 g2)⟩⟩ rfl (by simp) hl.size rfl (lv_room (stk8 ad st h7)) hdg ⟨hRc, hRs⟩) hS (fun _ _ z => z) (fun _ z => z) ?_
  intro M' t H1 locs1 ht hvm hp hB hz hk hS1
  exact k M' hp H1 locs1 ls (ht ▸ hB) hS1 hl
theorem s_gho {X : Sx} {L : Nat} {scr : Int → Int} {p : Program} {l : Launch} {e : Env} {R : Room} {s : State} {m : MethodId} {args : Array Value} {below : List Frame} {meth : Method} {c : Code} {own : String} {cc : ByteArray} {nL ca sl : Nat} {Q : State → Prop} {D : va_G} {cA : Nat → ClassId} {ad : Nat → Nat} {A : Nat → Prop} (F : Fx X L scr p s m args c own cc nL R ca sl D cA ad A) : k_gho X L (xcF scr) (JW p l e R s m args below meth c nL ca sl Q D cA ad A L) := by
  intro pc q lp st M M2 h1 h2 k
  subst h1
  intro H locs ls hP hS hl
  exact k H locs ls (by rw [wld_co (fun r z => h2 r z.1 z.2.1)]; exact hP) hS hl
theorem sound {X : Sx} {L : Nat} {scr : Int → Int} {p : Program} {l : Launch} {e : Env} {R : Room} {s : State} {m : MethodId} {args : Array Value} {below : List Frame} {meth : Method} {c : Code} {own : String} {cc : ByteArray} {nL ca sl : Nat} {Q : State → Prop} {D : va_G} {cA : Nat → ClassId} {ad : Nat → Nat} {A : Nat → Prop} {Qp : Int → Mem → Prop} (F : Fx X L scr p s m args c own cc nL R ca sl D cA ad A) (hr : k_ret X Qp (JW p l e R s m args below meth c nL ca sl Q D cA ad A L)) (hv : k_vret X Qp (JW p l e R s m args below meth c nL ca sl Q D cA ad A L)) : Clo X L (xcF scr) Qp (JW p l e R s m args below meth c nL ca sl Q D cA ad A L) :=
  ⟨s_iconst F, s_bipush F, s_sipush F, s_lconst F, s_ldc2 F, s_ldcw F, s_iload_n F, s_iload F, s_lload_n F, s_lload F, s_aload_n F, s_aload F, s_istore_n F, s_istore F, s_astore_n F, s_astore F, s_lstore_n F, s_lstore F, s_iinc F, s_iadd F, s_isub F, s_imul F, s_idiv F, s_irem F, s_ineg F, s_ishl F, s_ishr F, s_iand F, s_ior F, s_ixor F, s_iushr F, s_land F, s_lor F, s_lushr F, s_lshl F, s_i2l F, s_l2i F, s_i2c F, s_lcmp F, s_dup F, s_dup2 F, s_pop F, s_icmp_eq F, s_if_eq F, s_icmp_ne F, s_if_ne F, s_icmp_lt F, s_if_lt F, s_icmp_ge F, s_if_ge F, s_icmp_gt F, s_if_gt F, s_icmp_le F, s_if_le F, s_goto F, s_eqS F, s_tblIn F, s_tblOut F, s_lookup F, s_getI F, s_getR F, s_putI F, s_iald F, s_cald F, s_zald F, s_iast F, s_cast F, s_zast F, s_aald F, s_ialdX F, s_alenX F, s_gets F, s_copy F, s_mmax F, s_mmin F, s_mabs F, s_callVI F, s_callVN F, s_callSI F, s_callSN F, s_gho F, hr, hv⟩

/-- a contract out of the pure machine -/
theorem mt_of {y : MethodName} {b : ByteArray} {mL : Nat} {ret : Option FieldType} {d : Nat} {C : Ct} (X : Sx) (hy : plainName y.cls = true) (hfin : (ret = some .int ∧ X.2.2.2.2.2.2.2 = 1 ∧ C.2.1 = true) ∨ (ret = some .boolean ∧ X.2.2.2.2.2.2.2 = 2 ∧ C.2.1 = true) ∨ (ret = none ∧ X.2.2.2.2.2.2.2 = 0 ∧ C.2.1 = false))
    (htab : X.1.all (fun e => decide (decode b e.1 = .ok e.2)) = true) (hfd : ∀ e ∈ X.2.1, FdOK y.cls e) (hkL : ∀ e ∈ X.2.2.1, Cond.constantLong y.cls e.1 (Int64.ofInt e.2) ∈ GT) (hkI : ∀ e ∈ X.2.2.2.1, Cond.constant y.cls e.1 (Int32.ofInt e.2) ∈ GT) (hsg : ∀ e ∈ X.2.2.2.2.1, SgOK y.cls e) (hnt : ∀ e ∈ X.2.2.2.2.2.1, NtOK y.cls e) (hcl : ∀ e ∈ X.2.2.2.2.2.2.1, ClOK y.cls (rmD d) e)
    (hlen : ∀ as M, as.length = C.1 → C.2.2.1 as M → (iniL as).length ≤ mL)
    (hrun : ∀ (L : Nat) (scr : Int → Int) (as : List PV) (M : Mem), as.length = C.1 → C.2.2.1 as M → Runs X L (xcF scr) (fun x M' => C.2.2.2 as M x M') 0 (iniN as mL) [] M) : MtOK y b mL ret d C := by
  intro l D cA ad A L scr as M hL had has hpre
  refine Met.ofW (cc := b) (maxL := mL) (ret := ret) hy rfl ?_
  intro p e s m args below meth c s₁ B hml hv
  obtain ⟨rfl, hP, hK, hE⟩ := hv
  have hts0 := atoms_spec (ws := .code y b mL ret :: GT) B.pre
  have hts : ∀ w ∈ GT, w.before (as.map (vp ad)).toArray s = true := fun w hw => hts0 w (List.mem_cons_of_mem _ hw)
  have hown : s.vm.findClass y.cls = some m.cls := findClass_of_methodNamed B.named
  have hlocks := B.notSynchronized
  have hx := B.exec
  have hb := B.bytes
  have hr := B.returns
  have F : Fx X L scr p s m (as.map (vp ad)).toArray c y.cls b mL (headSpec (.code y b mL ret :: GT) (rmD d)).room 0 0 D cA ad A :=
    ⟨hx, hb, hml, hown, hts, hK, had, hE, hL, fun z hz => by simpa using List.all_eq_true.mp htab z hz, hfd, hkL, hkI, hsg, hnt, hcl, by show 1 ≤ d + 1; omega, by show 60 ≤ 60 + 30 * d; omega, Nat.zero_le _, Nat.zero_le _⟩
  rw [lg_entry_eq]
  refine hrun L scr as M has hpre _ (sound (below := below) (meth := meth) (e := e) (l := l) (Q := MQ below (QcC C as M D cA ad A L) (as.map (vp ad)).toArray s 0 0 A) F ?_ ?_) s.heap [] _ hP va_S.rf (LR.ini ad as (hlen as M has hpre))
  · intro pc lp M' x h1 h2 hq H locs ls hP' hS hl
    have hdg := F.2.2.2.2.2.2.2.2.2.1 _ (lk_mem h1)
    have hpost : C.2.1 = true → ∀ t : State, t.heap = H → s.WarmedH t.vm → QcC C as M D cA ad A L (as.map (vp ad)).toArray s (.returned (some (.int (Int32.ofInt x)))) t := by
      intro hans t ht hW
      unfold QcC
      rw [if_pos hans]
      exact ⟨⟨_, M', rfl, ⟨x, rfl, hq⟩, by show va_P D clsL (wld ad cA L M') t.heap; rw [ht]; exact hP'⟩, hS.F ht⟩
    rcases hfin with ⟨hret, hz, hans⟩ | ⟨hret, hz, hans⟩ | ⟨hret, hz, hans⟩
    · subst hret
      exact W.iret (v := Int32.ofInt x) hx hb hr (hpost hans) hS.2.2 hdg
    · subst hret
      refine W.zret (v := Int32.ofInt x) (ty := .boolean) hx hb hr ?_ (hpost hans) hS.2.2 hdg
      rcases h2 with h2 | ⟨-, rfl | rfl⟩
      · rw [hz] at h2
        cases h2
      · decide +kernel
      · decide +kernel
    · rw [hz] at h2
      rcases h2 with h2 | ⟨h2, -⟩ <;> cases h2
  · intro pc lp M' h1 hz' hq H locs ls hP' hS hl
    have hdg := F.2.2.2.2.2.2.2.2.2.1 _ (lk_mem h1)
    rcases hfin with ⟨hret, hz, hans⟩ | ⟨hret, hz, hans⟩ | ⟨hret, hz, hans⟩
    · rw [hz] at hz'
      cases hz'
    · rw [hz] at hz'
      cases hz'
    · subst hret
      refine W.vret hx hb hr (fun t ht hW => ?_) hS.2.2 hdg
      unfold QcC
      rw [if_neg (by rw [hans]; decide)]
      exact ⟨⟨M', rfl, hq, by show va_P D clsL (wld ad cA L M') t.heap; rw [ht]; exact hP'⟩, hS.F ht⟩
end
section

theorem fdok {own : String} {i ci k : Nat} (h1 : Nat.blt ci 7 = true) (h2 : Nat.blt k (nfC ci) = true) (h3 : Cond.fieldLink own i (TC ci k).1 (TC ci k).2.1 (TC ci k).2.2.1 ∈ GT) : FdOK own (i, (ci, k)) := ⟨Nat.le_of_ble_eq_true h1, Nat.le_of_ble_eq_true h2, h3⟩
theorem all_nil {α : Type} {P : α → Prop} : ∀ e ∈ ([] : List α), P e := fun _ h => by cases h
theorem all_cons {α : Type} {P : α → Prop} {a : α} {l : List α} (h : P a) (t : ∀ e ∈ l, P e) : ∀ e ∈ a :: l, P e := List.forall_mem_cons.mpr ⟨h, t⟩
theorem ntok0 {own : String} {i : Nat} (h1 : Cond.methodLink own i arraycopyName ∈ GT) (h2 : Cond.native arraycopyName ∈ GT) (h3 : Cond.static arraycopyName ∈ GT) (h4 : Cond.initialized "java/lang/System" ∈ GT) : NtOK own (i, 0) := ⟨fun _ => ⟨h1, h2, h3, h4⟩, (fun h => (by cases h)), (fun h => (by cases h)), (fun h => (by cases h))⟩
theorem ntok1 {own : String} {i : Nat} (h1 : Cond.methodLink own i Lib.Math.max.name ∈ GT) (h2 : Cond.static Lib.Math.max.name ∈ GT) (h3 : Cond.initialized "java/lang/Math" ∈ GT) (h4 : Cond.code Lib.Math.max.name Lib.Math.max.code 2 (some .int) ∈ GT) : NtOK own (i, 1) := ⟨(fun h => (by cases h)), fun _ => ⟨h1, h2, h3, h4⟩, (fun h => (by cases h)), (fun h => (by cases h))⟩
theorem ntok2 {own : String} {i : Nat} (h1 : Cond.methodLink own i Lib.Math.min.name ∈ GT) (h2 : Cond.static Lib.Math.min.name ∈ GT) (h3 : Cond.initialized "java/lang/Math" ∈ GT) (h4 : Cond.code Lib.Math.min.name Lib.Math.min.code 2 (some .int) ∈ GT) : NtOK own (i, 2) := ⟨(fun h => (by cases h)), (fun h => (by cases h)), fun _ => ⟨h1, h2, h3, h4⟩, (fun h => (by cases h))⟩
theorem ntok3 {own : String} {i : Nat} (h1 : Cond.methodLink own i Lib.Math.abs.name ∈ GT) (h2 : Cond.static Lib.Math.abs.name ∈ GT) (h3 : Cond.initialized "java/lang/Math" ∈ GT) (h4 : Cond.code Lib.Math.abs.name Lib.Math.abs.code 1 (some .int) ∈ GT) : NtOK own (i, 3) := ⟨(fun h => (by cases h)), (fun h => (by cases h)), (fun h => (by cases h)), fun _ => ⟨h1, h2, h3, h4⟩⟩
theorem clokV {own : String} {R : Room} {i ci : Nat} {C : Ct} {y : MethodName} {b : ByteArray} {mL d : Nat} {ret : Option FieldType} (hM : MtOK y b mL ret d C) (hci : Nat.blt ci 7 = true) (h1 : Cond.methodLink own i y ∈ GT) (h2 : Cond.initialized y.cls ∈ GT) (h3 : Cond.code y b mL ret ∈ GT)
    (h4 : (y.cls ≠ "java/lang/invoke/MethodHandle") ∧ (y.cls ≠ "java/lang/invoke/VarHandle") ∧ (parseMethodDescriptor y.desc).map (fun d => d.parameters.length) = some (C.1 - 1)) (h5 : (rmD d).frames + 1 ≤ R.frames ∧ 8 + (mL + 11) + (rmD d).locals ≤ R.locals)
    (h6 : Cond.instanceMethod y ∈ GT) (h7 : Cond.selects y.cls y y ∈ GT) (h8 : y.cls = RC ci) (h9 : Nat.ble 1 C.1 = true) : ClOK own R (i, (ci, C)) := by
  have hc : ci < 7 := Nat.le_of_ble_eq_true hci
  exact ⟨y, b, mL, ret, d, hM, h1, h2, h3, ⟨h4.1, h4.2.1, by rw [if_pos hc]; exact h4.2.2⟩, h5, by rw [if_pos hc]; exact ⟨h6, h7, h8, Nat.le_of_ble_eq_true h9⟩⟩
theorem clokS {own : String} {R : Room} {i : Nat} {C : Ct} {y : MethodName} {b : ByteArray} {mL d : Nat} {ret : Option FieldType} (hM : MtOK y b mL ret d C) (h1 : Cond.methodLink own i y ∈ GT) (h2 : Cond.initialized y.cls ∈ GT) (h3 : Cond.code y b mL ret ∈ GT)
    (h4 : (y.cls ≠ "java/lang/invoke/MethodHandle") ∧ (y.cls ≠ "java/lang/invoke/VarHandle") ∧ (parseMethodDescriptor y.desc).map (fun d => d.parameters.length) = some C.1) (h5 : (rmD d).frames + 1 ≤ R.frames ∧ 8 + (mL + 11) + (rmD d).locals ≤ R.locals)
    (h6 : Cond.static y ∈ GT) : ClOK own R (i, (9, C)) :=
  ⟨y, b, mL, ret, d, hM, h1, h2, h3, ⟨h4.1, h4.2.1, by rw [if_neg (fun h => by have h : (9 : Nat) < 7 := h; omega)]; exact h4.2.2⟩, h5, by rw [if_neg (fun h => by have h : (9 : Nat) < 7 := h; omega)]; exact ⟨h6, trivial⟩⟩

def fdX0 : List (Nat × (Nat × Nat)) := [(19, (0, 1)), (9, (0, 0)), (15, (0, 2)), (32, (0, 3)), (35, (0, 4))]
set_option maxRecDepth 20000 in
theorem fdX0_ok : ∀ e ∈ fdX0, FdOK RX0 e := all_cons (fdok rfl rfl (GT_at 44 (by decide +kernel) (by decide +kernel))) (all_cons (fdok rfl rfl (GT_at 42 (by decide +kernel) (by decide +kernel))) (all_cons (fdok rfl rfl (GT_at 47 (by decide +kernel) (by decide +kernel))) (all_cons (fdok rfl rfl (GT_at 50 (by decide +kernel) (by decide +kernel))) (all_cons (fdok rfl rfl (GT_at 53 (by decide +kernel) (by decide +kernel))) (all_nil)))))
def kLX0 : List (Nat × Int) := []
set_option maxRecDepth 20000 in
theorem kLX0_ok : ∀ e ∈ kLX0, Cond.constantLong RX0 e.1 (Int64.ofInt e.2) ∈ GT := all_nil
def kIX0 : List (Nat × Int) := []
set_option maxRecDepth 20000 in
theorem kIX0_ok : ∀ e ∈ kIX0, Cond.constant RX0 e.1 (Int32.ofInt e.2) ∈ GT := all_nil
def sgX0 : List (Nat × Nat) := []
set_option maxRecDepth 20000 in
theorem sgX0_ok : ∀ e ∈ sgX0, SgOK RX0 e := all_nil
def ntX0 : List (Nat × Nat) := [(26, 0)]
set_option maxRecDepth 20000 in
theorem ntX0_ok : ∀ e ∈ ntX0, NtOK RX0 e := all_cons (ntok0 (GT_at 260 (by decide +kernel) (by decide +kernel)) (GT_at 255 (by decide +kernel) (by decide +kernel)) (GT_at 254 (by decide +kernel) (by decide +kernel)) (GT_at 19 (by decide +kernel) (by decide +kernel))) (all_nil)
def fdX1 : List (Nat × (Nat × Nat)) := [(12, (1, 0)), (18, (1, 1)), (22, (1, 2))]
set_option maxRecDepth 20000 in
theorem fdX1_ok : ∀ e ∈ fdX1, FdOK RX1 e := all_cons (fdok rfl rfl (GT_at 161 (by decide +kernel) (by decide +kernel))) (all_cons (fdok rfl rfl (GT_at 162 (by decide +kernel) (by decide +kernel))) (all_cons (fdok rfl rfl (GT_at 163 (by decide +kernel) (by decide +kernel))) (all_nil)))
def kLX1 : List (Nat × Int) := []
set_option maxRecDepth 20000 in
theorem kLX1_ok : ∀ e ∈ kLX1, Cond.constantLong RX1 e.1 (Int64.ofInt e.2) ∈ GT := all_nil
def kIX1 : List (Nat × Int) := []
set_option maxRecDepth 20000 in
theorem kIX1_ok : ∀ e ∈ kIX1, Cond.constant RX1 e.1 (Int32.ofInt e.2) ∈ GT := all_nil
def sgX1 : List (Nat × Nat) := []
set_option maxRecDepth 20000 in
theorem sgX1_ok : ∀ e ∈ sgX1, SgOK RX1 e := all_nil
def ntX1 : List (Nat × Nat) := []
set_option maxRecDepth 20000 in
theorem ntX1_ok : ∀ e ∈ ntX1, NtOK RX1 e := all_nil
def fdX2 : List (Nat × (Nat × Nat)) := [(19, (2, 1)), (9, (2, 0)), (23, (2, 4)), (30, (2, 2)), (15, (2, 3))]
set_option maxRecDepth 20000 in
theorem fdX2_ok : ∀ e ∈ fdX2, FdOK RX2 e := all_cons (fdok rfl rfl (GT_at 179 (by decide +kernel) (by decide +kernel))) (all_cons (fdok rfl rfl (GT_at 178 (by decide +kernel) (by decide +kernel))) (all_cons (fdok rfl rfl (GT_at 185 (by decide +kernel) (by decide +kernel))) (all_cons (fdok rfl rfl (GT_at 181 (by decide +kernel) (by decide +kernel))) (all_cons (fdok rfl rfl (GT_at 183 (by decide +kernel) (by decide +kernel))) (all_nil)))))
def kLX2 : List (Nat × Int) := []
set_option maxRecDepth 20000 in
theorem kLX2_ok : ∀ e ∈ kLX2, Cond.constantLong RX2 e.1 (Int64.ofInt e.2) ∈ GT := all_nil
def kIX2 : List (Nat × Int) := []
set_option maxRecDepth 20000 in
theorem kIX2_ok : ∀ e ∈ kIX2, Cond.constant RX2 e.1 (Int32.ofInt e.2) ∈ GT := all_nil
def sgX2 : List (Nat × Nat) := []
set_option maxRecDepth 20000 in
theorem sgX2_ok : ∀ e ∈ sgX2, SgOK RX2 e := all_nil
def ntX2 : List (Nat × Nat) := []
set_option maxRecDepth 20000 in
theorem ntX2_ok : ∀ e ∈ ntX2, NtOK RX2 e := all_nil
def fdX3 : List (Nat × (Nat × Nat)) := []
set_option maxRecDepth 20000 in
theorem fdX3_ok : ∀ e ∈ fdX3, FdOK RX3 e := all_nil
def kLX3 : List (Nat × Int) := []
set_option maxRecDepth 20000 in
theorem kLX3_ok : ∀ e ∈ kLX3, Cond.constantLong RX3 e.1 (Int64.ofInt e.2) ∈ GT := all_nil
def kIX3 : List (Nat × Int) := []
set_option maxRecDepth 20000 in
theorem kIX3_ok : ∀ e ∈ kIX3, Cond.constant RX3 e.1 (Int32.ofInt e.2) ∈ GT := all_nil
def sgX3 : List (Nat × Nat) := []
set_option maxRecDepth 20000 in
theorem sgX3_ok : ∀ e ∈ sgX3, SgOK RX3 e := all_nil
def ntX3 : List (Nat × Nat) := []
set_option maxRecDepth 20000 in
theorem ntX3_ok : ∀ e ∈ ntX3, NtOK RX3 e := all_nil
def fdX4 : List (Nat × (Nat × Nat)) := [(31, (4, 4)), (35, (5, 0)), (43, (5, 5)), (24, (4, 3)), (46, (0, 1)), (49, (4, 6)), (52, (4, 7)), (55, (4, 8)), (9, (4, 0)), (15, (4, 1)), (18, (4, 2)), (69, (5, 1)), (72, (0, 0)), (83, (4, 5)), (110, (0, 2)), (113, (0, 3)), (129, (5, 7)), (132, (0, 4)), (135, (5, 3)), (146, (5, 6))]
set_option maxRecDepth 20000 in
theorem fdX4_ok : ∀ e ∈ fdX4, FdOK RX4 e := all_cons (fdok rfl rfl (GT_at 123 (by decide +kernel) (by decide +kernel))) (all_cons (fdok rfl rfl (GT_at 77 (by decide +kernel) (by decide +kernel))) (all_cons (fdok rfl rfl (GT_at 90 (by decide +kernel) (by decide +kernel))) (all_cons (fdok rfl rfl (GT_at 121 (by decide +kernel) (by decide +kernel))) (all_cons (fdok rfl rfl (GT_at 45 (by decide +kernel) (by decide +kernel))) (all_cons (fdok rfl rfl (GT_at 127 (by decide +kernel) (by decide +kernel))) (all_cons (fdok rfl rfl (GT_at 129 (by decide +kernel) (by decide +kernel))) (all_cons (fdok rfl rfl (GT_at 131 (by decide +kernel) (by decide +kernel))) (all_cons (fdok rfl rfl (GT_at 115 (by decide +kernel) (by decide +kernel))) (all_cons (fdok rfl rfl (GT_at 117 (by decide +kernel) (by decide +kernel))) (all_cons (fdok rfl rfl (GT_at 119 (by decide +kernel) (by decide +kernel))) (all_cons (fdok rfl rfl (GT_at 80 (by decide +kernel) (by decide +kernel))) (all_cons (fdok rfl rfl (GT_at 43 (by decide +kernel) (by decide +kernel))) (all_cons (fdok rfl rfl (GT_at 126 (by decide +kernel) (by decide +kernel))) (all_cons (fdok rfl rfl (GT_at 49 (by decide +kernel) (by decide +kernel))) (all_cons (fdok rfl rfl (GT_at 52 (by decide +kernel) (by decide +kernel))) (all_cons (fdok rfl rfl (GT_at 97 (by decide +kernel) (by decide +kernel))) (all_cons (fdok rfl rfl (GT_at 55 (by decide +kernel) (by decide +kernel))) (all_cons (fdok rfl rfl (GT_at 86 (by decide +kernel) (by decide +kernel))) (all_cons (fdok rfl rfl (GT_at 94 (by decide +kernel) (by decide +kernel))) (all_nil))))))))))))))))))))
def kLX4 : List (Nat × Int) := []
set_option maxRecDepth 20000 in
theorem kLX4_ok : ∀ e ∈ kLX4, Cond.constantLong RX4 e.1 (Int64.ofInt e.2) ∈ GT := all_nil
def kIX4 : List (Nat × Int) := []
set_option maxRecDepth 20000 in
theorem kIX4_ok : ∀ e ∈ kIX4, Cond.constant RX4 e.1 (Int32.ofInt e.2) ∈ GT := all_nil
def sgX4 : List (Nat × Nat) := []
set_option maxRecDepth 20000 in
theorem sgX4_ok : ∀ e ∈ sgX4, SgOK RX4 e := all_nil
def ntX4 : List (Nat × Nat) := [(78, 1), (149, 0)]
set_option maxRecDepth 20000 in
theorem ntX4_ok : ∀ e ∈ ntX4, NtOK RX4 e := all_cons (ntok1 (GT_at 532 (by decide +kernel) (by decide +kernel)) (GT_at 432 (by decide +kernel) (by decide +kernel)) (GT_at 18 (by decide +kernel) (by decide +kernel)) (GT_at 433 (by decide +kernel) (by decide +kernel))) (all_cons (ntok0 (GT_at 253 (by decide +kernel) (by decide +kernel)) (GT_at 255 (by decide +kernel) (by decide +kernel)) (GT_at 254 (by decide +kernel) (by decide +kernel)) (GT_at 19 (by decide +kernel) (by decide +kernel))) (all_nil))
def fdX5 : List (Nat × (Nat × Nat)) := [(9, (5, 1)), (35, (5, 0)), (17, (5, 2)), (20, (5, 3)), (23, (5, 4)), (26, (5, 5)), (29, (5, 6)), (32, (5, 7))]
set_option maxRecDepth 20000 in
theorem fdX5_ok : ∀ e ∈ fdX5, FdOK RX5 e := all_cons (fdok rfl rfl (GT_at 79 (by decide +kernel) (by decide +kernel))) (all_cons (fdok rfl rfl (GT_at 76 (by decide +kernel) (by decide +kernel))) (all_cons (fdok rfl rfl (GT_at 82 (by decide +kernel) (by decide +kernel))) (all_cons (fdok rfl rfl (GT_at 84 (by decide +kernel) (by decide +kernel))) (all_cons (fdok rfl rfl (GT_at 87 (by decide +kernel) (by decide +kernel))) (all_cons (fdok rfl rfl (GT_at 89 (by decide +kernel) (by decide +kernel))) (all_cons (fdok rfl rfl (GT_at 92 (by decide +kernel) (by decide +kernel))) (all_cons (fdok rfl rfl (GT_at 95 (by decide +kernel) (by decide +kernel))) (all_nil))))))))
def kLX5 : List (Nat × Int) := []
set_option maxRecDepth 20000 in
theorem kLX5_ok : ∀ e ∈ kLX5, Cond.constantLong RX5 e.1 (Int64.ofInt e.2) ∈ GT := all_nil
def kIX5 : List (Nat × Int) := []
set_option maxRecDepth 20000 in
theorem kIX5_ok : ∀ e ∈ kIX5, Cond.constant RX5 e.1 (Int32.ofInt e.2) ∈ GT := all_nil
def sgX5 : List (Nat × Nat) := []
set_option maxRecDepth 20000 in
theorem sgX5_ok : ∀ e ∈ sgX5, SgOK RX5 e := all_nil
def ntX5 : List (Nat × Nat) := [(45, 3), (54, 1), (57, 0)]
set_option maxRecDepth 20000 in
theorem ntX5_ok : ∀ e ∈ ntX5, NtOK RX5 e := all_cons (ntok3 (GT_at 380 (by decide +kernel) (by decide +kernel)) (GT_at 381 (by decide +kernel) (by decide +kernel)) (GT_at 18 (by decide +kernel) (by decide +kernel)) (GT_at 382 (by decide +kernel) (by decide +kernel))) (all_cons (ntok1 (GT_at 431 (by decide +kernel) (by decide +kernel)) (GT_at 432 (by decide +kernel) (by decide +kernel)) (GT_at 18 (by decide +kernel) (by decide +kernel)) (GT_at 433 (by decide +kernel) (by decide +kernel))) (all_cons (ntok0 (GT_at 265 (by decide +kernel) (by decide +kernel)) (GT_at 255 (by decide +kernel) (by decide +kernel)) (GT_at 254 (by decide +kernel) (by decide +kernel)) (GT_at 19 (by decide +kernel) (by decide +kernel))) (all_nil)))
def fdX6 : List (Nat × (Nat × Nat)) := [(22, (6, 2)), (10, (6, 0)), (56, (4, 0)), (59, (4, 1)), (62, (4, 2)), (65, (4, 3)), (69, (0, 2)), (37, (6, 5)), (82, (4, 4)), (86, (5, 0)), (91, (2, 2)), (94, (2, 3)), (101, (2, 1)), (108, (5, 2)), (128, (5, 5)), (131, (5, 3)), (134, (4, 5)), (143, (5, 1)), (153, (5, 4)), (156, (5, 6)), (159, (5, 7)), (168, (0, 1)), (174, (0, 3)), (177, (0, 4)), (183, (4, 6)), (186, (4, 7)), (189, (4, 8)), (198, (1, 2)), (16, (6, 1))]
set_option maxRecDepth 20000 in
theorem fdX6_ok : ∀ e ∈ fdX6, FdOK RX6 e := all_cons (fdok rfl rfl (GT_at 201 (by decide +kernel) (by decide +kernel))) (all_cons (fdok rfl rfl (GT_at 199 (by decide +kernel) (by decide +kernel))) (all_cons (fdok rfl rfl (GT_at 116 (by decide +kernel) (by decide +kernel))) (all_cons (fdok rfl rfl (GT_at 118 (by decide +kernel) (by decide +kernel))) (all_cons (fdok rfl rfl (GT_at 120 (by decide +kernel) (by decide +kernel))) (all_cons (fdok rfl rfl (GT_at 122 (by decide +kernel) (by decide +kernel))) (all_cons (fdok rfl rfl (GT_at 48 (by decide +kernel) (by decide +kernel))) (all_cons (fdok rfl rfl (GT_at 204 (by decide +kernel) (by decide +kernel))) (all_cons (fdok rfl rfl (GT_at 124 (by decide +kernel) (by decide +kernel))) (all_cons (fdok rfl rfl (GT_at 78 (by decide +kernel) (by decide +kernel))) (all_cons (fdok rfl rfl (GT_at 182 (by decide +kernel) (by decide +kernel))) (all_cons (fdok rfl rfl (GT_at 184 (by decide +kernel) (by decide +kernel))) (all_cons (fdok rfl rfl (GT_at 180 (by decide +kernel) (by decide +kernel))) (all_cons (fdok rfl rfl (GT_at 83 (by decide +kernel) (by decide +kernel))) (all_cons (fdok rfl rfl (GT_at 91 (by decide +kernel) (by decide +kernel))) (all_cons (fdok rfl rfl (GT_at 85 (by decide +kernel) (by decide +kernel))) (all_cons (fdok rfl rfl (GT_at 125 (by decide +kernel) (by decide +kernel))) (all_cons (fdok rfl rfl (GT_at 81 (by decide +kernel) (by decide +kernel))) (all_cons (fdok rfl rfl (GT_at 88 (by decide +kernel) (by decide +kernel))) (all_cons (fdok rfl rfl (GT_at 93 (by decide +kernel) (by decide +kernel))) (all_cons (fdok rfl rfl (GT_at 96 (by decide +kernel) (by decide +kernel))) (all_cons (fdok rfl rfl (GT_at 46 (by decide +kernel) (by decide +kernel))) (all_cons (fdok rfl rfl (GT_at 51 (by decide +kernel) (by decide +kernel))) (all_cons (fdok rfl rfl (GT_at 54 (by decide +kernel) (by decide +kernel))) (all_cons (fdok rfl rfl (GT_at 128 (by decide +kernel) (by decide +kernel))) (all_cons (fdok rfl rfl (GT_at 130 (by decide +kernel) (by decide +kernel))) (all_cons (fdok rfl rfl (GT_at 132 (by decide +kernel) (by decide +kernel))) (all_cons (fdok rfl rfl (GT_at 164 (by decide +kernel) (by decide +kernel))) (all_cons (fdok rfl rfl (GT_at 200 (by decide +kernel) (by decide +kernel))) (all_nil)))))))))))))))))))))))))))))
def kLX6 : List (Nat × Int) := [(218, 255)]
set_option maxRecDepth 20000 in
theorem kLX6_ok : ∀ e ∈ kLX6, Cond.constantLong RX6 e.1 (Int64.ofInt e.2) ∈ GT := all_cons (GT_at 325 (by decide +kernel) (by decide +kernel)) (all_nil)
def kIX6 : List (Nat × Int) := []
set_option maxRecDepth 20000 in
theorem kIX6_ok : ∀ e ∈ kIX6, Cond.constant RX6 e.1 (Int32.ofInt e.2) ∈ GT := all_nil
def sgX6 : List (Nat × Nat) := [(45, 1), (49, 2)]
set_option maxRecDepth 20000 in
theorem sgX6_ok : ∀ e ∈ sgX6, SgOK RX6 e := all_cons (Or.inl ⟨rfl, (GT_at 340 (by decide +kernel) (by decide +kernel))⟩) (all_cons (Or.inr ⟨rfl, (GT_at 342 (by decide +kernel) (by decide +kernel))⟩) (all_nil))
def ntX6 : List (Nat × Nat) := [(207, 2), (215, 1)]
set_option maxRecDepth 20000 in
theorem ntX6_ok : ∀ e ∈ ntX6, NtOK RX6 e := all_cons (ntok2 (GT_at 541 (by decide +kernel) (by decide +kernel)) (GT_at 542 (by decide +kernel) (by decide +kernel)) (GT_at 18 (by decide +kernel) (by decide +kernel)) (GT_at 543 (by decide +kernel) (by decide +kernel))) (all_cons (ntok1 (GT_at 533 (by decide +kernel) (by decide +kernel)) (GT_at 432 (by decide +kernel) (by decide +kernel)) (GT_at 18 (by decide +kernel) (by decide +kernel)) (GT_at 433 (by decide +kernel) (by decide +kernel))) (all_nil))
def fdJ6 : List (Nat × (Nat × Nat)) := []
set_option maxRecDepth 20000 in
theorem fdJ6_ok : ∀ e ∈ fdJ6, FdOK RJ6 e := all_nil
def kLJ6 : List (Nat × Int) := []
set_option maxRecDepth 20000 in
theorem kLJ6_ok : ∀ e ∈ kLJ6, Cond.constantLong RJ6 e.1 (Int64.ofInt e.2) ∈ GT := all_nil
def kIJ6 : List (Nat × Int) := [(265, 1431655765), (266, 858993459), (267, 252645135)]
set_option maxRecDepth 20000 in
theorem kIJ6_ok : ∀ e ∈ kIJ6, Cond.constant RJ6 e.1 (Int32.ofInt e.2) ∈ GT := all_cons (GT_at 437 (by decide +kernel) (by decide +kernel)) (all_cons (GT_at 438 (by decide +kernel) (by decide +kernel)) (all_cons (GT_at 439 (by decide +kernel) (by decide +kernel)) (all_nil)))
def sgJ6 : List (Nat × Nat) := []
set_option maxRecDepth 20000 in
theorem sgJ6_ok : ∀ e ∈ sgJ6, SgOK RJ6 e := all_nil
def ntJ6 : List (Nat × Nat) := []
set_option maxRecDepth 20000 in
theorem ntJ6_ok : ∀ e ∈ ntJ6, NtOK RJ6 e := all_nil
def fdL : List (Nat × (Nat × Nat)) := []
set_option maxRecDepth 20000 in
theorem fdL_ok : ∀ e ∈ fdL, FdOK RL e := all_nil
def kLL : List (Nat × Int) := [(26, 58), (28, 47), (30, 61), (81, 13), (83, 31)]
set_option maxRecDepth 20000 in
theorem kLL_ok : ∀ e ∈ kLL, Cond.constantLong RL e.1 (Int64.ofInt e.2) ∈ GT := all_cons (GT_at 330 (by decide +kernel) (by decide +kernel)) (all_cons (GT_at 331 (by decide +kernel) (by decide +kernel)) (all_cons (GT_at 332 (by decide +kernel) (by decide +kernel)) (all_cons (GT_at 498 (by decide +kernel) (by decide +kernel)) (all_cons (GT_at 499 (by decide +kernel) (by decide +kernel)) (all_nil)))))
def kIL : List (Nat × Int) := [(7, 1063091089), (8, 388578125), (9, 2147483647)]
set_option maxRecDepth 20000 in
theorem kIL_ok : ∀ e ∈ kIL, Cond.constant RL e.1 (Int32.ofInt e.2) ∈ GT := all_cons (GT_at 308 (by decide +kernel) (by decide +kernel)) (all_cons (GT_at 309 (by decide +kernel) (by decide +kernel)) (all_cons (GT_at 313 (by decide +kernel) (by decide +kernel)) (all_nil)))
def sgL : List (Nat × Nat) := []
set_option maxRecDepth 20000 in
theorem sgL_ok : ∀ e ∈ sgL, SgOK RL e := all_nil
def ntL : List (Nat × Nat) := []
set_option maxRecDepth 20000 in
theorem ntL_ok : ∀ e ∈ ntL, NtOK RL e := all_nil
def tb_X0_append : List (Nat × (Instr × Nat)) := [(0, (.aload_n 0, 1)), (1, (.getfield 19, 3)), (4, (.bipush 16, 2)), (6, (.if_icmp .ge 23, 3)), (9, (.aload_n 0, 1)), (10, (.getfield 9, 3)), (13, (.aload_n 0, 1)), (14, (.getfield 19, 3)), (17, (.iload_n 1, 1)), (18, (.iastore, 1)), (19, (.aload_n 0, 1)), (20, (.dup, 1)), (21, (.getfield 19, 3)), (24, (.iconst 1, 1)), (25, (.iadd, 1)), (26, (.putfield 19, 3)), (29, (.return_, 1))]
def tb_X0_placeOf : List (Nat × (Instr × Nat)) := [(0, (.iconst 0, 1)), (1, (.istore_n 2, 1)), (2, (.iload_n 2, 1)), (3, (.aload_n 0, 1)), (4, (.getfield 19, 3)), (7, (.if_icmp .ge 21, 3)), (10, (.aload_n 0, 1)), (11, (.getfield 9, 3)), (14, (.iload_n 2, 1)), (15, (.iaload, 1)), (16, (.iload_n 1, 1)), (17, (.if_icmp .ne 5, 3)), (20, (.iload_n 2, 1)), (21, (.ireturn, 1)), (22, (.iinc 2 1, 3)), (25, (.goto (-23), 3)), (28, (.bipush (-6), 2)), (30, (.ireturn, 1))]
def tb_X0_dismiss : List (Nat × (Instr × Nat)) := [(0, (.aload_n 0, 1)), (1, (.iload_n 1, 1)), (2, (.invokevirtual 22, 3)), (5, (.istore_n 2, 1)), (6, (.iload_n 2, 1)), (7, (.bipush (-6), 2)), (9, (.if_icmp .ne 4, 3)), (12, (.return_, 1)), (13, (.aload_n 0, 1)), (14, (.dup, 1)), (15, (.getfield 19, 3)), (18, (.iconst 1, 1)), (19, (.isub, 1)), (20, (.putfield 19, 3)), (23, (.iload_n 2, 1)), (24, (.istore_n 3, 1)), (25, (.iload_n 3, 1)), (26, (.aload_n 0, 1)), (27, (.getfield 19, 3)), (30, (.if_icmp .ge 23, 3)), (33, (.aload_n 0, 1)), (34, (.getfield 9, 3)), (37, (.iload_n 3, 1)), (38, (.aload_n 0, 1)), (39, (.getfield 9, 3)), (42, (.iload_n 3, 1)), (43, (.iconst 1, 1)), (44, (.iadd, 1)), (45, (.iaload, 1)), (46, (.iastore, 1)), (47, (.iinc 3 1, 3)), (50, (.goto (-25), 3)), (53, (.return_, 1))]
def tb_X0_copyFrom : List (Nat × (Instr × Nat)) := [(0, (.aload_n 1, 1)), (1, (.getfield 9, 3)), (4, (.iconst 0, 1)), (5, (.aload_n 0, 1)), (6, (.getfield 9, 3)), (9, (.iconst 0, 1)), (10, (.bipush 16, 2)), (12, (.invokestatic 26, 3)), (15, (.aload_n 0, 1)), (16, (.aload_n 1, 1)), (17, (.getfield 19, 3)), (20, (.putfield 19, 3)), (23, (.aload_n 0, 1)), (24, (.aload_n 1, 1)), (25, (.getfield 15, 3)), (28, (.putfield 15, 3)), (31, (.aload_n 0, 1)), (32, (.aload_n 1, 1)), (33, (.getfield 32, 3)), (36, (.putfield 32, 3)), (39, (.aload_n 0, 1)), (40, (.aload_n 1, 1)), (41, (.getfield 35, 3)), (44, (.putfield 35, 3)), (47, (.return_, 1))]
def tb_X1_keep : List (Nat × (Instr × Nat)) := [(0, (.aload_n 0, 1)), (1, (.getfield 12, 3)), (4, (.aload_n 0, 1)), (5, (.getfield 18, 3)), (8, (.aload_n 0, 1)), (9, (.getfield 22, 3)), (12, (.iadd, 1)), (13, (.iconst 4, 1)), (14, (.irem, 1)), (15, (.aaload, 1)), (16, (.aload_n 1, 1)), (17, (.invokevirtual 25, 3)), (20, (.aload_n 0, 1)), (21, (.getfield 22, 3)), (24, (.iconst 4, 1)), (25, (.if_icmp .ge 16, 3)), (28, (.aload_n 0, 1)), (29, (.dup, 1)), (30, (.getfield 22, 3)), (33, (.iconst 1, 1)), (34, (.iadd, 1)), (35, (.putfield 22, 3)), (38, (.goto 15, 3)), (41, (.aload_n 0, 1)), (42, (.aload_n 0, 1)), (43, (.getfield 18, 3)), (46, (.iconst 1, 1)), (47, (.iadd, 1)), (48, (.iconst 4, 1)), (49, (.irem, 1)), (50, (.putfield 18, 3)), (53, (.return_, 1))]
def tb_X1_takeBack : List (Nat × (Instr × Nat)) := [(0, (.aload_n 0, 1)), (1, (.dup, 1)), (2, (.getfield 22, 3)), (5, (.iconst 1, 1)), (6, (.isub, 1)), (7, (.putfield 22, 3)), (10, (.aload_n 1, 1)), (11, (.aload_n 0, 1)), (12, (.getfield 12, 3)), (15, (.aload_n 0, 1)), (16, (.getfield 18, 3)), (19, (.aload_n 0, 1)), (20, (.getfield 22, 3)), (23, (.iadd, 1)), (24, (.iconst 4, 1)), (25, (.irem, 1)), (26, (.aaload, 1)), (27, (.invokevirtual 25, 3)), (30, (.return_, 1))]
def tb_X2_append : List (Nat × (Instr × Nat)) := [(0, (.aload_n 0, 1)), (1, (.getfield 19, 3)), (4, (.bipush 60, 2)), (6, (.if_icmp .ge 23, 3)), (9, (.aload_n 0, 1)), (10, (.getfield 9, 3)), (13, (.aload_n 0, 1)), (14, (.getfield 19, 3)), (17, (.iload_n 1, 1)), (18, (.castore, 1)), (19, (.aload_n 0, 1)), (20, (.dup, 1)), (21, (.getfield 19, 3)), (24, (.iconst 1, 1)), (25, (.iadd, 1)), (26, (.putfield 19, 3)), (29, (.return_, 1))]
def tb_X2_findFault : List (Nat × (Instr × Nat)) := [(0, (.aload_n 0, 1)), (1, (.iconst 0, 1)), (2, (.putfield 23, 3)), (5, (.aload_n 0, 1)), (6, (.bipush 48, 2)), (8, (.bipush 52, 2)), (10, (.invokevirtual 26, 3)), (13, (.ifCond .ne 8, 3)), (16, (.aload_n 0, 1)), (17, (.getfield 23, 3)), (20, (.ireturn, 1)), (21, (.aload_n 0, 1)), (22, (.aload_n 0, 1)), (23, (.getfield 9, 3)), (26, (.aload_n 0, 1)), (27, (.getfield 23, 3)), (30, (.caload, 1)), (31, (.bipush 48, 2)), (33, (.isub, 1)), (34, (.putfield 30, 3)), (37, (.aload_n 0, 1)), (38, (.dup, 1)), (39, (.getfield 23, 3)), (42, (.iconst 1, 1)), (43, (.iadd, 1)), (44, (.putfield 23, 3)), (47, (.aload_n 0, 1)), (48, (.bipush 58, 2)), (50, (.invokevirtual 33, 3)), (53, (.ifCond .eq 28, 3)), (56, (.aload_n 0, 1)), (57, (.iconst 0, 1)), (58, (.invokevirtual 37, 3)), (61, (.ifCond .eq 20, 3)), (64, (.aload_n 0, 1)), (65, (.bipush 47, 2)), (67, (.invokevirtual 33, 3)), (70, (.ifCond .eq 11, 3)), (73, (.aload_n 0, 1)), (74, (.iconst 1, 1)), (75, (.invokevirtual 37, 3)), (78, (.ifCond .ne 8, 3)), (81, (.aload_n 0, 1)), (82, (.getfield 23, 3)), (85, (.ireturn, 1)), (86, (.aload_n 0, 1)), (87, (.getfield 23, 3)), (90, (.aload_n 0, 1)), (91, (.getfield 19, 3)), (94, (.if_icmp .ne 18, 3)), (97, (.aload_n 0, 1)), (98, (.getfield 15, 3)), (101, (.iconst 2, 1)), (102, (.aload_n 0, 1)), (103, (.getfield 15, 3)), (106, (.iconst 0, 1)), (107, (.iaload, 1)), (108, (.iastore, 1)), (109, (.bipush (-6), 2)), (111, (.ireturn, 1)), (112, (.aload_n 0, 1)), (113, (.bipush 61, 2)), (115, (.invokevirtual 33, 3)), (118, (.ifCond .eq 22, 3)), (121, (.aload_n 0, 1)), (122, (.iconst 2, 1)), (123, (.invokevirtual 37, 3)), (126, (.ifCond .eq 14, 3)), (129, (.aload_n 0, 1)), (130, (.getfield 23, 3)), (133, (.aload_n 0, 1)), (134, (.getfield 19, 3)), (137, (.if_icmp .ge 8, 3)), (140, (.aload_n 0, 1)), (141, (.getfield 23, 3)), (144, (.ireturn, 1)), (145, (.bipush (-6), 2)), (147, (.ireturn, 1))]
def tb_X2_isNext : List (Nat × (Instr × Nat)) := [(0, (.aload_n 0, 1)), (1, (.getfield 23, 3)), (4, (.aload_n 0, 1)), (5, (.getfield 19, 3)), (8, (.if_icmp .ge 33, 3)), (11, (.aload_n 0, 1)), (12, (.getfield 9, 3)), (15, (.aload_n 0, 1)), (16, (.getfield 23, 3)), (19, (.caload, 1)), (20, (.iload_n 1, 1)), (21, (.if_icmp .lt 20, 3)), (24, (.aload_n 0, 1)), (25, (.getfield 9, 3)), (28, (.aload_n 0, 1)), (29, (.getfield 23, 3)), (32, (.caload, 1)), (33, (.iload_n 2, 1)), (34, (.if_icmp .gt 7, 3)), (37, (.iconst 1, 1)), (38, (.goto 4, 3)), (41, (.iconst 0, 1)), (42, (.ireturn, 1))]
def tb_X2_skips : List (Nat × (Instr × Nat)) := [(0, (.aload_n 0, 1)), (1, (.iload_n 1, 1)), (2, (.iload_n 1, 1)), (3, (.invokevirtual 26, 3)), (6, (.ifCond .ne 5, 3)), (9, (.iconst 0, 1)), (10, (.ireturn, 1)), (11, (.aload_n 0, 1)), (12, (.dup, 1)), (13, (.getfield 23, 3)), (16, (.iconst 1, 1)), (17, (.iadd, 1)), (18, (.putfield 23, 3)), (21, (.iconst 1, 1)), (22, (.ireturn, 1))]
def tb_X2_readPaper : List (Nat × (Instr × Nat)) := [(0, (.iconst 0, 1)), (1, (.istore_n 2, 1)), (2, (.bipush 97, 2)), (4, (.istore_n 3, 1)), (5, (.iconst 0, 1)), (6, (.istore 4, 2)), (8, (.iload 4, 2)), (10, (.bipush 6, 2)), (12, (.if_icmp .ge 91, 3)), (15, (.aload_n 0, 1)), (16, (.iload_n 3, 1)), (17, (.bipush 102, 2)), (19, (.invokevirtual 26, 3)), (22, (.ifCond .eq 81, 3)), (25, (.aload_n 0, 1)), (26, (.getfield 9, 3)), (29, (.aload_n 0, 1)), (30, (.getfield 23, 3)), (33, (.caload, 1)), (34, (.istore 5, 2)), (36, (.aload_n 0, 1)), (37, (.dup, 1)), (38, (.getfield 23, 3)), (41, (.iconst 1, 1)), (42, (.iadd, 1)), (43, (.putfield 23, 3)), (46, (.aload_n 0, 1)), (47, (.bipush 49, 2)), (49, (.bipush 57, 2)), (51, (.invokevirtual 26, 3)), (54, (.ifCond .ne 5, 3)), (57, (.iconst 0, 1)), (58, (.ireturn, 1)), (59, (.iload_n 2, 1)), (60, (.iload 5, 2)), (62, (.bipush 97, 2)), (64, (.isub, 1)), (65, (.aload_n 0, 1)), (66, (.getfield 9, 3)), (69, (.aload_n 0, 1)), (70, (.getfield 23, 3)), (73, (.caload, 1)), (74, (.bipush 48, 2)), (76, (.isub, 1)), (77, (.invokestatic 41, 3)), (80, (.istore_n 2, 1)), (81, (.aload_n 0, 1)), (82, (.dup, 1)), (83, (.getfield 23, 3)), (86, (.iconst 1, 1)), (87, (.iadd, 1)), (88, (.putfield 23, 3)), (91, (.iload 5, 2)), (93, (.iconst 1, 1)), (94, (.iadd, 1)), (95, (.i2c, 1)), (96, (.istore_n 3, 1)), (97, (.iinc 4 1, 3)), (100, (.goto (-92), 3)), (103, (.aload_n 0, 1)), (104, (.getfield 15, 3)), (107, (.iload_n 1, 1)), (108, (.iload_n 2, 1)), (109, (.iastore, 1)), (110, (.iconst 1, 1)), (111, (.ireturn, 1))]
def tb_X3_piecesOf : List (Nat × (Instr × Nat)) := [(0, (.iload_n 0, 1)), (1, (.iload_n 1, 1)), (2, (.iconst 4, 1)), (3, (.imul, 1)), (4, (.ishr, 1)), (5, (.bipush 15, 2)), (7, (.iand, 1)), (8, (.ireturn, 1))]
def tb_X3_withPieces : List (Nat × (Instr × Nat)) := [(0, (.iload_n 0, 1)), (1, (.bipush 15, 2)), (3, (.iload_n 1, 1)), (4, (.iconst 4, 1)), (5, (.imul, 1)), (6, (.ishl, 1)), (7, (.iconst (-1), 1)), (8, (.ixor, 1)), (9, (.iand, 1)), (10, (.iload_n 2, 1)), (11, (.iload_n 1, 1)), (12, (.iconst 4, 1)), (13, (.imul, 1)), (14, (.ishl, 1)), (15, (.ior, 1)), (16, (.ireturn, 1))]
def tb_X4_hasCome : List (Nat × (Instr × Nat)) := [(0, (.iload_n 1, 1)), (1, (.ifCond .lt 18, 3)), (4, (.iload_n 1, 1)), (5, (.aload_n 0, 1)), (6, (.getfield 31, 3)), (9, (.getfield 35, 3)), (12, (.if_icmp .ge 7, 3)), (15, (.iconst 1, 1)), (16, (.goto 4, 3)), (19, (.iconst 0, 1)), (20, (.ireturn, 1))]
def tb_X4_isWaiting : List (Nat × (Instr × Nat)) := [(0, (.aload_n 0, 1)), (1, (.iload_n 1, 1)), (2, (.invokevirtual 39, 3)), (5, (.ifCond .eq 19, 3)), (8, (.aload_n 0, 1)), (9, (.getfield 31, 3)), (12, (.getfield 43, 3)), (15, (.iload_n 1, 1)), (16, (.iaload, 1)), (17, (.ifCond .ne 7, 3)), (20, (.iconst 1, 1)), (21, (.goto 4, 3)), (24, (.iconst 0, 1)), (25, (.ireturn, 1))]
def tb_X4_waitingTrunks : List (Nat × (Instr × Nat)) := [(0, (.iconst 0, 1)), (1, (.istore_n 1, 1)), (2, (.iconst 0, 1)), (3, (.istore_n 2, 1)), (4, (.iload_n 2, 1)), (5, (.iconst 3, 1)), (6, (.if_icmp .ge 21, 3)), (9, (.iload_n 1, 1)), (10, (.aload_n 0, 1)), (11, (.getfield 24, 3)), (14, (.iload_n 2, 1)), (15, (.aaload, 1)), (16, (.getfield 46, 3)), (19, (.iadd, 1)), (20, (.istore_n 1, 1)), (21, (.iinc 2 1, 3)), (24, (.goto (-20), 3)), (27, (.iload_n 1, 1)), (28, (.ireturn, 1))]
def tb_X4_taken : List (Nat × (Instr × Nat)) := [(0, (.aload_n 0, 1)), (1, (.getfield 49, 3)), (4, (.aload_n 0, 1)), (5, (.getfield 52, 3)), (8, (.iadd, 1)), (9, (.aload_n 0, 1)), (10, (.getfield 55, 3)), (13, (.iadd, 1)), (14, (.ireturn, 1))]
def tb_X4_deskOf : List (Nat × (Instr × Nat)) := [(0, (.iconst 0, 1)), (1, (.istore_n 2, 1)), (2, (.iload_n 2, 1)), (3, (.iconst 3, 1)), (4, (.if_icmp .ge 26, 3)), (7, (.aload_n 0, 1)), (8, (.getfield 24, 3)), (11, (.iload_n 2, 1)), (12, (.aaload, 1)), (13, (.iload_n 1, 1)), (14, (.invokevirtual 58, 3)), (17, (.bipush (-6), 2)), (19, (.if_icmp .eq 5, 3)), (22, (.iload_n 2, 1)), (23, (.ireturn, 1)), (24, (.iinc 2 1, 3)), (27, (.goto (-25), 3)), (30, (.bipush (-6), 2)), (32, (.ireturn, 1))]
def tb_X4_placeOf : List (Nat × (Instr × Nat)) := [(0, (.aload_n 0, 1)), (1, (.iload_n 1, 1)), (2, (.invokevirtual 62, 3)), (5, (.istore_n 2, 1)), (6, (.iload_n 2, 1)), (7, (.bipush (-6), 2)), (9, (.if_icmp .ne 8, 3)), (12, (.bipush (-6), 2)), (14, (.goto 13, 3)), (17, (.aload_n 0, 1)), (18, (.getfield 24, 3)), (21, (.iload_n 2, 1)), (22, (.aaload, 1)), (23, (.iload_n 1, 1)), (24, (.invokevirtual 58, 3)), (27, (.ireturn, 1))]
def tb_X4_doubtOf : List (Nat × (Instr × Nat)) := [(0, (.iconst 0, 1)), (1, (.istore_n 2, 1)), (2, (.iconst 0, 1)), (3, (.istore_n 3, 1)), (4, (.iload_n 3, 1)), (5, (.bipush 6, 2)), (7, (.if_icmp .ge 43, 3)), (10, (.aload_n 0, 1)), (11, (.getfield 31, 3)), (14, (.iload_n 1, 1)), (15, (.iload_n 3, 1)), (16, (.invokevirtual 65, 3)), (19, (.istore 4, 2)), (21, (.iload 4, 2)), (23, (.aload_n 0, 1)), (24, (.getfield 9, 3)), (27, (.iconst 4, 1)), (28, (.iaload, 1)), (29, (.if_icmp .le 15, 3)), (32, (.iload_n 2, 1)), (33, (.iload 4, 2)), (35, (.aload_n 0, 1)), (36, (.getfield 15, 3)), (39, (.iload_n 3, 1)), (40, (.iaload, 1)), (41, (.imul, 1)), (42, (.iadd, 1)), (43, (.istore_n 2, 1)), (44, (.iinc 3 1, 3)), (47, (.goto (-43), 3)), (50, (.iload_n 2, 1)), (51, (.ifCond .ne 7, 3)), (54, (.iconst 0, 1)), (55, (.goto 22, 3)), (58, (.iload_n 2, 1)), (59, (.bipush 9, 2)), (61, (.iadd, 1)), (62, (.aload_n 0, 1)), (63, (.getfield 18, 3)), (66, (.aload_n 0, 1)), (67, (.getfield 31, 3)), (70, (.getfield 69, 3)), (73, (.iload_n 1, 1)), (74, (.iaload, 1)), (75, (.iaload, 1)), (76, (.isub, 1)), (77, (.ireturn, 1))]
def tb_X4_doubtsAt : List (Nat × (Instr × Nat)) := [(0, (.iconst 0, 1)), (1, (.istore_n 2, 1)), (2, (.iconst 0, 1)), (3, (.istore_n 3, 1)), (4, (.iload_n 3, 1)), (5, (.aload_n 0, 1)), (6, (.getfield 24, 3)), (9, (.iload_n 1, 1)), (10, (.aaload, 1)), (11, (.getfield 46, 3)), (14, (.if_icmp .ge 27, 3)), (17, (.iload_n 2, 1)), (18, (.aload_n 0, 1)), (19, (.aload_n 0, 1)), (20, (.getfield 24, 3)), (23, (.iload_n 1, 1)), (24, (.aaload, 1)), (25, (.getfield 72, 3)), (28, (.iload_n 3, 1)), (29, (.iaload, 1)), (30, (.invokevirtual 75, 3)), (33, (.iadd, 1)), (34, (.istore_n 2, 1)), (35, (.iinc 3 1, 3)), (38, (.goto (-34), 3)), (41, (.iload_n 2, 1)), (42, (.ireturn, 1))]
def tb_X4_greatestDoubtAt : List (Nat × (Instr × Nat)) := [(0, (.iconst 0, 1)), (1, (.istore_n 2, 1)), (2, (.iconst 0, 1)), (3, (.istore_n 3, 1)), (4, (.iload_n 3, 1)), (5, (.aload_n 0, 1)), (6, (.getfield 24, 3)), (9, (.iload_n 1, 1)), (10, (.aaload, 1)), (11, (.getfield 46, 3)), (14, (.if_icmp .ge 29, 3)), (17, (.iload_n 2, 1)), (18, (.aload_n 0, 1)), (19, (.aload_n 0, 1)), (20, (.getfield 24, 3)), (23, (.iload_n 1, 1)), (24, (.aaload, 1)), (25, (.getfield 72, 3)), (28, (.iload_n 3, 1)), (29, (.iaload, 1)), (30, (.invokevirtual 75, 3)), (33, (.invokestatic 78, 3)), (36, (.istore_n 2, 1)), (37, (.iinc 3 1, 3)), (40, (.goto (-36), 3)), (43, (.iload_n 2, 1)), (44, (.ireturn, 1))]
def tb_X4_admit : List (Nat × (Instr × Nat)) := [(0, (.aload_n 0, 1)), (1, (.getfield 31, 3)), (4, (.getfield 35, 3)), (7, (.istore_n 3, 1)), (8, (.aload_n 0, 1)), (9, (.getfield 31, 3)), (12, (.iload_n 1, 1)), (13, (.aload_n 2, 1)), (14, (.aload_n 0, 1)), (15, (.getfield 83, 3)), (18, (.invokevirtual 86, 3)), (21, (.aload_n 0, 1)), (22, (.getfield 24, 3)), (25, (.iconst 0, 1)), (26, (.aaload, 1)), (27, (.iload_n 3, 1)), (28, (.invokevirtual 90, 3)), (31, (.iload_n 3, 1)), (32, (.ireturn, 1))]
def tb_X4_makeTurns : List (Nat × (Instr × Nat)) := [(0, (.iconst 0, 1)), (1, (.istore_n 2, 1)), (2, (.iconst 0, 1)), (3, (.istore_n 3, 1)), (4, (.iload_n 3, 1)), (5, (.iload_n 1, 1)), (6, (.if_icmp .ge 16, 3)), (9, (.iload_n 2, 1)), (10, (.aload_n 0, 1)), (11, (.invokevirtual 94, 3)), (14, (.iadd, 1)), (15, (.istore_n 2, 1)), (16, (.iinc 3 1, 3)), (19, (.goto (-15), 3)), (22, (.iload_n 2, 1)), (23, (.ireturn, 1))]
def tb_X4_makeTurn : List (Nat × (Instr × Nat)) := [(0, (.aload_n 0, 1)), (1, (.invokevirtual 98, 3)), (4, (.istore_n 1, 1)), (5, (.aload_n 0, 1)), (6, (.invokevirtual 101, 3)), (9, (.iconst 1, 1)), (10, (.istore_n 2, 1)), (11, (.iload_n 2, 1)), (12, (.ifCond .lt 14, 3)), (15, (.aload_n 0, 1)), (16, (.iload_n 2, 1)), (17, (.invokevirtual 104, 3)), (20, (.iinc 2 (-1), 3)), (23, (.goto (-12), 3)), (26, (.aload_n 0, 1)), (27, (.invokevirtual 107, 3)), (30, (.aload_n 0, 1)), (31, (.dup, 1)), (32, (.getfield 83, 3)), (35, (.iconst 1, 1)), (36, (.iadd, 1)), (37, (.putfield 83, 3)), (40, (.iload_n 1, 1)), (41, (.aload_n 0, 1)), (42, (.invokevirtual 98, 3)), (45, (.isub, 1)), (46, (.ireturn, 1))]
def tb_X4_actAtTop : List (Nat × (Instr × Nat)) := [(0, (.aload_n 0, 1)), (1, (.getfield 24, 3)), (4, (.iconst 2, 1)), (5, (.aaload, 1)), (6, (.astore_n 1, 1)), (7, (.iconst 0, 1)), (8, (.istore_n 2, 1)), (9, (.iconst 0, 1)), (10, (.istore_n 3, 1)), (11, (.iload_n 3, 1)), (12, (.aload_n 1, 1)), (13, (.getfield 110, 3)), (16, (.if_icmp .ge 85, 3)), (19, (.aload_n 1, 1)), (20, (.getfield 46, 3)), (23, (.ifCond .le 78, 3)), (26, (.aload_n 1, 1)), (27, (.getfield 72, 3)), (30, (.iconst 0, 1)), (31, (.iaload, 1)), (32, (.istore 4, 2)), (34, (.aload_n 1, 1)), (35, (.dup, 1)), (36, (.getfield 113, 3)), (39, (.iconst 1, 1)), (40, (.iadd, 1)), (41, (.putfield 113, 3)), (44, (.aload_n 0, 1)), (45, (.iload 4, 2)), (47, (.invokevirtual 75, 3)), (50, (.ifCond .ne 14, 3)), (53, (.aload_n 0, 1)), (54, (.iload 4, 2)), (56, (.aload_n 1, 1)), (57, (.iconst 1, 1)), (58, (.invokevirtual 116, 3)), (61, (.goto 34, 3)), (64, (.iload_n 2, 1)), (65, (.aload_n 0, 1)), (66, (.getfield 9, 3)), (69, (.iconst 5, 1)), (70, (.iaload, 1)), (71, (.if_icmp .ge 23, 3)), (74, (.aload_n 0, 1)), (75, (.iload 4, 2)), (77, (.invokevirtual 120, 3)), (80, (.aload_n 0, 1)), (81, (.iload 4, 2)), (83, (.aload_n 1, 1)), (84, (.iconst 2, 1)), (85, (.invokevirtual 116, 3)), (88, (.iinc 2 1, 3)), (91, (.goto 4, 3)), (94, (.return_, 1)), (95, (.iinc 3 1, 3)), (98, (.goto (-87), 3)), (101, (.return_, 1))]
def tb_X4_actBelowTop : List (Nat × (Instr × Nat)) := [(0, (.aload_n 0, 1)), (1, (.getfield 24, 3)), (4, (.iload_n 1, 1)), (5, (.aaload, 1)), (6, (.astore_n 2, 1)), (7, (.iconst 0, 1)), (8, (.istore_n 3, 1)), (9, (.iload_n 3, 1)), (10, (.aload_n 2, 1)), (11, (.getfield 110, 3)), (14, (.if_icmp .ge 123, 3)), (17, (.aload_n 2, 1)), (18, (.getfield 46, 3)), (21, (.ifCond .le 116, 3)), (24, (.aload_n 2, 1)), (25, (.getfield 72, 3)), (28, (.iconst 0, 1)), (29, (.iaload, 1)), (30, (.istore 4, 2)), (32, (.aload_n 0, 1)), (33, (.iload 4, 2)), (35, (.invokevirtual 75, 3)), (38, (.istore 5, 2)), (40, (.aload_n 2, 1)), (41, (.dup, 1)), (42, (.getfield 113, 3)), (45, (.iconst 1, 1)), (46, (.iadd, 1)), (47, (.putfield 113, 3)), (50, (.iload 5, 2)), (52, (.ifCond .ne 14, 3)), (55, (.aload_n 0, 1)), (56, (.iload 4, 2)), (58, (.aload_n 2, 1)), (59, (.iconst 1, 1)), (60, (.invokevirtual 116, 3)), (63, (.goto 68, 3)), (66, (.iload 5, 2)), (68, (.aload_n 0, 1)), (69, (.getfield 9, 3)), (72, (.iconst 0, 1)), (73, (.iaload, 1)), (74, (.iload_n 1, 1)), (75, (.iconst 1, 1)), (76, (.iadd, 1)), (77, (.imul, 1)), (78, (.if_icmp .gt 20, 3)), (81, (.aload_n 0, 1)), (82, (.iload 4, 2)), (84, (.invokevirtual 123, 3)), (87, (.aload_n 0, 1)), (88, (.iload 4, 2)), (90, (.aload_n 2, 1)), (91, (.iconst 1, 1)), (92, (.invokevirtual 116, 3)), (95, (.goto 36, 3)), (98, (.aload_n 2, 1)), (99, (.iload 4, 2)), (101, (.invokevirtual 126, 3)), (104, (.aload_n 0, 1)), (105, (.getfield 24, 3)), (108, (.iload_n 1, 1)), (109, (.iconst 1, 1)), (110, (.iadd, 1)), (111, (.aaload, 1)), (112, (.iload 4, 2)), (114, (.invokevirtual 90, 3)), (117, (.aload_n 0, 1)), (118, (.getfield 31, 3)), (121, (.getfield 129, 3)), (124, (.iload 4, 2)), (126, (.dup2, 1)), (127, (.iaload, 1)), (128, (.iconst 1, 1)), (129, (.iadd, 1)), (130, (.iastore, 1)), (131, (.iinc 3 1, 3)), (134, (.goto (-125), 3)), (137, (.return_, 1))]
def tb_X4_letPass : List (Nat × (Instr × Nat)) := [(0, (.aload_n 2, 1)), (1, (.iload_n 1, 1)), (2, (.invokevirtual 126, 3)), (5, (.aload_n 2, 1)), (6, (.dup, 1)), (7, (.getfield 132, 3)), (10, (.iconst 1, 1)), (11, (.iadd, 1)), (12, (.putfield 132, 3)), (15, (.aload_n 0, 1)), (16, (.getfield 31, 3)), (19, (.getfield 43, 3)), (22, (.iload_n 1, 1)), (23, (.iload_n 3, 1)), (24, (.iastore, 1)), (25, (.return_, 1))]
def tb_X4_takeFee : List (Nat × (Instr × Nat)) := [(0, (.aload_n 0, 1)), (1, (.getfield 31, 3)), (4, (.getfield 135, 3)), (7, (.iload_n 1, 1)), (8, (.dup2, 1)), (9, (.iaload, 1)), (10, (.aload_n 0, 1)), (11, (.getfield 9, 3)), (14, (.iconst 1, 1)), (15, (.iaload, 1)), (16, (.iadd, 1)), (17, (.iastore, 1)), (18, (.aload_n 0, 1)), (19, (.dup, 1)), (20, (.getfield 49, 3)), (23, (.aload_n 0, 1)), (24, (.getfield 9, 3)), (27, (.iconst 1, 1)), (28, (.iaload, 1)), (29, (.iadd, 1)), (30, (.putfield 49, 3)), (33, (.return_, 1))]
def tb_X4_fine : List (Nat × (Instr × Nat)) := [(0, (.aload_n 0, 1)), (1, (.getfield 31, 3)), (4, (.iload_n 1, 1)), (5, (.invokevirtual 138, 3)), (8, (.istore_n 2, 1)), (9, (.aload_n 0, 1)), (10, (.getfield 9, 3)), (13, (.iconst 2, 1)), (14, (.iaload, 1)), (15, (.iload_n 2, 1)), (16, (.invokestatic 141, 3)), (19, (.imul, 1)), (20, (.istore_n 3, 1)), (21, (.aload_n 0, 1)), (22, (.getfield 31, 3)), (25, (.getfield 146, 3)), (28, (.iload_n 1, 1)), (29, (.iload_n 2, 1)), (30, (.iastore, 1)), (31, (.aload_n 0, 1)), (32, (.getfield 31, 3)), (35, (.getfield 135, 3)), (38, (.iload_n 1, 1)), (39, (.dup2, 1)), (40, (.iaload, 1)), (41, (.iload_n 3, 1)), (42, (.iadd, 1)), (43, (.iastore, 1)), (44, (.aload_n 0, 1)), (45, (.dup, 1)), (46, (.getfield 52, 3)), (49, (.iload_n 3, 1)), (50, (.iadd, 1)), (51, (.putfield 52, 3)), (54, (.return_, 1))]
def tb_X4_takeDelays : List (Nat × (Instr × Nat)) := [(0, (.iconst 0, 1)), (1, (.istore_n 1, 1)), (2, (.iload_n 1, 1)), (3, (.iconst 3, 1)), (4, (.if_icmp .ge 73, 3)), (7, (.iconst 0, 1)), (8, (.istore_n 2, 1)), (9, (.iload_n 2, 1)), (10, (.aload_n 0, 1)), (11, (.getfield 24, 3)), (14, (.iload_n 1, 1)), (15, (.aaload, 1)), (16, (.getfield 46, 3)), (19, (.if_icmp .ge 52, 3)), (22, (.aload_n 0, 1)), (23, (.getfield 31, 3)), (26, (.getfield 135, 3)), (29, (.aload_n 0, 1)), (30, (.getfield 24, 3)), (33, (.iload_n 1, 1)), (34, (.aaload, 1)), (35, (.getfield 72, 3)), (38, (.iload_n 2, 1)), (39, (.iaload, 1)), (40, (.dup2, 1)), (41, (.iaload, 1)), (42, (.aload_n 0, 1)), (43, (.getfield 9, 3)), (46, (.iconst 3, 1)), (47, (.iaload, 1)), (48, (.iadd, 1)), (49, (.iastore, 1)), (50, (.aload_n 0, 1)), (51, (.dup, 1)), (52, (.getfield 55, 3)), (55, (.aload_n 0, 1)), (56, (.getfield 9, 3)), (59, (.iconst 3, 1)), (60, (.iaload, 1)), (61, (.iadd, 1)), (62, (.putfield 55, 3)), (65, (.iinc 2 1, 3)), (68, (.goto (-59), 3)), (71, (.iinc 1 1, 3)), (74, (.goto (-72), 3)), (77, (.return_, 1))]
def tb_X4_copyFrom : List (Nat × (Instr × Nat)) := [(0, (.aload_n 1, 1)), (1, (.getfield 9, 3)), (4, (.iconst 0, 1)), (5, (.aload_n 0, 1)), (6, (.getfield 9, 3)), (9, (.iconst 0, 1)), (10, (.bipush 6, 2)), (12, (.invokestatic 149, 3)), (15, (.aload_n 1, 1)), (16, (.getfield 15, 3)), (19, (.iconst 0, 1)), (20, (.aload_n 0, 1)), (21, (.getfield 15, 3)), (24, (.iconst 0, 1)), (25, (.bipush 6, 2)), (27, (.invokestatic 149, 3)), (30, (.aload_n 1, 1)), (31, (.getfield 18, 3)), (34, (.iconst 0, 1)), (35, (.aload_n 0, 1)), (36, (.getfield 18, 3)), (39, (.iconst 0, 1)), (40, (.iconst 5, 1)), (41, (.invokestatic 149, 3)), (44, (.iconst 0, 1)), (45, (.istore_n 2, 1)), (46, (.iload_n 2, 1)), (47, (.iconst 3, 1)), (48, (.if_icmp .ge 24, 3)), (51, (.aload_n 0, 1)), (52, (.getfield 24, 3)), (55, (.iload_n 2, 1)), (56, (.aaload, 1)), (57, (.aload_n 1, 1)), (58, (.getfield 24, 3)), (61, (.iload_n 2, 1)), (62, (.aaload, 1)), (63, (.invokevirtual 155, 3)), (66, (.iinc 2 1, 3)), (69, (.goto (-23), 3)), (72, (.aload_n 0, 1)), (73, (.getfield 31, 3)), (76, (.aload_n 1, 1)), (77, (.getfield 31, 3)), (80, (.invokevirtual 159, 3)), (83, (.aload_n 0, 1)), (84, (.aload_n 1, 1)), (85, (.getfield 83, 3)), (88, (.putfield 83, 3)), (91, (.aload_n 0, 1)), (92, (.aload_n 1, 1)), (93, (.getfield 49, 3)), (96, (.putfield 49, 3)), (99, (.aload_n 0, 1)), (100, (.aload_n 1, 1)), (101, (.getfield 52, 3)), (104, (.putfield 52, 3)), (107, (.aload_n 0, 1)), (108, (.aload_n 1, 1)), (109, (.getfield 55, 3)), (112, (.putfield 55, 3)), (115, (.return_, 1))]
def tb_X5_add : List (Nat × (Instr × Nat)) := [(0, (.aload_n 0, 1)), (1, (.getfield 9, 3)), (4, (.aload_n 0, 1)), (5, (.getfield 35, 3)), (8, (.iload_n 1, 1)), (9, (.iastore, 1)), (10, (.iconst 0, 1)), (11, (.istore 4, 2)), (13, (.iload 4, 2)), (15, (.iconst 3, 1)), (16, (.if_icmp .ge 25, 3)), (19, (.aload_n 0, 1)), (20, (.getfield 17, 3)), (23, (.iload 4, 2)), (25, (.aaload, 1)), (26, (.aload_n 0, 1)), (27, (.getfield 35, 3)), (30, (.aload_n 2, 1)), (31, (.iload 4, 2)), (33, (.iaload, 1)), (34, (.iastore, 1)), (35, (.iinc 4 1, 3)), (38, (.goto (-25), 3)), (41, (.aload_n 0, 1)), (42, (.getfield 20, 3)), (45, (.aload_n 0, 1)), (46, (.getfield 35, 3)), (49, (.iconst 0, 1)), (50, (.iastore, 1)), (51, (.aload_n 0, 1)), (52, (.getfield 23, 3)), (55, (.aload_n 0, 1)), (56, (.getfield 35, 3)), (59, (.iload_n 3, 1)), (60, (.iastore, 1)), (61, (.aload_n 0, 1)), (62, (.getfield 26, 3)), (65, (.aload_n 0, 1)), (66, (.getfield 35, 3)), (69, (.iconst 0, 1)), (70, (.iastore, 1)), (71, (.aload_n 0, 1)), (72, (.getfield 29, 3)), (75, (.aload_n 0, 1)), (76, (.getfield 35, 3)), (79, (.iconst 0, 1)), (80, (.iastore, 1)), (81, (.aload_n 0, 1)), (82, (.getfield 32, 3)), (85, (.aload_n 0, 1)), (86, (.getfield 35, 3)), (89, (.iconst 0, 1)), (90, (.iastore, 1)), (91, (.aload_n 0, 1)), (92, (.dup, 1)), (93, (.getfield 35, 3)), (96, (.iconst 1, 1)), (97, (.iadd, 1)), (98, (.putfield 35, 3)), (101, (.return_, 1))]
def tb_X5_difference : List (Nat × (Instr × Nat)) := [(0, (.aload_n 0, 1)), (1, (.getfield 17, 3)), (4, (.iconst 0, 1)), (5, (.aaload, 1)), (6, (.iload_n 1, 1)), (7, (.iaload, 1)), (8, (.iload_n 2, 1)), (9, (.invokestatic 39, 3)), (12, (.istore_n 3, 1)), (13, (.aload_n 0, 1)), (14, (.getfield 17, 3)), (17, (.iconst 1, 1)), (18, (.aaload, 1)), (19, (.iload_n 1, 1)), (20, (.iaload, 1)), (21, (.iload_n 2, 1)), (22, (.invokestatic 39, 3)), (25, (.istore 4, 2)), (27, (.iload_n 3, 1)), (28, (.iload 4, 2)), (30, (.isub, 1)), (31, (.invokestatic 45, 3)), (34, (.ireturn, 1))]
def tb_X5_disagreements : List (Nat × (Instr × Nat)) := [(0, (.iconst 0, 1)), (1, (.istore_n 3, 1)), (2, (.iconst 0, 1)), (3, (.istore 4, 2)), (5, (.iload 4, 2)), (7, (.bipush 6, 2)), (9, (.if_icmp .ge 27, 3)), (12, (.aload_n 0, 1)), (13, (.iload_n 1, 1)), (14, (.iload 4, 2)), (16, (.invokevirtual 51, 3)), (19, (.iload_n 2, 1)), (20, (.if_icmp .le 10, 3)), (23, (.iload_n 3, 1)), (24, (.iconst 1, 1)), (25, (.iload 4, 2)), (27, (.ishl, 1)), (28, (.ior, 1)), (29, (.istore_n 3, 1)), (30, (.iinc 4 1, 3)), (33, (.goto (-28), 3)), (36, (.iload_n 3, 1)), (37, (.ireturn, 1))]
def tb_X5_sumBeyond : List (Nat × (Instr × Nat)) := [(0, (.iconst 0, 1)), (1, (.istore_n 3, 1)), (2, (.iconst 0, 1)), (3, (.istore 4, 2)), (5, (.iload 4, 2)), (7, (.bipush 6, 2)), (9, (.if_icmp .ge 25, 3)), (12, (.iload_n 3, 1)), (13, (.iconst 0, 1)), (14, (.aload_n 0, 1)), (15, (.iload_n 1, 1)), (16, (.iload 4, 2)), (18, (.invokevirtual 51, 3)), (21, (.iload_n 2, 1)), (22, (.isub, 1)), (23, (.invokestatic 54, 3)), (26, (.iadd, 1)), (27, (.istore_n 3, 1)), (28, (.iinc 4 1, 3)), (31, (.goto (-26), 3)), (34, (.iload_n 3, 1)), (35, (.ireturn, 1))]
def tb_X5_hiddenKinds : List (Nat × (Instr × Nat)) := [(0, (.iconst 0, 1)), (1, (.istore_n 2, 1)), (2, (.iconst 0, 1)), (3, (.istore_n 3, 1)), (4, (.iload_n 3, 1)), (5, (.bipush 6, 2)), (7, (.if_icmp .ge 65, 3)), (10, (.aload_n 0, 1)), (11, (.getfield 17, 3)), (14, (.iconst 0, 1)), (15, (.aaload, 1)), (16, (.iload_n 1, 1)), (17, (.iaload, 1)), (18, (.iload_n 3, 1)), (19, (.invokestatic 39, 3)), (22, (.istore 4, 2)), (24, (.aload_n 0, 1)), (25, (.getfield 17, 3)), (28, (.iconst 1, 1)), (29, (.aaload, 1)), (30, (.iload_n 1, 1)), (31, (.iaload, 1)), (32, (.iload_n 3, 1)), (33, (.invokestatic 39, 3)), (36, (.istore 5, 2)), (38, (.aload_n 0, 1)), (39, (.getfield 17, 3)), (42, (.iconst 2, 1)), (43, (.aaload, 1)), (44, (.iload_n 1, 1)), (45, (.iaload, 1)), (46, (.iload_n 3, 1)), (47, (.invokestatic 39, 3)), (50, (.iload 4, 2)), (52, (.iload 5, 2)), (54, (.invokestatic 54, 3)), (57, (.if_icmp .le 9, 3)), (60, (.iload_n 2, 1)), (61, (.iconst 1, 1)), (62, (.iload_n 3, 1)), (63, (.ishl, 1)), (64, (.ior, 1)), (65, (.istore_n 2, 1)), (66, (.iinc 3 1, 3)), (69, (.goto (-65), 3)), (72, (.iload_n 2, 1)), (73, (.ireturn, 1))]
def tb_X5_countWithFate : List (Nat × (Instr × Nat)) := [(0, (.iconst 0, 1)), (1, (.istore_n 2, 1)), (2, (.iconst 0, 1)), (3, (.istore_n 3, 1)), (4, (.iload_n 3, 1)), (5, (.aload_n 0, 1)), (6, (.getfield 35, 3)), (9, (.if_icmp .ge 22, 3)), (12, (.aload_n 0, 1)), (13, (.getfield 26, 3)), (16, (.iload_n 3, 1)), (17, (.iaload, 1)), (18, (.iload_n 1, 1)), (19, (.if_icmp .ne 6, 3)), (22, (.iinc 2 1, 3)), (25, (.iinc 3 1, 3)), (28, (.goto (-24), 3)), (31, (.iload_n 2, 1)), (32, (.ireturn, 1))]
def tb_X5_countOpenedUnfined : List (Nat × (Instr × Nat)) := [(0, (.iconst 0, 1)), (1, (.istore_n 1, 1)), (2, (.iconst 0, 1)), (3, (.istore_n 2, 1)), (4, (.iload_n 2, 1)), (5, (.aload_n 0, 1)), (6, (.getfield 35, 3)), (9, (.if_icmp .ge 31, 3)), (12, (.aload_n 0, 1)), (13, (.getfield 26, 3)), (16, (.iload_n 2, 1)), (17, (.iaload, 1)), (18, (.iconst 2, 1)), (19, (.if_icmp .ne 15, 3)), (22, (.aload_n 0, 1)), (23, (.getfield 29, 3)), (26, (.iload_n 2, 1)), (27, (.iaload, 1)), (28, (.ifCond .ne 6, 3)), (31, (.iinc 1 1, 3)), (34, (.iinc 2 1, 3)), (37, (.goto (-33), 3)), (40, (.iload_n 1, 1)), (41, (.ireturn, 1))]
def tb_X5_copyFrom : List (Nat × (Instr × Nat)) := [(0, (.aload_n 0, 1)), (1, (.aload_n 1, 1)), (2, (.getfield 35, 3)), (5, (.putfield 35, 3)), (8, (.aload_n 1, 1)), (9, (.getfield 9, 3)), (12, (.iconst 0, 1)), (13, (.aload_n 0, 1)), (14, (.getfield 9, 3)), (17, (.iconst 0, 1)), (18, (.aload_n 0, 1)), (19, (.getfield 35, 3)), (22, (.invokestatic 57, 3)), (25, (.iconst 0, 1)), (26, (.istore_n 2, 1)), (27, (.iload_n 2, 1)), (28, (.iconst 3, 1)), (29, (.if_icmp .ge 30, 3)), (32, (.aload_n 1, 1)), (33, (.getfield 17, 3)), (36, (.iload_n 2, 1)), (37, (.aaload, 1)), (38, (.iconst 0, 1)), (39, (.aload_n 0, 1)), (40, (.getfield 17, 3)), (43, (.iload_n 2, 1)), (44, (.aaload, 1)), (45, (.iconst 0, 1)), (46, (.aload_n 0, 1)), (47, (.getfield 35, 3)), (50, (.invokestatic 57, 3)), (53, (.iinc 2 1, 3)), (56, (.goto (-29), 3)), (59, (.aload_n 1, 1)), (60, (.getfield 20, 3)), (63, (.iconst 0, 1)), (64, (.aload_n 0, 1)), (65, (.getfield 20, 3)), (68, (.iconst 0, 1)), (69, (.aload_n 0, 1)), (70, (.getfield 35, 3)), (73, (.invokestatic 57, 3)), (76, (.aload_n 1, 1)), (77, (.getfield 23, 3)), (80, (.iconst 0, 1)), (81, (.aload_n 0, 1)), (82, (.getfield 23, 3)), (85, (.iconst 0, 1)), (86, (.aload_n 0, 1)), (87, (.getfield 35, 3)), (90, (.invokestatic 57, 3)), (93, (.aload_n 1, 1)), (94, (.getfield 26, 3)), (97, (.iconst 0, 1)), (98, (.aload_n 0, 1)), (99, (.getfield 26, 3)), (102, (.iconst 0, 1)), (103, (.aload_n 0, 1)), (104, (.getfield 35, 3)), (107, (.invokestatic 57, 3)), (110, (.aload_n 1, 1)), (111, (.getfield 29, 3)), (114, (.iconst 0, 1)), (115, (.aload_n 0, 1)), (116, (.getfield 29, 3)), (119, (.iconst 0, 1)), (120, (.aload_n 0, 1)), (121, (.getfield 35, 3)), (124, (.invokestatic 57, 3)), (127, (.aload_n 1, 1)), (128, (.getfield 32, 3)), (131, (.iconst 0, 1)), (132, (.aload_n 0, 1)), (133, (.getfield 32, 3)), (136, (.iconst 0, 1)), (137, (.aload_n 0, 1)), (138, (.getfield 35, 3)), (141, (.invokestatic 57, 3)), (144, (.return_, 1))]
def tb_X6_set : List (Nat × (Instr × Nat)) := [(0, (.iload_n 1, 1)), (1, (.iconst 0, 1)), (2, (.iconst 5, 1)), (3, (.invokestatic 41, 3)), (6, (.ifCond .ne 6, 3)), (9, (.bipush (-2), 2)), (11, (.ireturn, 1)), (12, (.iload_n 2, 1)), (13, (.getstatic 45, 3)), (16, (.iload_n 1, 1)), (17, (.iaload, 1)), (18, (.getstatic 49, 3)), (21, (.iload_n 1, 1)), (22, (.iaload, 1)), (23, (.invokestatic 41, 3)), (26, (.ifCond .ne 6, 3)), (29, (.bipush (-2), 2)), (31, (.ireturn, 1)), (32, (.aload_n 0, 1)), (33, (.getfield 22, 3)), (36, (.aload_n 0, 1)), (37, (.getfield 10, 3)), (40, (.invokevirtual 52, 3)), (43, (.aload_n 0, 1)), (44, (.getfield 10, 3)), (47, (.getfield 56, 3)), (50, (.iload_n 1, 1)), (51, (.iaload, 1)), (52, (.istore_n 3, 1)), (53, (.aload_n 0, 1)), (54, (.getfield 10, 3)), (57, (.getfield 56, 3)), (60, (.iload_n 1, 1)), (61, (.iload_n 2, 1)), (62, (.iastore, 1)), (63, (.iload_n 3, 1)), (64, (.ireturn, 1))]
def tb_X6_weight : List (Nat × (Instr × Nat)) := [(0, (.iload_n 1, 1)), (1, (.iconst 0, 1)), (2, (.iconst 5, 1)), (3, (.invokestatic 41, 3)), (6, (.ifCond .ne 5, 3)), (9, (.iconst (-1), 1)), (10, (.ireturn, 1)), (11, (.iload_n 2, 1)), (12, (.iconst 1, 1)), (13, (.bipush 9, 2)), (15, (.invokestatic 41, 3)), (18, (.ifCond .ne 6, 3)), (21, (.bipush (-2), 2)), (23, (.ireturn, 1)), (24, (.aload_n 0, 1)), (25, (.getfield 22, 3)), (28, (.aload_n 0, 1)), (29, (.getfield 10, 3)), (32, (.invokevirtual 52, 3)), (35, (.aload_n 0, 1)), (36, (.getfield 10, 3)), (39, (.getfield 59, 3)), (42, (.iload_n 1, 1)), (43, (.iaload, 1)), (44, (.istore_n 3, 1)), (45, (.aload_n 0, 1)), (46, (.getfield 10, 3)), (49, (.getfield 59, 3)), (52, (.iload_n 1, 1)), (53, (.iload_n 2, 1)), (54, (.iastore, 1)), (55, (.iload_n 3, 1)), (56, (.ireturn, 1))]
def tb_X6_trust : List (Nat × (Instr × Nat)) := [(0, (.iload_n 1, 1)), (1, (.iconst 0, 1)), (2, (.iconst 4, 1)), (3, (.invokestatic 41, 3)), (6, (.ifCond .ne 5, 3)), (9, (.iconst (-1), 1)), (10, (.ireturn, 1)), (11, (.iload_n 2, 1)), (12, (.iconst 0, 1)), (13, (.bipush 9, 2)), (15, (.invokestatic 41, 3)), (18, (.ifCond .ne 6, 3)), (21, (.bipush (-2), 2)), (23, (.ireturn, 1)), (24, (.aload_n 0, 1)), (25, (.getfield 22, 3)), (28, (.aload_n 0, 1)), (29, (.getfield 10, 3)), (32, (.invokevirtual 52, 3)), (35, (.aload_n 0, 1)), (36, (.getfield 10, 3)), (39, (.getfield 62, 3)), (42, (.iload_n 1, 1)), (43, (.iaload, 1)), (44, (.istore_n 3, 1)), (45, (.aload_n 0, 1)), (46, (.getfield 10, 3)), (49, (.getfield 62, 3)), (52, (.iload_n 1, 1)), (53, (.iload_n 2, 1)), (54, (.iastore, 1)), (55, (.iload_n 3, 1)), (56, (.ireturn, 1))]
def tb_X6_hands : List (Nat × (Instr × Nat)) := [(0, (.iload_n 1, 1)), (1, (.iconst 0, 1)), (2, (.iconst 2, 1)), (3, (.invokestatic 41, 3)), (6, (.ifCond .ne 5, 3)), (9, (.iconst (-1), 1)), (10, (.ireturn, 1)), (11, (.iload_n 2, 1)), (12, (.iconst 0, 1)), (13, (.iconst 3, 1)), (14, (.invokestatic 41, 3)), (17, (.ifCond .ne 6, 3)), (20, (.bipush (-2), 2)), (22, (.ireturn, 1)), (23, (.aload_n 0, 1)), (24, (.getfield 22, 3)), (27, (.aload_n 0, 1)), (28, (.getfield 10, 3)), (31, (.invokevirtual 52, 3)), (34, (.aload_n 0, 1)), (35, (.getfield 10, 3)), (38, (.getfield 65, 3)), (41, (.iload_n 1, 1)), (42, (.aaload, 1)), (43, (.getfield 69, 3)), (46, (.istore_n 3, 1)), (47, (.aload_n 0, 1)), (48, (.getfield 10, 3)), (51, (.getfield 65, 3)), (54, (.iload_n 1, 1)), (55, (.aaload, 1)), (56, (.iload_n 2, 1)), (57, (.putfield 69, 3)), (60, (.iload_n 3, 1)), (61, (.ireturn, 1))]
def tb_X6_read : List (Nat × (Instr × Nat)) := [(0, (.aload_n 0, 1)), (1, (.getfield 37, 3)), (4, (.invokevirtual 75, 3)), (7, (.bipush (-6), 2)), (9, (.if_icmp .eq 6, 3)), (12, (.bipush (-3), 2)), (14, (.ireturn, 1)), (15, (.aload_n 0, 1)), (16, (.getfield 10, 3)), (19, (.invokevirtual 79, 3)), (22, (.bipush 16, 2)), (24, (.if_icmp .ge 18, 3)), (27, (.aload_n 0, 1)), (28, (.getfield 10, 3)), (31, (.getfield 82, 3)), (34, (.getfield 86, 3)), (37, (.bipush 64, 2)), (39, (.if_icmp .lt 6, 3)), (42, (.bipush (-4), 2)), (44, (.ireturn, 1)), (45, (.aload_n 0, 1)), (46, (.getfield 22, 3)), (49, (.aload_n 0, 1)), (50, (.getfield 10, 3)), (53, (.invokevirtual 52, 3)), (56, (.aload_n 0, 1)), (57, (.getfield 10, 3)), (60, (.aload_n 0, 1)), (61, (.getfield 37, 3)), (64, (.getfield 91, 3)), (67, (.aload_n 0, 1)), (68, (.getfield 37, 3)), (71, (.getfield 94, 3)), (74, (.invokevirtual 97, 3)), (77, (.istore_n 1, 1)), (78, (.aload_n 0, 1)), (79, (.getfield 37, 3)), (82, (.iconst 0, 1)), (83, (.putfield 101, 3)), (86, (.iload_n 1, 1)), (87, (.ireturn, 1))]
def tb_X6_mend : List (Nat × (Instr × Nat)) := [(0, (.aload_n 0, 1)), (1, (.getfield 10, 3)), (4, (.iload_n 1, 1)), (5, (.invokevirtual 104, 3)), (8, (.ifCond .eq 12, 3)), (11, (.iload_n 3, 1)), (12, (.iconst 0, 1)), (13, (.iconst 5, 1)), (14, (.invokestatic 41, 3)), (17, (.ifCond .ne 5, 3)), (20, (.iconst (-1), 1)), (21, (.ireturn, 1)), (22, (.iload_n 2, 1)), (23, (.iconst 0, 1)), (24, (.iconst 1, 1)), (25, (.invokestatic 41, 3)), (28, (.ifCond .eq 14, 3)), (31, (.iload 4, 2)), (33, (.iconst 0, 1)), (34, (.bipush 9, 2)), (36, (.invokestatic 41, 3)), (39, (.ifCond .ne 6, 3)), (42, (.bipush (-2), 2)), (44, (.ireturn, 1)), (45, (.aload_n 0, 1)), (46, (.getfield 22, 3)), (49, (.aload_n 0, 1)), (50, (.getfield 10, 3)), (53, (.invokevirtual 52, 3)), (56, (.aload_n 0, 1)), (57, (.getfield 10, 3)), (60, (.getfield 82, 3)), (63, (.getfield 108, 3)), (66, (.iload_n 2, 1)), (67, (.aaload, 1)), (68, (.astore 5, 2)), (70, (.aload 5, 2)), (72, (.iload_n 1, 1)), (73, (.aload 5, 2)), (75, (.iload_n 1, 1)), (76, (.iaload, 1)), (77, (.iload_n 3, 1)), (78, (.iload 4, 2)), (80, (.invokestatic 111, 3)), (83, (.iastore, 1)), (84, (.aload_n 0, 1)), (85, (.getfield 10, 3)), (88, (.iload_n 1, 1)), (89, (.invokevirtual 117, 3)), (92, (.ireturn, 1))]
def tb_X6_sendBack : List (Nat × (Instr × Nat)) := [(0, (.aload_n 0, 1)), (1, (.getfield 10, 3)), (4, (.iload_n 1, 1)), (5, (.invokevirtual 104, 3)), (8, (.ifCond .ne 5, 3)), (11, (.iconst (-1), 1)), (12, (.ireturn, 1)), (13, (.aload_n 0, 1)), (14, (.getfield 22, 3)), (17, (.aload_n 0, 1)), (18, (.getfield 10, 3)), (21, (.invokevirtual 52, 3)), (24, (.aload_n 0, 1)), (25, (.getfield 10, 3)), (28, (.iload_n 1, 1)), (29, (.invokevirtual 121, 3)), (32, (.istore_n 2, 1)), (33, (.iload_n 2, 1)), (34, (.bipush (-6), 2)), (36, (.if_icmp .eq 16, 3)), (39, (.aload_n 0, 1)), (40, (.getfield 10, 3)), (43, (.getfield 65, 3)), (46, (.iload_n 2, 1)), (47, (.aaload, 1)), (48, (.iload_n 1, 1)), (49, (.invokevirtual 124, 3)), (52, (.aload_n 0, 1)), (53, (.getfield 10, 3)), (56, (.getfield 82, 3)), (59, (.getfield 128, 3)), (62, (.iload_n 1, 1)), (63, (.iconst 3, 1)), (64, (.iastore, 1)), (65, (.aload_n 0, 1)), (66, (.getfield 10, 3)), (69, (.getfield 82, 3)), (72, (.getfield 131, 3)), (75, (.iload_n 1, 1)), (76, (.iaload, 1)), (77, (.ireturn, 1))]
def tb_X6_turn : List (Nat × (Instr × Nat)) := [(0, (.iload_n 1, 1)), (1, (.iconst 1, 1)), (2, (.bipush 99, 2)), (4, (.invokestatic 41, 3)), (7, (.ifCond .ne 6, 3)), (10, (.bipush (-2), 2)), (12, (.ireturn, 1)), (13, (.aload_n 0, 1)), (14, (.getfield 10, 3)), (17, (.getfield 134, 3)), (20, (.iload_n 1, 1)), (21, (.iadd, 1)), (22, (.sipush 9999, 3)), (25, (.if_icmp .le 6, 3)), (28, (.bipush (-4), 2)), (30, (.ireturn, 1)), (31, (.aload_n 0, 1)), (32, (.getfield 22, 3)), (35, (.aload_n 0, 1)), (36, (.getfield 10, 3)), (39, (.invokevirtual 52, 3)), (42, (.aload_n 0, 1)), (43, (.getfield 10, 3)), (46, (.iload_n 1, 1)), (47, (.invokevirtual 137, 3)), (50, (.ireturn, 1))]
def tb_X6_trunk : List (Nat × (Instr × Nat)) := [(0, (.aload_n 0, 1)), (1, (.getfield 10, 3)), (4, (.iload_n 1, 1)), (5, (.invokevirtual 140, 3)), (8, (.ifCond .ne 5, 3)), (11, (.iconst (-1), 1)), (12, (.ireturn, 1)), (13, (.aload_n 0, 1)), (14, (.getfield 10, 3)), (17, (.getfield 82, 3)), (20, (.astore_n 3, 1)), (21, (.iload_n 2, 1)), (22, (.tableswitch 138 0 9 #[54, 61, 70, 79, 88, 103, 110, 117, 124, 131], 54)), (76, (.aload_n 3, 1)), (77, (.getfield 143, 3)), (80, (.iload_n 1, 1)), (81, (.iaload, 1)), (82, (.ireturn, 1)), (83, (.aload_n 0, 1)), (84, (.getfield 10, 3)), (87, (.iload_n 1, 1)), (88, (.invokevirtual 121, 3)), (91, (.ireturn, 1)), (92, (.aload_n 0, 1)), (93, (.getfield 10, 3)), (96, (.iload_n 1, 1)), (97, (.invokevirtual 146, 3)), (100, (.ireturn, 1)), (101, (.aload_n 0, 1)), (102, (.getfield 10, 3)), (105, (.iload_n 1, 1)), (106, (.invokevirtual 117, 3)), (109, (.ireturn, 1)), (110, (.aload_n 3, 1)), (111, (.iload_n 1, 1)), (112, (.aload_n 0, 1)), (113, (.getfield 10, 3)), (116, (.getfield 56, 3)), (119, (.iconst 4, 1)), (120, (.iaload, 1)), (121, (.invokevirtual 149, 3)), (124, (.ireturn, 1)), (125, (.aload_n 3, 1)), (126, (.getfield 131, 3)), (129, (.iload_n 1, 1)), (130, (.iaload, 1)), (131, (.ireturn, 1)), (132, (.aload_n 3, 1)), (133, (.getfield 153, 3)), (136, (.iload_n 1, 1)), (137, (.iaload, 1)), (138, (.ireturn, 1)), (139, (.aload_n 3, 1)), (140, (.getfield 128, 3)), (143, (.iload_n 1, 1)), (144, (.iaload, 1)), (145, (.ireturn, 1)), (146, (.aload_n 3, 1)), (147, (.getfield 156, 3)), (150, (.iload_n 1, 1)), (151, (.iaload, 1)), (152, (.ireturn, 1)), (153, (.aload_n 3, 1)), (154, (.getfield 159, 3)), (157, (.iload_n 1, 1)), (158, (.iaload, 1)), (159, (.ireturn, 1)), (160, (.bipush (-2), 2)), (162, (.ireturn, 1))]
def tb_X6_pieces : List (Nat × (Instr × Nat)) := [(0, (.aload_n 0, 1)), (1, (.getfield 10, 3)), (4, (.iload_n 1, 1)), (5, (.invokevirtual 140, 3)), (8, (.ifCond .eq 12, 3)), (11, (.iload_n 3, 1)), (12, (.iconst 0, 1)), (13, (.iconst 5, 1)), (14, (.invokestatic 41, 3)), (17, (.ifCond .ne 5, 3)), (20, (.iconst (-1), 1)), (21, (.ireturn, 1)), (22, (.iload_n 2, 1)), (23, (.iconst 0, 1)), (24, (.iconst 2, 1)), (25, (.invokestatic 41, 3)), (28, (.ifCond .ne 6, 3)), (31, (.bipush (-2), 2)), (33, (.ireturn, 1)), (34, (.aload_n 0, 1)), (35, (.getfield 10, 3)), (38, (.getfield 82, 3)), (41, (.getfield 108, 3)), (44, (.iload_n 2, 1)), (45, (.aaload, 1)), (46, (.iload_n 1, 1)), (47, (.iaload, 1)), (48, (.iload_n 3, 1)), (49, (.invokestatic 162, 3)), (52, (.ireturn, 1))]
def tb_X6_alike : List (Nat × (Instr × Nat)) := [(0, (.aload_n 0, 1)), (1, (.getfield 10, 3)), (4, (.iload_n 1, 1)), (5, (.invokevirtual 140, 3)), (8, (.ifCond .ne 5, 3)), (11, (.iconst (-1), 1)), (12, (.ireturn, 1)), (13, (.aload_n 0, 1)), (14, (.getfield 10, 3)), (17, (.getfield 56, 3)), (20, (.iconst 4, 1)), (21, (.iaload, 1)), (22, (.istore_n 3, 1)), (23, (.iload_n 2, 1)), (24, (.lookupswitch 70 #[(0, 28), (1, 49)], 28)), (52, (.aload_n 0, 1)), (53, (.getfield 10, 3)), (56, (.getfield 82, 3)), (59, (.iload_n 1, 1)), (60, (.iload_n 3, 1)), (61, (.invokevirtual 149, 3)), (64, (.ifCond .ne 7, 3)), (67, (.iconst 1, 1)), (68, (.goto 4, 3)), (71, (.iconst 0, 1)), (72, (.ireturn, 1)), (73, (.aload_n 0, 1)), (74, (.getfield 10, 3)), (77, (.getfield 82, 3)), (80, (.iload_n 1, 1)), (81, (.iload_n 3, 1)), (82, (.invokevirtual 165, 3)), (85, (.ifCond .ne 7, 3)), (88, (.iconst 1, 1)), (89, (.goto 4, 3)), (92, (.iconst 0, 1)), (93, (.ireturn, 1)), (94, (.bipush (-2), 2)), (96, (.ireturn, 1))]
def tb_X6_desk : List (Nat × (Instr × Nat)) := [(0, (.iload_n 1, 1)), (1, (.iconst 0, 1)), (2, (.iconst 2, 1)), (3, (.invokestatic 41, 3)), (6, (.ifCond .ne 5, 3)), (9, (.iconst (-1), 1)), (10, (.ireturn, 1)), (11, (.iload_n 2, 1)), (12, (.tableswitch 97 0 4 #[36, 49, 62, 71, 84], 36)), (48, (.aload_n 0, 1)), (49, (.getfield 10, 3)), (52, (.getfield 65, 3)), (55, (.iload_n 1, 1)), (56, (.aaload, 1)), (57, (.getfield 69, 3)), (60, (.ireturn, 1)), (61, (.aload_n 0, 1)), (62, (.getfield 10, 3)), (65, (.getfield 65, 3)), (68, (.iload_n 1, 1)), (69, (.aaload, 1)), (70, (.getfield 168, 3)), (73, (.ireturn, 1)), (74, (.aload_n 0, 1)), (75, (.getfield 10, 3)), (78, (.iload_n 1, 1)), (79, (.invokevirtual 171, 3)), (82, (.ireturn, 1)), (83, (.aload_n 0, 1)), (84, (.getfield 10, 3)), (87, (.getfield 65, 3)), (90, (.iload_n 1, 1)), (91, (.aaload, 1)), (92, (.getfield 174, 3)), (95, (.ireturn, 1)), (96, (.aload_n 0, 1)), (97, (.getfield 10, 3)), (100, (.getfield 65, 3)), (103, (.iload_n 1, 1)), (104, (.aaload, 1)), (105, (.getfield 177, 3)), (108, (.ireturn, 1)), (109, (.bipush (-2), 2)), (111, (.ireturn, 1))]
def tb_X6_count : List (Nat × (Instr × Nat)) := [(0, (.iload_n 1, 1)), (1, (.iconst 0, 1)), (2, (.iconst 5, 1)), (3, (.invokestatic 41, 3)), (6, (.ifCond .eq 13, 3)), (9, (.aload_n 0, 1)), (10, (.getfield 10, 3)), (13, (.getfield 56, 3)), (16, (.iload_n 1, 1)), (17, (.iaload, 1)), (18, (.ireturn, 1)), (19, (.iload_n 1, 1)), (20, (.tableswitch 190 6 18 #[68, 76, 87, 95, 107, 119, 131, 139, 147, 155, 163, 174, 182], 68)), (88, (.aload_n 0, 1)), (89, (.getfield 10, 3)), (92, (.getfield 134, 3)), (95, (.ireturn, 1)), (96, (.aload_n 0, 1)), (97, (.getfield 10, 3)), (100, (.getfield 82, 3)), (103, (.getfield 86, 3)), (106, (.ireturn, 1)), (107, (.aload_n 0, 1)), (108, (.getfield 10, 3)), (111, (.invokevirtual 79, 3)), (114, (.ireturn, 1)), (115, (.aload_n 0, 1)), (116, (.getfield 10, 3)), (119, (.getfield 82, 3)), (122, (.iconst 1, 1)), (123, (.invokevirtual 180, 3)), (126, (.ireturn, 1)), (127, (.aload_n 0, 1)), (128, (.getfield 10, 3)), (131, (.getfield 82, 3)), (134, (.iconst 2, 1)), (135, (.invokevirtual 180, 3)), (138, (.ireturn, 1)), (139, (.aload_n 0, 1)), (140, (.getfield 10, 3)), (143, (.getfield 82, 3)), (146, (.iconst 3, 1)), (147, (.invokevirtual 180, 3)), (150, (.ireturn, 1)), (151, (.aload_n 0, 1)), (152, (.getfield 10, 3)), (155, (.getfield 183, 3)), (158, (.ireturn, 1)), (159, (.aload_n 0, 1)), (160, (.getfield 10, 3)), (163, (.getfield 186, 3)), (166, (.ireturn, 1)), (167, (.aload_n 0, 1)), (168, (.getfield 10, 3)), (171, (.getfield 189, 3)), (174, (.ireturn, 1)), (175, (.aload_n 0, 1)), (176, (.getfield 10, 3)), (179, (.invokevirtual 192, 3)), (182, (.ireturn, 1)), (183, (.aload_n 0, 1)), (184, (.getfield 10, 3)), (187, (.getfield 82, 3)), (190, (.invokevirtual 195, 3)), (193, (.ireturn, 1)), (194, (.aload_n 0, 1)), (195, (.getfield 37, 3)), (198, (.getfield 101, 3)), (201, (.ireturn, 1)), (202, (.aload_n 0, 1)), (203, (.getfield 22, 3)), (206, (.getfield 198, 3)), (209, (.ireturn, 1)), (210, (.bipush (-2), 2)), (212, (.ireturn, 1))]
def tb_X6_untilGone : List (Nat × (Instr × Nat)) := [(0, (.aload_n 0, 1)), (1, (.getfield 10, 3)), (4, (.iload_n 1, 1)), (5, (.invokevirtual 140, 3)), (8, (.ifCond .eq 11, 3)), (11, (.aload_n 0, 1)), (12, (.iload_n 1, 1)), (13, (.invokevirtual 201, 3)), (16, (.goto 4, 3)), (19, (.iconst (-1), 1)), (20, (.ireturn, 1))]
def tb_X6_fate : List (Nat × (Instr × Nat)) := [(0, (.aload_n 0, 1)), (1, (.getfield 10, 3)), (4, (.iload_n 1, 1)), (5, (.invokevirtual 140, 3)), (8, (.ifCond .ne 5, 3)), (11, (.iconst (-1), 1)), (12, (.ireturn, 1)), (13, (.aload_n 0, 1)), (14, (.iload_n 1, 1)), (15, (.invokevirtual 201, 3)), (18, (.bipush (-6), 2)), (20, (.if_icmp .ne 8, 3)), (23, (.bipush (-6), 2)), (25, (.goto 15, 3)), (28, (.aload_n 0, 1)), (29, (.getfield 16, 3)), (32, (.getfield 82, 3)), (35, (.getfield 128, 3)), (38, (.iload_n 1, 1)), (39, (.iaload, 1)), (40, (.ireturn, 1))]
def tb_X6_mostDoubted : List (Nat × (Instr × Nat)) := [(0, (.bipush (-6), 2)), (2, (.istore_n 1, 1)), (3, (.iconst (-1), 1)), (4, (.istore_n 2, 1)), (5, (.iconst 0, 1)), (6, (.istore_n 3, 1)), (7, (.iload_n 3, 1)), (8, (.aload_n 0, 1)), (9, (.getfield 10, 3)), (12, (.getfield 82, 3)), (15, (.getfield 86, 3)), (18, (.if_icmp .ge 43, 3)), (21, (.aload_n 0, 1)), (22, (.getfield 10, 3)), (25, (.iload_n 3, 1)), (26, (.invokevirtual 104, 3)), (29, (.ifCond .eq 26, 3)), (32, (.aload_n 0, 1)), (33, (.getfield 10, 3)), (36, (.iload_n 3, 1)), (37, (.invokevirtual 117, 3)), (40, (.iload_n 2, 1)), (41, (.if_icmp .le 14, 3)), (44, (.iload_n 3, 1)), (45, (.istore_n 1, 1)), (46, (.aload_n 0, 1)), (47, (.getfield 10, 3)), (50, (.iload_n 3, 1)), (51, (.invokevirtual 117, 3)), (54, (.istore_n 2, 1)), (55, (.iinc 3 1, 3)), (58, (.goto (-51), 3)), (61, (.iload_n 1, 1)), (62, (.ireturn, 1))]
def tb_X6_ifTurned : List (Nat × (Instr × Nat)) := [(0, (.iload_n 1, 1)), (1, (.iconst 1, 1)), (2, (.sipush 200, 3)), (5, (.invokestatic 41, 3)), (8, (.ifCond .eq 12, 3)), (11, (.iload_n 2, 1)), (12, (.iconst 0, 1)), (13, (.iconst 2, 1)), (14, (.invokestatic 41, 3)), (17, (.ifCond .ne 6, 3)), (20, (.bipush (-2), 2)), (22, (.ireturn, 1)), (23, (.aload_n 0, 1)), (24, (.getfield 16, 3)), (27, (.aload_n 0, 1)), (28, (.getfield 10, 3)), (31, (.invokevirtual 204, 3)), (34, (.aload_n 0, 1)), (35, (.getfield 16, 3)), (38, (.iload_n 1, 1)), (39, (.invokevirtual 137, 3)), (42, (.istore_n 3, 1)), (43, (.iload_n 2, 1)), (44, (.lookupswitch 54 #[(0, 28), (1, 30)], 28)), (72, (.iload_n 3, 1)), (73, (.ireturn, 1)), (74, (.aload_n 0, 1)), (75, (.getfield 16, 3)), (78, (.getfield 82, 3)), (81, (.iconst 2, 1)), (82, (.invokevirtual 180, 3)), (85, (.aload_n 0, 1)), (86, (.getfield 10, 3)), (89, (.getfield 82, 3)), (92, (.iconst 2, 1)), (93, (.invokevirtual 180, 3)), (96, (.isub, 1)), (97, (.ireturn, 1)), (98, (.aload_n 0, 1)), (99, (.getfield 16, 3)), (102, (.invokevirtual 192, 3)), (105, (.aload_n 0, 1)), (106, (.getfield 10, 3)), (109, (.invokevirtual 192, 3)), (112, (.isub, 1)), (113, (.ireturn, 1))]
def tb_X6_bestHand : List (Nat × (Instr × Nat)) := [(0, (.aload_n 0, 1)), (1, (.getfield 16, 3)), (4, (.aload_n 0, 1)), (5, (.getfield 10, 3)), (8, (.invokevirtual 204, 3)), (11, (.aload_n 0, 1)), (12, (.getfield 16, 3)), (15, (.iconst 5, 1)), (16, (.invokevirtual 137, 3)), (19, (.istore_n 1, 1)), (20, (.bipush (-6), 2)), (22, (.istore_n 2, 1)), (23, (.iconst 0, 1)), (24, (.istore_n 3, 1)), (25, (.iload_n 3, 1)), (26, (.iconst 3, 1)), (27, (.if_icmp .ge 71, 3)), (30, (.aload_n 0, 1)), (31, (.getfield 16, 3)), (34, (.aload_n 0, 1)), (35, (.getfield 10, 3)), (38, (.invokevirtual 204, 3)), (41, (.aload_n 0, 1)), (42, (.getfield 16, 3)), (45, (.getfield 65, 3)), (48, (.iload_n 3, 1)), (49, (.aaload, 1)), (50, (.iconst 3, 1)), (51, (.aload_n 0, 1)), (52, (.getfield 10, 3)), (55, (.getfield 65, 3)), (58, (.iload_n 3, 1)), (59, (.aaload, 1)), (60, (.getfield 69, 3)), (63, (.iconst 1, 1)), (64, (.iadd, 1)), (65, (.invokestatic 207, 3)), (68, (.putfield 69, 3)), (71, (.aload_n 0, 1)), (72, (.getfield 16, 3)), (75, (.iconst 5, 1)), (76, (.invokevirtual 137, 3)), (79, (.istore 4, 2)), (81, (.iload 4, 2)), (83, (.iload_n 1, 1)), (84, (.if_icmp .le 8, 3)), (87, (.iload_n 3, 1)), (88, (.istore_n 2, 1)), (89, (.iload 4, 2)), (91, (.istore_n 1, 1)), (92, (.iinc 3 1, 3)), (95, (.goto (-70), 3)), (98, (.iload_n 2, 1)), (99, (.ireturn, 1))]
def tb_X6_leastSmall : List (Nat × (Instr × Nat)) := [(0, (.iconst 0, 1)), (1, (.istore_n 1, 1)), (2, (.iconst 2, 1)), (3, (.istore_n 2, 1)), (4, (.iload_n 2, 1)), (5, (.ifCond .lt 57, 3)), (8, (.aload_n 0, 1)), (9, (.getfield 10, 3)), (12, (.getfield 65, 3)), (15, (.iload_n 2, 1)), (16, (.aaload, 1)), (17, (.getfield 69, 3)), (20, (.ifCond .le 42, 3)), (23, (.aload_n 0, 1)), (24, (.getfield 10, 3)), (27, (.iload_n 2, 1)), (28, (.invokevirtual 212, 3)), (31, (.istore_n 3, 1)), (32, (.iload_n 2, 1)), (33, (.iconst 2, 1)), (34, (.if_icmp .ne 10, 3)), (37, (.iload_n 3, 1)), (38, (.ifCond .le 6, 3)), (41, (.bipush (-6), 2)), (43, (.ireturn, 1)), (44, (.iload_n 1, 1)), (45, (.iload_n 3, 1)), (46, (.iconst 2, 1)), (47, (.iadd, 1)), (48, (.iconst 1, 1)), (49, (.isub, 1)), (50, (.iconst 2, 1)), (51, (.idiv, 1)), (52, (.invokestatic 215, 3)), (55, (.istore_n 1, 1)), (56, (.iinc 2 (-1), 3)), (59, (.goto (-55), 3)), (62, (.iload_n 1, 1)), (63, (.getstatic 49, 3)), (66, (.iconst 0, 1)), (67, (.iaload, 1)), (68, (.if_icmp .gt 7, 3)), (71, (.iload_n 1, 1)), (72, (.goto 5, 3)), (75, (.bipush (-6), 2)), (77, (.ireturn, 1))]
def tb_X6_put : List (Nat × (Instr × Nat)) := [(0, (.iconst 0, 1)), (1, (.istore_n 3, 1)), (2, (.lload_n 1, 1)), (3, (.lstore 4, 2)), (5, (.iload_n 3, 1)), (6, (.bipush 8, 2)), (8, (.if_icmp .ge 47, 3)), (11, (.lload 4, 2)), (13, (.ldc2_w 218, 3)), (16, (.land, 1)), (17, (.lconst 0, 1)), (18, (.lcmp, 1)), (19, (.ifCond .eq 36, 3)), (22, (.lload 4, 2)), (24, (.ldc2_w 218, 3)), (27, (.land, 1)), (28, (.l2i, 1)), (29, (.bipush 33, 2)), (31, (.bipush 126, 2)), (33, (.invokestatic 41, 3)), (36, (.ifCond .ne 6, 3)), (39, (.bipush (-2), 2)), (41, (.ireturn, 1)), (42, (.lload 4, 2)), (44, (.bipush 8, 2)), (46, (.lushr, 1)), (47, (.lstore 4, 2)), (49, (.iinc 3 1, 3)), (52, (.goto (-47), 3)), (55, (.iload_n 3, 1)), (56, (.ifCond .eq 10, 3)), (59, (.lload 4, 2)), (61, (.lconst 0, 1)), (62, (.lcmp, 1)), (63, (.ifCond .eq 6, 3)), (66, (.bipush (-2), 2)), (68, (.ireturn, 1)), (69, (.aload_n 0, 1)), (70, (.getfield 37, 3)), (73, (.getfield 101, 3)), (76, (.iload_n 3, 1)), (77, (.iadd, 1)), (78, (.bipush 60, 2)), (80, (.if_icmp .le 6, 3)), (83, (.bipush (-4), 2)), (85, (.ireturn, 1)), (86, (.iload_n 3, 1)), (87, (.iconst 1, 1)), (88, (.isub, 1)), (89, (.istore 6, 2)), (91, (.iload 6, 2)), (93, (.ifCond .lt 29, 3)), (96, (.aload_n 0, 1)), (97, (.getfield 37, 3)), (100, (.lload_n 1, 1)), (101, (.bipush 8, 2)), (103, (.iload 6, 2)), (105, (.imul, 1)), (106, (.lushr, 1)), (107, (.ldc2_w 218, 3)), (110, (.land, 1)), (111, (.l2i, 1)), (112, (.i2c, 1)), (113, (.invokevirtual 220, 3)), (116, (.iinc 6 (-1), 3)), (119, (.goto (-28), 3)), (122, (.aload_n 0, 1)), (123, (.getfield 37, 3)), (126, (.getfield 101, 3)), (129, (.ireturn, 1))]
def tb_X6_wipe : List (Nat × (Instr × Nat)) := [(0, (.aload_n 0, 1)), (1, (.getfield 37, 3)), (4, (.getfield 101, 3)), (7, (.istore_n 1, 1)), (8, (.aload_n 0, 1)), (9, (.getfield 37, 3)), (12, (.iconst 0, 1)), (13, (.putfield 101, 3)), (16, (.iload_n 1, 1)), (17, (.ireturn, 1))]
def tb_X6_undo : List (Nat × (Instr × Nat)) := [(0, (.aload_n 0, 1)), (1, (.getfield 22, 3)), (4, (.getfield 198, 3)), (7, (.ifCond .ne 6, 3)), (10, (.bipush (-5), 2)), (12, (.ireturn, 1)), (13, (.aload_n 0, 1)), (14, (.getfield 22, 3)), (17, (.aload_n 0, 1)), (18, (.getfield 10, 3)), (21, (.invokevirtual 224, 3)), (24, (.aload_n 0, 1)), (25, (.getfield 22, 3)), (28, (.getfield 198, 3)), (31, (.ireturn, 1))]
def tb_X6_isWithin : List (Nat × (Instr × Nat)) := [(0, (.iload_n 0, 1)), (1, (.iload_n 1, 1)), (2, (.if_icmp .lt 12, 3)), (5, (.iload_n 0, 1)), (6, (.iload_n 2, 1)), (7, (.if_icmp .gt 7, 3)), (10, (.iconst 1, 1)), (11, (.goto 4, 3)), (14, (.iconst 0, 1)), (15, (.ireturn, 1))]
def tb_X6_turnsUntilGone : List (Nat × (Instr × Nat)) := [(0, (.aload_n 0, 1)), (1, (.getfield 16, 3)), (4, (.aload_n 0, 1)), (5, (.getfield 10, 3)), (8, (.invokevirtual 204, 3)), (11, (.iconst 0, 1)), (12, (.istore_n 2, 1)), (13, (.iload_n 2, 1)), (14, (.sipush 200, 3)), (17, (.if_icmp .gt 30, 3)), (20, (.aload_n 0, 1)), (21, (.getfield 16, 3)), (24, (.iload_n 1, 1)), (25, (.invokevirtual 104, 3)), (28, (.ifCond .ne 5, 3)), (31, (.iload_n 2, 1)), (32, (.ireturn, 1)), (33, (.aload_n 0, 1)), (34, (.getfield 16, 3)), (37, (.invokevirtual 227, 3)), (40, (.pop, 1)), (41, (.iinc 2 1, 3)), (44, (.goto (-31), 3)), (47, (.bipush (-6), 2)), (49, (.ireturn, 1))]
def tb_J6_bitCount_0f7a4 : List (Nat × (Instr × Nat)) := [(0, (.iload_n 0, 1)), (1, (.iload_n 0, 1)), (2, (.iconst 1, 1)), (3, (.iushr, 1)), (4, (.ldc_w 265, 3)), (7, (.iand, 1)), (8, (.isub, 1)), (9, (.istore_n 0, 1)), (10, (.iload_n 0, 1)), (11, (.ldc_w 266, 3)), (14, (.iand, 1)), (15, (.iload_n 0, 1)), (16, (.iconst 2, 1)), (17, (.iushr, 1)), (18, (.ldc_w 266, 3)), (21, (.iand, 1)), (22, (.iadd, 1)), (23, (.istore_n 0, 1)), (24, (.iload_n 0, 1)), (25, (.iload_n 0, 1)), (26, (.iconst 4, 1)), (27, (.iushr, 1)), (28, (.iadd, 1)), (29, (.ldc_w 267, 3)), (32, (.iand, 1)), (33, (.istore_n 0, 1)), (34, (.iload_n 0, 1)), (35, (.iload_n 0, 1)), (36, (.bipush 8, 2)), (38, (.iushr, 1)), (39, (.iadd, 1)), (40, (.istore_n 0, 1)), (41, (.iload_n 0, 1)), (42, (.iload_n 0, 1)), (43, (.bipush 16, 2)), (45, (.iushr, 1)), (46, (.iadd, 1)), (47, (.istore_n 0, 1)), (48, (.iload_n 0, 1)), (49, (.bipush 63, 2)), (51, (.iand, 1)), (52, (.ireturn, 1))]
def tb_L_cell : List (Nat × (Instr × Nat)) := [(0, (.iload_n 1, 1)), (1, (.aload_n 0, 1)), (2, (.arraylength, 1)), (3, (.if_icmp .ge 9, 3)), (6, (.aload_n 0, 1)), (7, (.iload_n 1, 1)), (8, (.iaload, 1)), (9, (.goto 12, 3)), (12, (.ldc 7, 2)), (14, (.iload_n 1, 1)), (15, (.iconst 1, 1)), (16, (.iadd, 1)), (17, (.imul, 1)), (18, (.ldc 8, 2)), (20, (.iadd, 1)), (21, (.ireturn, 1))]
def tb_L_low : List (Nat × (Instr × Nat)) := [(0, (.iload_n 0, 1)), (1, (.ldc 9, 2)), (3, (.iand, 1)), (4, (.iload_n 1, 1)), (5, (.irem, 1)), (6, (.ireturn, 1))]
def tb_L_types : List (Nat × (Instr × Nat)) := [(0, (.aload_n 0, 1)), (1, (.invokevirtual 10, 3)), (4, (.istore_n 3, 1)), (5, (.aload_n 0, 1)), (6, (.bipush 48, 2)), (8, (.iload_n 1, 1)), (9, (.iconst 5, 1)), (10, (.invokestatic 16, 3)), (13, (.iadd, 1)), (14, (.i2l, 1)), (15, (.invokevirtual 22, 3)), (18, (.istore_n 3, 1)), (19, (.iconst 0, 1)), (20, (.istore 4, 2)), (22, (.iload 4, 2)), (24, (.iconst 3, 1)), (25, (.if_icmp .ge 153, 3)), (28, (.aload_n 0, 1)), (29, (.iload 4, 2)), (31, (.ifCond .ne 9, 3)), (34, (.ldc2_w 26, 3)), (37, (.goto 18, 3)), (40, (.iload 4, 2)), (42, (.iconst 1, 1)), (43, (.if_icmp .ne 9, 3)), (46, (.ldc2_w 28, 3)), (49, (.goto 6, 3)), (52, (.ldc2_w 30, 3)), (55, (.invokevirtual 22, 3)), (58, (.istore_n 3, 1)), (59, (.iconst 0, 1)), (60, (.istore 5, 2)), (62, (.iload 5, 2)), (64, (.bipush 6, 2)), (66, (.if_icmp .ge 106, 3)), (69, (.iload_n 1, 1)), (70, (.iconst 4, 1)), (71, (.iload 5, 2)), (73, (.iadd, 1)), (74, (.ishr, 1)), (75, (.iconst 4, 1)), (76, (.invokestatic 16, 3)), (79, (.ifCond .ne 8, 3)), (82, (.iload 4, 2)), (84, (.goto 4, 3)), (87, (.iconst 0, 1)), (88, (.istore 6, 2)), (90, (.iload_n 2, 1)), (91, (.iload 5, 2)), (93, (.iload 6, 2)), (95, (.iadd, 1)), (96, (.ishr, 1)), (97, (.iconst 3, 1)), (98, (.invokestatic 16, 3)), (101, (.ifCond .ne 22, 3)), (104, (.iload_n 2, 1)), (105, (.iconst 3, 1)), (106, (.iload 5, 2)), (108, (.iadd, 1)), (109, (.iconst 2, 1)), (110, (.iload 6, 2)), (112, (.imul, 1)), (113, (.iadd, 1)), (114, (.ishr, 1)), (115, (.bipush 10, 2)), (117, (.invokestatic 16, 3)), (120, (.goto 4, 3)), (123, (.iconst 0, 1)), (124, (.istore 7, 2)), (126, (.iload 7, 2)), (128, (.ifCond .ne 7, 3)), (131, (.iload_n 3, 1)), (132, (.goto 13, 3)), (135, (.aload_n 0, 1)), (136, (.bipush 97, 2)), (138, (.iload 5, 2)), (140, (.iadd, 1)), (141, (.i2l, 1)), (142, (.invokevirtual 22, 3)), (145, (.istore_n 3, 1)), (146, (.iload 7, 2)), (148, (.ifCond .ne 7, 3)), (151, (.iload_n 3, 1)), (152, (.goto 13, 3)), (155, (.aload_n 0, 1)), (156, (.bipush 48, 2)), (158, (.iload 7, 2)), (160, (.iadd, 1)), (161, (.i2l, 1)), (162, (.invokevirtual 22, 3)), (165, (.istore_n 3, 1)), (166, (.iinc 5 1, 3)), (169, (.goto (-107), 3)), (172, (.iinc 4 1, 3)), (175, (.goto (-153), 3)), (178, (.iload_n 3, 1)), (179, (.ireturn, 1))]
def tb_L_act : List (Nat × (Instr × Nat)) := [(0, (.iload_n 1, 1)), (1, (.bipush 13, 2)), (3, (.invokestatic 16, 3)), (6, (.tableswitch 261 0 9 #[54, 54, 54, 54, 54, 74, 128, 181, 198, 232], 54)), (60, (.aload_n 0, 1)), (61, (.iload_n 1, 1)), (62, (.iconst 4, 1)), (63, (.ishr, 1)), (64, (.iload_n 2, 1)), (65, (.invokestatic 32, 3)), (68, (.ifCond .ge 7, 3)), (71, (.iconst 0, 1)), (72, (.goto 7, 3)), (75, (.aload_n 0, 1)), (76, (.invokevirtual 36, 3)), (79, (.ireturn, 1)), (80, (.iload_n 1, 1)), (81, (.iconst 4, 1)), (82, (.ishr, 1)), (83, (.bipush 6, 2)), (85, (.invokestatic 16, 3)), (88, (.istore_n 3, 1)), (89, (.aload_n 0, 1)), (90, (.iload_n 3, 1)), (91, (.iload_n 3, 1)), (92, (.iconst 5, 1)), (93, (.if_icmp .ne 13, 3)), (96, (.iconst 1, 1)), (97, (.iload_n 2, 1)), (98, (.iconst 4, 1)), (99, (.invokestatic 16, 3)), (102, (.iadd, 1)), (103, (.goto 27, 3)), (106, (.iload_n 2, 1)), (107, (.iload_n 3, 1)), (108, (.ifCond .ne 8, 3)), (111, (.bipush 40, 2)), (113, (.goto 14, 3)), (116, (.iload_n 3, 1)), (117, (.iconst 4, 1)), (118, (.if_icmp .ne 7, 3)), (121, (.iconst 3, 1)), (122, (.goto 5, 3)), (125, (.bipush 21, 2)), (127, (.invokestatic 16, 3)), (130, (.invokevirtual 39, 3)), (133, (.ireturn, 1)), (134, (.iload_n 2, 1)), (135, (.iconst 2, 1)), (136, (.invokestatic 16, 3)), (139, (.ifCond .ne 28, 3)), (142, (.aload_n 0, 1)), (143, (.iload_n 2, 1)), (144, (.iconst 1, 1)), (145, (.ishr, 1)), (146, (.bipush 6, 2)), (148, (.invokestatic 16, 3)), (151, (.iconst 1, 1)), (152, (.iload_n 2, 1)), (153, (.iconst 4, 1)), (154, (.ishr, 1)), (155, (.bipush 9, 2)), (157, (.invokestatic 16, 3)), (160, (.iadd, 1)), (161, (.invokevirtual 42, 3)), (164, (.goto 22, 3)), (167, (.aload_n 0, 1)), (168, (.iload_n 2, 1)), (169, (.iconst 1, 1)), (170, (.ishr, 1)), (171, (.iconst 5, 1)), (172, (.invokestatic 16, 3)), (175, (.iload_n 2, 1)), (176, (.iconst 4, 1)), (177, (.ishr, 1)), (178, (.bipush 10, 2)), (180, (.invokestatic 16, 3)), (183, (.invokevirtual 45, 3)), (186, (.ireturn, 1)), (187, (.aload_n 0, 1)), (188, (.iload_n 2, 1)), (189, (.iconst 3, 1)), (190, (.invokestatic 16, 3)), (193, (.iload_n 2, 1)), (194, (.iconst 2, 1)), (195, (.ishr, 1)), (196, (.iconst 4, 1)), (197, (.invokestatic 16, 3)), (200, (.invokevirtual 48, 3)), (203, (.ireturn, 1)), (204, (.aload_n 0, 1)), (205, (.iload_n 1, 1)), (206, (.iconst 4, 1)), (207, (.ishr, 1)), (208, (.bipush 12, 2)), (210, (.invokestatic 16, 3)), (213, (.iload_n 2, 1)), (214, (.iconst 2, 1)), (215, (.invokestatic 16, 3)), (218, (.iload_n 2, 1)), (219, (.iconst 1, 1)), (220, (.ishr, 1)), (221, (.bipush 6, 2)), (223, (.invokestatic 16, 3)), (226, (.iload_n 2, 1)), (227, (.iconst 4, 1)), (228, (.ishr, 1)), (229, (.bipush 10, 2)), (231, (.invokestatic 16, 3)), (234, (.invokevirtual 51, 3)), (237, (.ireturn, 1)), (238, (.iload_n 2, 1)), (239, (.iconst 3, 1)), (240, (.invokestatic 16, 3)), (243, (.ifCond .ne 18, 3)), (246, (.aload_n 0, 1)), (247, (.iload_n 1, 1)), (248, (.iconst 4, 1)), (249, (.ishr, 1)), (250, (.bipush 12, 2)), (252, (.invokestatic 16, 3)), (255, (.invokevirtual 55, 3)), (258, (.goto 8, 3)), (261, (.aload_n 0, 1)), (262, (.iconst 1, 1)), (263, (.invokevirtual 59, 3)), (266, (.ireturn, 1)), (267, (.aload_n 0, 1)), (268, (.iconst 1, 1)), (269, (.iload_n 2, 1)), (270, (.iload_n 2, 1)), (271, (.bipush 8, 2)), (273, (.ishr, 1)), (274, (.bipush 6, 2)), (276, (.invokestatic 16, 3)), (279, (.ifCond .ne 8, 3)), (282, (.bipush 30, 2)), (284, (.goto 4, 3)), (287, (.iconst 3, 1)), (288, (.invokestatic 16, 3)), (291, (.iadd, 1)), (292, (.invokevirtual 59, 3)), (295, (.ireturn, 1))]
def tb_L_trunks : List (Nat × (Instr × Nat)) := [(0, (.iconst 0, 1)), (1, (.istore_n 1, 1)), (2, (.bipush (-6), 2)), (4, (.istore_n 2, 1)), (5, (.iconst 4, 1)), (6, (.newarray .int, 2)), (8, (.astore_n 3, 1)), (9, (.iconst 3, 1)), (10, (.newarray .int, 2)), (12, (.astore 4, 2)), (14, (.iconst 3, 1)), (15, (.newarray .int, 2)), (17, (.astore 5, 2)), (19, (.iconst 0, 1)), (20, (.istore 6, 2)), (22, (.iconst 0, 1)), (23, (.istore 7, 2)), (25, (.iload 7, 2)), (27, (.aload_n 0, 1)), (28, (.bipush 7, 2)), (30, (.invokevirtual 62, 3)), (33, (.if_icmp .ge 566, 3)), (36, (.aload_n 0, 1)), (37, (.iload 7, 2)), (39, (.bipush 7, 2)), (41, (.invokevirtual 65, 3)), (44, (.istore 8, 2)), (46, (.aload_n 0, 1)), (47, (.iload 7, 2)), (49, (.iconst 1, 1)), (50, (.invokevirtual 65, 3)), (53, (.istore 9, 2)), (55, (.aload_n 0, 1)), (56, (.iload 7, 2)), (58, (.iconst 3, 1)), (59, (.invokevirtual 65, 3)), (62, (.istore 10, 2)), (64, (.iconst 0, 1)), (65, (.istore 11, 2)), (67, (.iconst 0, 1)), (68, (.istore 12, 2)), (70, (.iconst 0, 1)), (71, (.istore 13, 2)), (73, (.iconst 0, 1)), (74, (.istore 14, 2)), (76, (.iload 14, 2)), (78, (.bipush 6, 2)), (80, (.if_icmp .ge 138, 3)), (83, (.aload_n 0, 1)), (84, (.iload 7, 2)), (86, (.iconst 0, 1)), (87, (.iload 14, 2)), (89, (.invokevirtual 68, 3)), (92, (.istore 15, 2)), (94, (.aload_n 0, 1)), (95, (.iload 7, 2)), (97, (.iconst 1, 1)), (98, (.iload 14, 2)), (100, (.invokevirtual 68, 3)), (103, (.istore 16, 2)), (105, (.iload 15, 2)), (107, (.iload 16, 2)), (109, (.if_icmp .le 11, 3)), (112, (.iload 15, 2)), (114, (.iload 16, 2)), (116, (.isub, 1)), (117, (.goto 8, 3)), (120, (.iload 16, 2)), (122, (.iload 15, 2)), (124, (.isub, 1)), (125, (.istore 17, 2)), (127, (.iload 11, 2)), (129, (.iload 17, 2)), (131, (.aload_n 0, 1)), (132, (.iconst 4, 1)), (133, (.invokevirtual 62, 3)), (136, (.if_icmp .le 10, 3)), (139, (.iconst 1, 1)), (140, (.iload 14, 2)), (142, (.ishl, 1)), (143, (.goto 4, 3)), (146, (.iconst 0, 1)), (147, (.ior, 1)), (148, (.istore 11, 2)), (150, (.iload 12, 2)), (152, (.iload 17, 2)), (154, (.aload_n 0, 1)), (155, (.iconst 4, 1)), (156, (.invokevirtual 62, 3)), (159, (.if_icmp .le 8, 3)), (162, (.iload 17, 2)), (164, (.goto 4, 3)), (167, (.iconst 0, 1)), (168, (.iadd, 1)), (169, (.istore 12, 2)), (171, (.iload 13, 2)), (173, (.aload_n 0, 1)), (174, (.iload 7, 2)), (176, (.iconst 2, 1)), (177, (.iload 14, 2)), (179, (.invokevirtual 68, 3)), (182, (.iload 15, 2)), (184, (.if_icmp .le 24, 3)), (187, (.aload_n 0, 1)), (188, (.iload 7, 2)), (190, (.iconst 2, 1)), (191, (.iload 14, 2)), (193, (.invokevirtual 68, 3)), (196, (.iload 16, 2)), (198, (.if_icmp .le 10, 3)), (201, (.iconst 1, 1)), (202, (.iload 14, 2)), (204, (.ishl, 1)), (205, (.goto 4, 3)), (208, (.iconst 0, 1)), (209, (.ior, 1)), (210, (.istore 13, 2)), (212, (.iinc 14 1, 3)), (215, (.goto (-139), 3)), (218, (.iload 11, 2)), (220, (.ifCond .ne 7, 3)), (223, (.iconst 1, 1)), (224, (.goto 4, 3)), (227, (.iconst 0, 1)), (228, (.istore 14, 2)), (230, (.aload_n 0, 1)), (231, (.iload 7, 2)), (233, (.iconst 4, 1)), (234, (.invokevirtual 65, 3)), (237, (.iload 11, 2)), (239, (.if_icmp .ne 224, 3)), (242, (.aload_n 0, 1)), (243, (.iload 7, 2)), (245, (.iconst 0, 1)), (246, (.invokevirtual 72, 3)), (249, (.iload 14, 2)), (251, (.if_icmp .ne 212, 3)), (254, (.aload_n 0, 1)), (255, (.iload 7, 2)), (257, (.iconst 1, 1)), (258, (.invokevirtual 72, 3)), (261, (.iload 14, 2)), (263, (.if_icmp .ne 200, 3)), (266, (.iload 10, 2)), (268, (.ifCond .ne 7, 3)), (271, (.iconst 1, 1)), (272, (.goto 4, 3)), (275, (.iconst 0, 1)), (276, (.iload 11, 2)), (278, (.ifCond .ne 7, 3)), (281, (.iconst 1, 1)), (282, (.goto 4, 3)), (285, (.iconst 0, 1)), (286, (.if_icmp .ne 177, 3)), (289, (.iload 10, 2)), (291, (.ifCond .le 23, 3)), (294, (.iload 10, 2)), (296, (.iload 12, 2)), (298, (.if_icmp .lt 165, 3)), (301, (.iload 10, 2)), (303, (.bipush 9, 2)), (305, (.iload 12, 2)), (307, (.imul, 1)), (308, (.bipush 9, 2)), (310, (.iadd, 1)), (311, (.if_icmp .gt 152, 3)), (314, (.iload 8, 2)), (316, (.ifCond .ne 7, 3)), (319, (.iconst 1, 1)), (320, (.goto 4, 3)), (323, (.iconst 0, 1)), (324, (.iload 9, 2)), (326, (.ifCond .lt 7, 3)), (329, (.iconst 1, 1)), (330, (.goto 4, 3)), (333, (.iconst 0, 1)), (334, (.if_icmp .ne 129, 3)), (337, (.iload 9, 2)), (339, (.ifCond .lt 7, 3)), (342, (.iconst 1, 1)), (343, (.goto 4, 3)), (346, (.iconst 0, 1)), (347, (.aload_n 0, 1)), (348, (.iload 7, 2)), (350, (.iconst 2, 1)), (351, (.invokevirtual 65, 3)), (354, (.ifCond .lt 7, 3)), (357, (.iconst 1, 1)), (358, (.goto 4, 3)), (361, (.iconst 0, 1)), (362, (.if_icmp .ne 101, 3)), (365, (.aload_n 0, 1)), (366, (.iload 7, 2)), (368, (.bipush 8, 2)), (370, (.invokevirtual 65, 3)), (373, (.iload 8, 2)), (375, (.iconst 2, 1)), (376, (.if_icmp .ne 8, 3)), (379, (.iload 13, 2)), (381, (.goto 4, 3)), (384, (.iconst 0, 1)), (385, (.if_icmp .ne 78, 3)), (388, (.aload_n 0, 1)), (389, (.iload 7, 2)), (391, (.iconst 5, 1)), (392, (.invokevirtual 65, 3)), (395, (.ifCond .lt 68, 3)), (398, (.aload_n 0, 1)), (399, (.iload 7, 2)), (401, (.bipush 6, 2)), (403, (.invokevirtual 65, 3)), (406, (.aload_n 0, 1)), (407, (.bipush 6, 2)), (409, (.invokevirtual 62, 3)), (412, (.if_icmp .gt 51, 3)), (415, (.iload 8, 2)), (417, (.ifCond .ne 16, 3)), (420, (.aload_n 0, 1)), (421, (.iload 7, 2)), (423, (.bipush 9, 2)), (425, (.invokevirtual 65, 3)), (428, (.iload 9, 2)), (430, (.if_icmp .ne 33, 3)), (433, (.aload_n 0, 1)), (434, (.iload 7, 2)), (436, (.bipush 9, 2)), (438, (.invokevirtual 65, 3)), (441, (.iconst 2, 1)), (442, (.if_icmp .gt 21, 3)), (445, (.iload 8, 2)), (447, (.iconst 2, 1)), (448, (.if_icmp .ne 17, 3)), (451, (.aload_n 0, 1)), (452, (.iload 7, 2)), (454, (.bipush 9, 2)), (456, (.invokevirtual 65, 3)), (459, (.iconst 2, 1)), (460, (.if_icmp .eq 5, 3)), (463, (.iconst 0, 1)), (464, (.ireturn, 1)), (465, (.iload_n 1, 1)), (466, (.aload_n 0, 1)), (467, (.iload 7, 2)), (469, (.iconst 5, 1)), (470, (.invokevirtual 65, 3)), (473, (.iadd, 1)), (474, (.istore_n 1, 1)), (475, (.aload_n 3, 1)), (476, (.iload 8, 2)), (478, (.dup2, 1)), (479, (.iaload, 1)), (480, (.iconst 1, 1)), (481, (.iadd, 1)), (482, (.iastore, 1)), (483, (.iload 6, 2)), (485, (.iload 8, 2)), (487, (.iconst 2, 1)), (488, (.if_icmp .ne 18, 3)), (491, (.aload_n 0, 1)), (492, (.iload 7, 2)), (494, (.bipush 8, 2)), (496, (.invokevirtual 65, 3)), (499, (.ifCond .ne 7, 3)), (502, (.iconst 1, 1)), (503, (.goto 4, 3)), (506, (.iconst 0, 1)), (507, (.iadd, 1)), (508, (.istore 6, 2)), (510, (.iload 8, 2)), (512, (.ifCond .ne 23, 3)), (515, (.iload_n 2, 1)), (516, (.ifCond .lt 14, 3)), (519, (.iload 10, 2)), (521, (.aload_n 0, 1)), (522, (.iload_n 2, 1)), (523, (.iconst 3, 1)), (524, (.invokevirtual 65, 3)), (527, (.if_icmp .le 8, 3)), (530, (.iload 7, 2)), (532, (.goto 4, 3)), (535, (.iload_n 2, 1)), (536, (.istore_n 2, 1)), (537, (.iconst 0, 1)), (538, (.istore 15, 2)), (540, (.iload 15, 2)), (542, (.iconst 3, 1)), (543, (.if_icmp .ge 50, 3)), (546, (.aload 4, 2)), (548, (.iload 15, 2)), (550, (.dup2, 1)), (551, (.iaload, 1)), (552, (.iload 9, 2)), (554, (.iload 15, 2)), (556, (.if_icmp .ne 7, 3)), (559, (.iconst 1, 1)), (560, (.goto 4, 3)), (563, (.iconst 0, 1)), (564, (.iadd, 1)), (565, (.iastore, 1)), (566, (.aload 5, 2)), (568, (.iload 15, 2)), (570, (.dup2, 1)), (571, (.iaload, 1)), (572, (.iload 9, 2)), (574, (.iload 15, 2)), (576, (.if_icmp .ne 8, 3)), (579, (.iload 10, 2)), (581, (.goto 4, 3)), (584, (.iconst 0, 1)), (585, (.iadd, 1)), (586, (.iastore, 1)), (587, (.iinc 15 1, 3)), (590, (.goto (-50), 3)), (593, (.iinc 7 1, 3)), (596, (.goto (-571), 3)), (599, (.aload_n 0, 1)), (600, (.bipush 15, 2)), (602, (.invokevirtual 62, 3)), (605, (.iload_n 1, 1)), (606, (.if_icmp .ne 103, 3)), (609, (.aload_n 0, 1)), (610, (.bipush 15, 2)), (612, (.invokevirtual 62, 3)), (615, (.aload_n 0, 1)), (616, (.bipush 12, 2)), (618, (.invokevirtual 62, 3)), (621, (.aload_n 0, 1)), (622, (.bipush 13, 2)), (624, (.invokevirtual 62, 3)), (627, (.iadd, 1)), (628, (.aload_n 0, 1)), (629, (.bipush 14, 2)), (631, (.invokevirtual 62, 3)), (634, (.iadd, 1)), (635, (.if_icmp .ne 74, 3)), (638, (.aload_n 0, 1)), (639, (.bipush 8, 2)), (641, (.invokevirtual 62, 3)), (644, (.aload_n 3, 1)), (645, (.iconst 0, 1)), (646, (.iaload, 1)), (647, (.if_icmp .ne 62, 3)), (650, (.aload_n 0, 1)), (651, (.bipush 9, 2)), (653, (.invokevirtual 62, 3)), (656, (.aload_n 3, 1)), (657, (.iconst 1, 1)), (658, (.iaload, 1)), (659, (.if_icmp .ne 50, 3)), (662, (.aload_n 0, 1)), (663, (.bipush 10, 2)), (665, (.invokevirtual 62, 3)), (668, (.aload_n 3, 1)), (669, (.iconst 2, 1)), (670, (.iaload, 1)), (671, (.if_icmp .ne 38, 3)), (674, (.aload_n 0, 1)), (675, (.bipush 11, 2)), (677, (.invokevirtual 62, 3)), (680, (.aload_n 3, 1)), (681, (.iconst 3, 1)), (682, (.iaload, 1)), (683, (.if_icmp .ne 26, 3)), (686, (.aload_n 0, 1)), (687, (.bipush 16, 2)), (689, (.invokevirtual 62, 3)), (692, (.iload 6, 2)), (694, (.if_icmp .ne 15, 3)), (697, (.aload_n 0, 1)), (698, (.invokevirtual 75, 3)), (701, (.iload_n 2, 1)), (702, (.if_icmp .ne 7, 3)), (705, (.iconst 1, 1)), (706, (.goto 4, 3)), (709, (.iconst 0, 1)), (710, (.istore 7, 2)), (712, (.iconst 0, 1)), (713, (.istore 8, 2)), (715, (.iload 8, 2)), (717, (.iconst 3, 1)), (718, (.if_icmp .ge 68, 3)), (721, (.iload 7, 2)), (723, (.ifCond .eq 54, 3)), (726, (.aload_n 0, 1)), (727, (.iload 8, 2)), (729, (.iconst 1, 1)), (730, (.invokevirtual 78, 3)), (733, (.aload 4, 2)), (735, (.iload 8, 2)), (737, (.iaload, 1)), (738, (.if_icmp .ne 39, 3)), (741, (.aload_n 0, 1)), (742, (.iload 8, 2)), (744, (.iconst 2, 1)), (745, (.invokevirtual 78, 3)), (748, (.aload 5, 2)), (750, (.iload 8, 2)), (752, (.iaload, 1)), (753, (.if_icmp .ne 24, 3)), (756, (.aload_n 0, 1)), (757, (.iload 8, 2)), (759, (.iconst 3, 1)), (760, (.invokevirtual 78, 3)), (763, (.aload_n 0, 1)), (764, (.iload 8, 2)), (766, (.iconst 4, 1)), (767, (.invokevirtual 78, 3)), (770, (.if_icmp .lt 7, 3)), (773, (.iconst 1, 1)), (774, (.goto 4, 3)), (777, (.iconst 0, 1)), (778, (.istore 7, 2)), (780, (.iinc 8 1, 3)), (783, (.goto (-68), 3)), (786, (.iload 7, 2)), (788, (.ifCond .eq 60, 3)), (791, (.aload_n 0, 1)), (792, (.iconst 0, 1)), (793, (.iconst 4, 1)), (794, (.invokevirtual 78, 3)), (797, (.aload_n 0, 1)), (798, (.iconst 1, 1)), (799, (.iconst 4, 1)), (800, (.invokevirtual 78, 3)), (803, (.iadd, 1)), (804, (.aload_n 0, 1)), (805, (.iconst 2, 1)), (806, (.iconst 4, 1)), (807, (.invokevirtual 78, 3)), (810, (.iadd, 1)), (811, (.aload_n 3, 1)), (812, (.iconst 1, 1)), (813, (.iaload, 1)), (814, (.aload_n 3, 1)), (815, (.iconst 2, 1)), (816, (.iaload, 1)), (817, (.iadd, 1)), (818, (.if_icmp .ne 30, 3)), (821, (.aload_n 0, 1)), (822, (.iconst 2, 1)), (823, (.iconst 4, 1)), (824, (.invokevirtual 78, 3)), (827, (.aload_n 3, 1)), (828, (.iconst 2, 1)), (829, (.iaload, 1)), (830, (.if_icmp .lt 18, 3)), (833, (.aload_n 0, 1)), (834, (.bipush 8, 2)), (836, (.invokevirtual 62, 3)), (839, (.bipush 16, 2)), (841, (.if_icmp .gt 7, 3)), (844, (.iconst 1, 1)), (845, (.goto 4, 3)), (848, (.iconst 0, 1)), (849, (.ireturn, 1))]
def tb_L_print : List (Nat × (Instr × Nat)) := [(0, (.ldc2_w 81, 3)), (3, (.lstore_n 1, 1)), (4, (.iconst 0, 1)), (5, (.istore_n 3, 1)), (6, (.iload_n 3, 1)), (7, (.bipush 17, 2)), (9, (.if_icmp .ge 22, 3)), (12, (.ldc2_w 83, 3)), (15, (.lload_n 1, 1)), (16, (.lmul, 1)), (17, (.aload_n 0, 1)), (18, (.iload_n 3, 1)), (19, (.invokevirtual 62, 3)), (22, (.i2l, 1)), (23, (.ladd, 1)), (24, (.lstore_n 1, 1)), (25, (.iinc 3 1, 3)), (28, (.goto (-22), 3)), (31, (.iconst 0, 1)), (32, (.istore_n 3, 1)), (33, (.iload_n 3, 1)), (34, (.bipush 15, 2)), (36, (.if_icmp .ge 27, 3)), (39, (.ldc2_w 83, 3)), (42, (.lload_n 1, 1)), (43, (.lmul, 1)), (44, (.aload_n 0, 1)), (45, (.iload_n 3, 1)), (46, (.iconst 5, 1)), (47, (.idiv, 1)), (48, (.iload_n 3, 1)), (49, (.iconst 5, 1)), (50, (.irem, 1)), (51, (.invokevirtual 78, 3)), (54, (.i2l, 1)), (55, (.ladd, 1)), (56, (.lstore_n 1, 1)), (57, (.iinc 3 1, 3)), (60, (.goto (-27), 3)), (63, (.iconst 0, 1)), (64, (.istore_n 3, 1)), (65, (.iload_n 3, 1)), (66, (.bipush 10, 2)), (68, (.aload_n 0, 1)), (69, (.bipush 7, 2)), (71, (.invokevirtual 62, 3)), (74, (.imul, 1)), (75, (.if_icmp .ge 29, 3)), (78, (.ldc2_w 83, 3)), (81, (.lload_n 1, 1)), (82, (.lmul, 1)), (83, (.aload_n 0, 1)), (84, (.iload_n 3, 1)), (85, (.bipush 10, 2)), (87, (.idiv, 1)), (88, (.iload_n 3, 1)), (89, (.bipush 10, 2)), (91, (.irem, 1)), (92, (.invokevirtual 65, 3)), (95, (.i2l, 1)), (96, (.ladd, 1)), (97, (.lstore_n 1, 1)), (98, (.iinc 3 1, 3)), (101, (.goto (-36), 3)), (104, (.iconst 0, 1)), (105, (.istore_n 3, 1)), (106, (.iload_n 3, 1)), (107, (.bipush 12, 2)), (109, (.aload_n 0, 1)), (110, (.bipush 7, 2)), (112, (.invokevirtual 62, 3)), (115, (.imul, 1)), (116, (.if_icmp .ge 34, 3)), (119, (.ldc2_w 83, 3)), (122, (.lload_n 1, 1)), (123, (.lmul, 1)), (124, (.aload_n 0, 1)), (125, (.iload_n 3, 1)), (126, (.bipush 12, 2)), (128, (.idiv, 1)), (129, (.iload_n 3, 1)), (130, (.iconst 2, 1)), (131, (.irem, 1)), (132, (.iload_n 3, 1)), (133, (.bipush 12, 2)), (135, (.irem, 1)), (136, (.iconst 2, 1)), (137, (.idiv, 1)), (138, (.invokevirtual 68, 3)), (141, (.i2l, 1)), (142, (.ladd, 1)), (143, (.lstore_n 1, 1)), (144, (.iinc 3 1, 3)), (147, (.goto (-41), 3)), (150, (.lload_n 1, 1)), (151, (.lreturn, 1))]
def tb_L_turns : List (Nat × (Instr × Nat)) := [(0, (.aload_n 0, 1)), (1, (.iload_n 1, 1)), (2, (.iconst 0, 1)), (3, (.invokevirtual 85, 3)), (6, (.istore_n 3, 1)), (7, (.aload_n 0, 1)), (8, (.iload_n 1, 1)), (9, (.iconst 1, 1)), (10, (.invokevirtual 85, 3)), (13, (.istore 4, 2)), (15, (.aload_n 0, 1)), (16, (.iload_n 1, 1)), (17, (.iconst 2, 1)), (18, (.invokevirtual 85, 3)), (21, (.istore 5, 2)), (23, (.aload_n 0, 1)), (24, (.iload_n 2, 1)), (25, (.invokevirtual 88, 3)), (28, (.istore 6, 2)), (30, (.aload_n 0, 1)), (31, (.iload_n 2, 1)), (32, (.invokevirtual 91, 3)), (35, (.istore 7, 2)), (37, (.aload_n 0, 1)), (38, (.bipush 10, 2)), (40, (.invokevirtual 62, 3)), (43, (.istore 8, 2)), (45, (.aload_n 0, 1)), (46, (.bipush 9, 2)), (48, (.invokevirtual 62, 3)), (51, (.istore 9, 2)), (53, (.aload_n 0, 1)), (54, (.bipush 15, 2)), (56, (.invokevirtual 62, 3)), (59, (.istore 10, 2)), (61, (.aload_n 0, 1)), (62, (.invokestatic 94, 3)), (65, (.lstore 11, 2)), (67, (.aload_n 0, 1)), (68, (.iload_n 1, 1)), (69, (.invokevirtual 59, 3)), (72, (.iload_n 3, 1)), (73, (.if_icmp .ne 58, 3)), (76, (.aload_n 0, 1)), (77, (.bipush 10, 2)), (79, (.invokevirtual 62, 3)), (82, (.iload 8, 2)), (84, (.iload 4, 2)), (86, (.iadd, 1)), (87, (.if_icmp .ne 44, 3)), (90, (.aload_n 0, 1)), (91, (.bipush 9, 2)), (93, (.invokevirtual 62, 3)), (96, (.iload 9, 2)), (98, (.iload_n 3, 1)), (99, (.iadd, 1)), (100, (.iload 4, 2)), (102, (.isub, 1)), (103, (.if_icmp .ne 28, 3)), (106, (.aload_n 0, 1)), (107, (.bipush 15, 2)), (109, (.invokevirtual 62, 3)), (112, (.iload 10, 2)), (114, (.iload 5, 2)), (116, (.iadd, 1)), (117, (.if_icmp .ne 14, 3)), (120, (.aload_n 0, 1)), (121, (.invokestatic 98, 3)), (124, (.ifCond .eq 7, 3)), (127, (.iconst 1, 1)), (128, (.goto 4, 3)), (131, (.iconst 0, 1)), (132, (.istore 13, 2)), (134, (.iload_n 2, 1)), (135, (.aload_n 0, 1)), (136, (.bipush 7, 2)), (138, (.invokevirtual 62, 3)), (141, (.if_icmp .ge 101, 3)), (144, (.aload_n 0, 1)), (145, (.iload_n 2, 1)), (146, (.bipush 7, 2)), (148, (.invokevirtual 65, 3)), (151, (.ifCond .le 7, 3)), (154, (.iconst 1, 1)), (155, (.goto 4, 3)), (158, (.iconst 0, 1)), (159, (.istore 14, 2)), (161, (.iload 13, 2)), (163, (.ifCond .eq 73, 3)), (166, (.iload 14, 2)), (168, (.iload 6, 2)), (170, (.ifCond .lt 13, 3)), (173, (.iload 6, 2)), (175, (.iload_n 1, 1)), (176, (.if_icmp .gt 7, 3)), (179, (.iconst 1, 1)), (180, (.goto 4, 3)), (183, (.iconst 0, 1)), (184, (.if_icmp .ne 52, 3)), (187, (.iload 14, 2)), (189, (.ifCond .eq 15, 3)), (192, (.aload_n 0, 1)), (193, (.iload_n 2, 1)), (194, (.bipush 7, 2)), (196, (.invokevirtual 65, 3)), (199, (.iload 7, 2)), (201, (.if_icmp .ne 35, 3)), (204, (.iload 6, 2)), (206, (.iload_n 1, 1)), (207, (.if_icmp .le 25, 3)), (210, (.aload_n 0, 1)), (211, (.iload_n 2, 1)), (212, (.invokevirtual 88, 3)), (215, (.iload 6, 2)), (217, (.iload_n 1, 1)), (218, (.isub, 1)), (219, (.if_icmp .ne 17, 3)), (222, (.aload_n 0, 1)), (223, (.iload_n 2, 1)), (224, (.invokevirtual 91, 3)), (227, (.iload 7, 2)), (229, (.if_icmp .ne 7, 3)), (232, (.iconst 1, 1)), (233, (.goto 4, 3)), (236, (.iconst 0, 1)), (237, (.istore 13, 2)), (239, (.goto 28, 3)), (242, (.iload 13, 2)), (244, (.ifCond .eq 20, 3)), (247, (.iload 6, 2)), (249, (.iconst (-1), 1)), (250, (.if_icmp .ne 14, 3)), (253, (.iload 7, 2)), (255, (.iload 6, 2)), (257, (.if_icmp .ne 7, 3)), (260, (.iconst 1, 1)), (261, (.goto 4, 3)), (264, (.iconst 0, 1)), (265, (.istore 13, 2)), (267, (.iload 13, 2)), (269, (.ifCond .eq 24, 3)), (272, (.aload_n 0, 1)), (273, (.invokevirtual 102, 3)), (276, (.ifCond .lt 17, 3)), (279, (.aload_n 0, 1)), (280, (.invokestatic 94, 3)), (283, (.lload 11, 2)), (285, (.lcmp, 1)), (286, (.ifCond .ne 7, 3)), (289, (.iconst 1, 1)), (290, (.goto 4, 3)), (293, (.iconst 0, 1)), (294, (.ireturn, 1))]
def tb_L_small : List (Nat × (Instr × Nat)) := [(0, (.aload_n 0, 1)), (1, (.invokevirtual 105, 3)), (4, (.istore_n 1, 1)), (5, (.aload_n 0, 1)), (6, (.iconst 0, 1)), (7, (.invokevirtual 62, 3)), (10, (.istore_n 2, 1)), (11, (.aload_n 0, 1)), (12, (.invokestatic 94, 3)), (15, (.lstore_n 3, 1)), (16, (.iload_n 1, 1)), (17, (.bipush (-6), 2)), (19, (.if_icmp .eq 14, 3)), (22, (.iload_n 1, 1)), (23, (.ifCond .lt 14, 3)), (26, (.iload_n 1, 1)), (27, (.sipush 200, 3)), (30, (.if_icmp .gt 7, 3)), (33, (.iconst 1, 1)), (34, (.goto 4, 3)), (37, (.iconst 0, 1)), (38, (.istore 5, 2)), (40, (.iconst 0, 1)), (41, (.istore 6, 2)), (43, (.iload 6, 2)), (45, (.iconst 2, 1)), (46, (.if_icmp .ge 93, 3)), (49, (.iload 5, 2)), (51, (.ifCond .eq 88, 3)), (54, (.iload_n 1, 1)), (55, (.ifCond .ge 9, 3)), (58, (.sipush 200, 3)), (61, (.goto 7, 3)), (64, (.iload_n 1, 1)), (65, (.iload 6, 2)), (67, (.isub, 1)), (68, (.istore 7, 2)), (70, (.iload 7, 2)), (72, (.ifCond .lt 61, 3)), (75, (.aload_n 0, 1)), (76, (.iconst 0, 1)), (77, (.iload 7, 2)), (79, (.invokevirtual 39, 3)), (82, (.iload_n 2, 1)), (83, (.if_icmp .ne 47, 3)), (86, (.aload_n 0, 1)), (87, (.sipush 200, 3)), (90, (.iconst 1, 1)), (91, (.invokevirtual 85, 3)), (94, (.ifCond .ne 7, 3)), (97, (.iconst 1, 1)), (98, (.goto 4, 3)), (101, (.iconst 0, 1)), (102, (.iload_n 1, 1)), (103, (.ifCond .lt 12, 3)), (106, (.iload 6, 2)), (108, (.ifCond .ne 7, 3)), (111, (.iconst 1, 1)), (112, (.goto 4, 3)), (115, (.iconst 0, 1)), (116, (.if_icmp .ne 14, 3)), (119, (.aload_n 0, 1)), (120, (.invokevirtual 102, 3)), (123, (.ifCond .lt 7, 3)), (126, (.iconst 1, 1)), (127, (.goto 4, 3)), (130, (.iconst 0, 1)), (131, (.istore 5, 2)), (133, (.iinc 6 1, 3)), (136, (.goto (-93), 3)), (139, (.iload 5, 2)), (141, (.ifCond .eq 16, 3)), (144, (.aload_n 0, 1)), (145, (.invokestatic 94, 3)), (148, (.lload_n 3, 1)), (149, (.lcmp, 1)), (150, (.ifCond .ne 7, 3)), (153, (.iconst 1, 1)), (154, (.goto 4, 3)), (157, (.iconst 0, 1)), (158, (.ireturn, 1))]
def tb_L_hand : List (Nat × (Instr × Nat)) := [(0, (.aload_n 0, 1)), (1, (.invokevirtual 108, 3)), (4, (.istore_n 1, 1)), (5, (.aload_n 0, 1)), (6, (.iconst 5, 1)), (7, (.iconst 0, 1)), (8, (.invokevirtual 85, 3)), (11, (.istore_n 2, 1)), (12, (.aload_n 0, 1)), (13, (.invokestatic 94, 3)), (16, (.lstore_n 3, 1)), (17, (.iload_n 2, 1)), (18, (.istore 5, 2)), (20, (.bipush (-6), 2)), (22, (.istore 6, 2)), (24, (.iconst 1, 1)), (25, (.istore 7, 2)), (27, (.iconst 0, 1)), (28, (.istore 8, 2)), (30, (.iload 8, 2)), (32, (.iconst 3, 1)), (33, (.if_icmp .ge 110, 3)), (36, (.aload_n 0, 1)), (37, (.iload 8, 2)), (39, (.iconst 0, 1)), (40, (.invokevirtual 78, 3)), (43, (.istore 9, 2)), (45, (.iload 9, 2)), (47, (.iconst 3, 1)), (48, (.if_icmp .ge 89, 3)), (51, (.iload 7, 2)), (53, (.ifCond .eq 22, 3)), (56, (.aload_n 0, 1)), (57, (.iload 8, 2)), (59, (.iload 9, 2)), (61, (.iconst 1, 1)), (62, (.iadd, 1)), (63, (.invokevirtual 48, 3)), (66, (.iload 9, 2)), (68, (.if_icmp .ne 7, 3)), (71, (.iconst 1, 1)), (72, (.goto 4, 3)), (75, (.iconst 0, 1)), (76, (.istore 7, 2)), (78, (.aload_n 0, 1)), (79, (.iconst 5, 1)), (80, (.iconst 0, 1)), (81, (.invokevirtual 85, 3)), (84, (.istore 10, 2)), (86, (.iload 10, 2)), (88, (.iload 5, 2)), (90, (.if_icmp .le 8, 3)), (93, (.iload 8, 2)), (95, (.goto 5, 3)), (98, (.iload 6, 2)), (100, (.istore 6, 2)), (102, (.iload 10, 2)), (104, (.iload 5, 2)), (106, (.if_icmp .le 8, 3)), (109, (.iload 10, 2)), (111, (.goto 5, 3)), (114, (.iload 5, 2)), (116, (.istore 5, 2)), (118, (.iload 7, 2)), (120, (.ifCond .eq 14, 3)), (123, (.aload_n 0, 1)), (124, (.invokevirtual 102, 3)), (127, (.ifCond .lt 7, 3)), (130, (.iconst 1, 1)), (131, (.goto 4, 3)), (134, (.iconst 0, 1)), (135, (.istore 7, 2)), (137, (.iinc 8 1, 3)), (140, (.goto (-110), 3)), (143, (.iload 7, 2)), (145, (.ifCond .eq 22, 3)), (148, (.iload_n 1, 1)), (149, (.iload 6, 2)), (151, (.if_icmp .ne 16, 3)), (154, (.aload_n 0, 1)), (155, (.invokestatic 94, 3)), (158, (.lload_n 3, 1)), (159, (.lcmp, 1)), (160, (.ifCond .ne 7, 3)), (163, (.iconst 1, 1)), (164, (.goto 4, 3)), (167, (.iconst 0, 1)), (168, (.ireturn, 1))]
def tb_L_goes : List (Nat × (Instr × Nat)) := [(0, (.iload_n 1, 1)), (1, (.aload_n 0, 1)), (2, (.bipush 7, 2)), (4, (.invokevirtual 62, 3)), (7, (.if_icmp .ge 17, 3)), (10, (.aload_n 0, 1)), (11, (.iload_n 1, 1)), (12, (.bipush 7, 2)), (14, (.invokevirtual 65, 3)), (17, (.ifCond .ne 7, 3)), (20, (.iconst 1, 1)), (21, (.goto 4, 3)), (24, (.iconst 0, 1)), (25, (.istore_n 2, 1)), (26, (.aload_n 0, 1)), (27, (.invokestatic 94, 3)), (30, (.lstore_n 3, 1)), (31, (.aload_n 0, 1)), (32, (.iload_n 1, 1)), (33, (.iconst 5, 1)), (34, (.invokevirtual 65, 3)), (37, (.istore 5, 2)), (39, (.aload_n 0, 1)), (40, (.bipush 11, 2)), (42, (.invokevirtual 62, 3)), (45, (.istore 6, 2)), (47, (.iload_n 2, 1)), (48, (.ifCond .ne 27, 3)), (51, (.aload_n 0, 1)), (52, (.iload_n 1, 1)), (53, (.invokevirtual 55, 3)), (56, (.iconst (-1), 1)), (57, (.if_icmp .ne 16, 3)), (60, (.aload_n 0, 1)), (61, (.invokestatic 94, 3)), (64, (.lload_n 3, 1)), (65, (.lcmp, 1)), (66, (.ifCond .ne 7, 3)), (69, (.iconst 1, 1)), (70, (.goto 4, 3)), (73, (.iconst 0, 1)), (74, (.ireturn, 1)), (75, (.aload_n 0, 1)), (76, (.iload_n 1, 1)), (77, (.iconst 0, 1)), (78, (.iconst 3, 1)), (79, (.aload_n 0, 1)), (80, (.iload_n 1, 1)), (81, (.iconst 0, 1)), (82, (.iconst 3, 1)), (83, (.invokevirtual 68, 3)), (86, (.invokevirtual 51, 3)), (89, (.aload_n 0, 1)), (90, (.iload_n 1, 1)), (91, (.iconst 3, 1)), (92, (.invokevirtual 65, 3)), (95, (.if_icmp .ne 63, 3)), (98, (.aload_n 0, 1)), (99, (.invokestatic 94, 3)), (102, (.lload_n 3, 1)), (103, (.lcmp, 1)), (104, (.ifCond .ne 54, 3)), (107, (.aload_n 0, 1)), (108, (.iload_n 1, 1)), (109, (.invokevirtual 55, 3)), (112, (.iload 5, 2)), (114, (.if_icmp .ne 44, 3)), (117, (.aload_n 0, 1)), (118, (.bipush 11, 2)), (120, (.invokevirtual 62, 3)), (123, (.iload 6, 2)), (125, (.iconst 1, 1)), (126, (.iadd, 1)), (127, (.if_icmp .ne 31, 3)), (130, (.aload_n 0, 1)), (131, (.iload_n 1, 1)), (132, (.invokevirtual 91, 3)), (135, (.iconst 3, 1)), (136, (.if_icmp .ne 22, 3)), (139, (.aload_n 0, 1)), (140, (.iload_n 1, 1)), (141, (.invokevirtual 88, 3)), (144, (.ifCond .ne 14, 3)), (147, (.aload_n 0, 1)), (148, (.invokestatic 98, 3)), (151, (.ifCond .eq 7, 3)), (154, (.iconst 1, 1)), (155, (.goto 4, 3)), (158, (.iconst 0, 1)), (159, (.istore 7, 2)), (161, (.iload 7, 2)), (163, (.ifCond .eq 30, 3)), (166, (.aload_n 0, 1)), (167, (.invokevirtual 102, 3)), (170, (.ifCond .lt 23, 3)), (173, (.aload_n 0, 1)), (174, (.invokevirtual 102, 3)), (177, (.ifCond .lt 16, 3)), (180, (.aload_n 0, 1)), (181, (.invokestatic 94, 3)), (184, (.lload_n 3, 1)), (185, (.lcmp, 1)), (186, (.ifCond .ne 7, 3)), (189, (.iconst 1, 1)), (190, (.goto 4, 3)), (193, (.iconst 0, 1)), (194, (.ireturn, 1))]
def tb_L_law : List (Nat × (Instr × Nat)) := [(0, (.new 11, 3)), (3, (.dup, 1)), (4, (.invokespecial 111, 3)), (7, (.astore_n 1, 1)), (8, (.aload_n 1, 1)), (9, (.invokestatic 98, 3)), (12, (.ifCond .eq 16, 3)), (15, (.aload_n 1, 1)), (16, (.iconst 3, 1)), (17, (.iconst 0, 1)), (18, (.invokestatic 112, 3)), (21, (.ifCond .eq 7, 3)), (24, (.iconst 1, 1)), (25, (.goto 4, 3)), (28, (.iconst 0, 1)), (29, (.istore_n 2, 1)), (30, (.iconst 0, 1)), (31, (.istore_n 3, 1)), (32, (.iload_n 3, 1)), (33, (.bipush 42, 2)), (35, (.if_icmp .ge 304, 3)), (38, (.iload_n 2, 1)), (39, (.ifCond .eq 300, 3)), (42, (.aload_n 0, 1)), (43, (.iconst 2, 1)), (44, (.iload_n 3, 1)), (45, (.imul, 1)), (46, (.invokestatic 116, 3)), (49, (.istore 4, 2)), (51, (.aload_n 0, 1)), (52, (.iconst 2, 1)), (53, (.iload_n 3, 1)), (54, (.imul, 1)), (55, (.iconst 1, 1)), (56, (.iadd, 1)), (57, (.invokestatic 116, 3)), (60, (.istore 5, 2)), (62, (.aload_n 1, 1)), (63, (.bipush 18, 2)), (65, (.invokevirtual 62, 3)), (68, (.istore 6, 2)), (70, (.aload_n 1, 1)), (71, (.invokestatic 94, 3)), (74, (.lstore 7, 2)), (76, (.iload_n 3, 1)), (77, (.iconst 4, 1)), (78, (.if_icmp .ge 25, 3)), (81, (.aload_n 1, 1)), (82, (.iload 4, 2)), (84, (.iload 5, 2)), (86, (.invokestatic 32, 3)), (89, (.ifCond .ge 7, 3)), (92, (.iconst 0, 1)), (93, (.goto 18, 3)), (96, (.aload_n 1, 1)), (97, (.invokevirtual 36, 3)), (100, (.goto 11, 3)), (103, (.aload_n 1, 1)), (104, (.iload 4, 2)), (106, (.iload 5, 2)), (108, (.invokestatic 120, 3)), (111, (.istore 9, 2)), (113, (.iload 9, 2)), (115, (.ifCond .ge 33, 3)), (118, (.aload_n 1, 1)), (119, (.bipush 18, 2)), (121, (.invokevirtual 62, 3)), (124, (.iload 6, 2)), (126, (.if_icmp .ne 17, 3)), (129, (.aload_n 1, 1)), (130, (.invokestatic 94, 3)), (133, (.lload 7, 2)), (135, (.lcmp, 1)), (136, (.ifCond .ne 7, 3)), (139, (.iconst 1, 1)), (140, (.goto 4, 3)), (143, (.iconst 0, 1)), (144, (.istore_n 2, 1)), (145, (.goto 100, 3)), (148, (.aload_n 1, 1)), (149, (.bipush 18, 2)), (151, (.invokevirtual 62, 3)), (154, (.iload 6, 2)), (156, (.iconst 4, 1)), (157, (.if_icmp .ge 10, 3)), (160, (.iload 6, 2)), (162, (.iconst 1, 1)), (163, (.iadd, 1)), (164, (.goto 4, 3)), (167, (.iconst 4, 1)), (168, (.if_icmp .ne 7, 3)), (171, (.iconst 1, 1)), (172, (.goto 4, 3)), (175, (.iconst 0, 1)), (176, (.istore_n 2, 1)), (177, (.iload_n 2, 1)), (178, (.ifCond .eq 67, 3)), (181, (.iload_n 3, 1)), (182, (.iconst 3, 1)), (183, (.if_icmp .le 62, 3)), (186, (.iload 5, 2)), (188, (.iconst 5, 1)), (189, (.ishr, 1)), (190, (.iconst 4, 1)), (191, (.invokestatic 16, 3)), (194, (.ifCond .ne 51, 3)), (197, (.aload_n 1, 1)), (198, (.invokevirtual 102, 3)), (201, (.iload 6, 2)), (203, (.iconst 4, 1)), (204, (.if_icmp .ge 8, 3)), (207, (.iload 6, 2)), (209, (.goto 4, 3)), (212, (.iconst 3, 1)), (213, (.if_icmp .ne 30, 3)), (216, (.aload_n 1, 1)), (217, (.invokestatic 94, 3)), (220, (.lload 7, 2)), (222, (.lcmp, 1)), (223, (.ifCond .ne 20, 3)), (226, (.aload_n 1, 1)), (227, (.iload 4, 2)), (229, (.iload 5, 2)), (231, (.invokestatic 120, 3)), (234, (.iload 9, 2)), (236, (.if_icmp .ne 7, 3)), (239, (.iconst 1, 1)), (240, (.goto 4, 3)), (243, (.iconst 0, 1)), (244, (.istore_n 2, 1)), (245, (.iload_n 2, 1)), (246, (.ifCond .eq 85, 3)), (249, (.aload_n 1, 1)), (250, (.invokestatic 98, 3)), (253, (.ifCond .eq 78, 3)), (256, (.aload_n 1, 1)), (257, (.iconst 1, 1)), (258, (.iload 5, 2)), (260, (.iconst 3, 1)), (261, (.ishr, 1)), (262, (.bipush 12, 2)), (264, (.invokestatic 16, 3)), (267, (.iadd, 1)), (268, (.iload 4, 2)), (270, (.iconst 5, 1)), (271, (.ishr, 1)), (272, (.bipush 14, 2)), (274, (.invokestatic 16, 3)), (277, (.invokestatic 112, 3)), (280, (.ifCond .eq 51, 3)), (283, (.aload_n 1, 1)), (284, (.iload 5, 2)), (286, (.bipush 6, 2)), (288, (.ishr, 1)), (289, (.bipush 12, 2)), (291, (.invokestatic 16, 3)), (294, (.invokestatic 123, 3)), (297, (.ifCond .eq 34, 3)), (300, (.iload_n 3, 1)), (301, (.iconst 4, 1)), (302, (.irem, 1)), (303, (.ifCond .gt 10, 3)), (306, (.aload_n 1, 1)), (307, (.invokestatic 127, 3)), (310, (.ifCond .eq 21, 3)), (313, (.iload_n 3, 1)), (314, (.bipush 10, 2)), (316, (.irem, 1)), (317, (.ifCond .gt 10, 3)), (320, (.aload_n 1, 1)), (321, (.invokestatic 130, 3)), (324, (.ifCond .eq 7, 3)), (327, (.iconst 1, 1)), (328, (.goto 4, 3)), (331, (.iconst 0, 1)), (332, (.istore_n 2, 1)), (333, (.iinc 3 1, 3)), (336, (.goto (-304), 3)), (339, (.iload_n 2, 1)), (340, (.ireturn, 1))]
end
section
/-! helpers for the contracts -/
theorem R_gh {X : Sx} {L : Nat} {xc : Nat → Int → Int} {Qp : Int → Mem → Prop} {pc : Nat} {ls st : List PV} {M : Mem} (f : Int → Int) (k : Runs X L xc Qp pc ls st (gho M f)) : Runs X L xc Qp pc ls st M := R_gho rfl (fun _ _ h => gho_r M f h) k
theorem R_un {X : Sx} {L : Nat} {xc : Nat → Int → Int} {Qp : Int → Mem → Prop} {pc : Nat} {ls st : List PV} {M : Mem} {f : Int → Int} (k : Runs X L xc Qp pc ls st M) : Runs X L xc Qp pc ls st (gho M f) := R_gho rfl (fun _ _ h => (gho_r M f h).symm) k
def isSt (a : Nat) : Prop := 15 ≤ a ∧ (a - 15) % 22 = 0 ∧ a + 22 ≤ 191
theorem layi {L a i : Nat} (h : isSt a) (hi : Nat.blt i 22 = true) : LAY L (a + i) = layS a i := LAY_st L a i h.1 h.2.1 (Nat.le_of_ble_eq_true hi)
theorem lay0 {L a : Nat} (h : isSt a) : LAY L a = layS a 0 := LAY_st L a 0 h.1 h.2.1 (by decide)
abbrev C_X7_deskAt : Ct := (2, true, fun as M => ∃ (b : Int) (d : Int), as = [wI b, wI d] ∧ (True), fun as M x M' => ∀ (b : Int) (d : Int), as = [wI b, wI d] → ((b + 26 + 4 * d) = x ∧ (M) = M'))
abbrev C_X7_flag : Ct := (1, true, fun as M => ∃ (b : Int), as = [wI b] ∧ (b = 0 ∨ b = 1), fun as M x M' => ∀ (b : Int), as = [wI b] → ((b) = x ∧ (M) = M'))
abbrev C_X7_in : Ct := (3, true, fun as M => ∃ (v : Int) (lo : Int) (hi : Int), as = [wL v, wL lo, wL hi] ∧ (inl64 v ∧ inl64 lo ∧ inl64 hi), fun as M x M' => ∀ (v : Int) (lo : Int) (hi : Int), as = [wL v, wL lo, wL hi] → ((if lo ≤ v ∧ v ≤ hi then 1 else 0) = x ∧ (M) = M'))
end
section
/-! WHAT A STATE IS, AND WHAT IS DONE TO IT: a row of whole numbers, by the reference's places -/
def us (f : Int → Int) (i x : Int) : Int → Int := fun j => if j = i then x else f j
theorem us_s {f : Int → Int} {i x : Int} : us f i x i = x := if_pos rfl
theorem us_n {f : Int → Int} {i j x : Int} (h : j ≠ i) : us f i x j = f j := if_neg h
def pw (k : Int) : Int := if k = 0 then 100000 else if k = 1 then 10000 else if k = 2 then 1000 else if k = 3 then 100 else if k = 4 then 10 else 1
def dig (d k : Int) : Int := d / pw k % 10
def iab (x : Int) : Int := if x < 0 then -x else x
def df (f : Int → Int) (t k : Int) : Int := iab (dig (f (87 + 9 * t)) k - dig (f (88 + 9 * t)) k)
def bt_ (p : Prop) [Decidable p] (x : Int) : Int := if p then x else 0
def ds (f : Int → Int) (t k : Int) : Int := bt_ (f 4 < df f t k) 1
def msk (f : Int → Int) (t : Int) : Int := ds f t 0 + 2 * ds f t 1 + 4 * ds f t 2 + 8 * ds f t 3 + 16 * ds f t 4 + 32 * ds f t 5
def dw (f : Int → Int) (t k : Int) : Int := ds f t k * df f t k * f (15 + k)
def dbt (f : Int → Int) (t : Int) : Int := if msk f t = 0 then 0 else 9 - f (21 + f (86 + 9 * t)) + dw f t 0 + dw f t 1 + dw f t 2 + dw f t 3 + dw f t 4 + dw f t 5
def tks (f : Int → Int) (t c w : Int) : Int → Int := us (us f (91 + 9 * t) (f (91 + 9 * t) + c)) w (f w + c)
def rmv (f : Int → Int) (d p : Int) : Int → Int := fun j => if j = 27 + 4 * d then f j - 1 else if 38 + 16 * d + p ≤ j ∧ j < 37 + 16 * d + f (27 + 4 * d) then f (j + 1) else f j
def jn (f : Int → Int) (d t : Int) : Int → Int := us (us f (38 + 16 * d + f (27 + 4 * d)) t) (27 + 4 * d) (f (27 + 4 * d) + 1)
def pss (f : Int → Int) (d t w : Int) : Int → Int := us (us (us f (90 + 9 * t) w) (29 + 4 * d) (f (29 + 4 * d) + 1)) (if w = 1 then 8 else 9) (f (if w = 1 then 8 else 9) + 1)
abbrev mo (f : Int → Int) (t k : Int) : Prop := dig (f (87 + 9 * t)) k < dig (f (89 + 9 * t)) k ∧ dig (f (88 + 9 * t)) k < dig (f (89 + 9 * t)) k
def ms (f : Int → Int) (t k : Int) : Int := bt_ (mo f t k) 1
def fmk (f : Int → Int) (t : Int) : Int := ms f t 0 + 2 * ms f t 1 + 4 * ms f t 2 + 8 * ms f t 3 + 16 * ms f t 4 + 32 * ms f t 5
def fnm (f : Int → Int) (t : Int) : Int := ms f t 0 + ms f t 1 + ms f t 2 + ms f t 3 + ms f t 4 + ms f t 5
/-- opened: the kinds that were hidden are fined; then the trunk passes at the desk 2 -/
def opn (f : Int → Int) (t : Int) : Int → Int :=
  pss (us (us (us (us f (93 + 9 * t) (fmk f t)) (91 + 9 * t) (f (91 + 9 * t) + f 2 * fnm f t)) 12 (f 12 + f 2 * fnm f t)) 14 (f 14 + bt_ (fmk f t = 0) 1)) 2 t 2
/-- a hand of the desk d takes the first trunk; whether the desk goes on -/
abbrev lkS (f : Int → Int) (d o : Int) : Prop := msk f (f (38 + 16 * d)) ≠ 0 ∧ d = 2 ∧ f 5 ≤ f 9 - o
def lkd (f : Int → Int) (d : Int) : Int → Int := us f (28 + 4 * d) (f (28 + 4 * d) + 1)
def lkg (f : Int → Int) (d : Int) : Int → Int :=
  if msk f (f (38 + 16 * d)) = 0 then pss (rmv (lkd f d) d 0) d (f (38 + 16 * d)) 1
  else if d ≠ 2 ∧ dbt f (f (38 + 16 * d)) ≤ f 0 * (d + 1) then pss (tks (rmv (lkd f d) d 0) (f (38 + 16 * d)) (f 1) 11) d (f (38 + 16 * d)) 1
  else if d = 2 then opn (rmv (lkd f d) d 0) (f (38 + 16 * d))
  else us (jn (rmv (lkd f d) d 0) (d + 1) (f (38 + 16 * d))) (94 + 9 * f (38 + 16 * d)) (f (94 + 9 * f (38 + 16 * d)) + 1)
def hnd (d o : Int) : Nat → (Int → Int) → (Int → Int)
  | 0, f => f
  | n + 1, f => if f (27 + 4 * d) ≤ 0 then f else if lkS f d o then lkd f d else hnd d o n (lkg f d)
def dly (d : Int) : Nat → Int → (Int → Int) → (Int → Int)
  | 0, _, f => f
  | n + 1, p, f => dly d n (p + 1) (tks f (f (38 + 16 * d + p)) (f 3) 13)
def dlD (f : Int → Int) (d : Int) : Int → Int := dly d (f (27 + 4 * d)).toNat 0 f
def hnD (f : Int → Int) (d : Int) : Int → Int := hnd d (f 9) (f (26 + 4 * d)).toNat f
/-- a turn (kept shut: only its equation opens it) -/
theorem tn1_ex : ∃ g : (Int → Int) → (Int → Int), ∀ f, g f = us (dlD (dlD (dlD (hnD (hnD (hnD f 2) 1) 0) 0) 1) 2) 6 (dlD (dlD (dlD (hnD (hnD (hnD f 2) 1) 0) 0) 1) 2 6 + 1) := ⟨fun f => us (dlD (dlD (dlD (hnD (hnD (hnD f 2) 1) 0) 0) 1) 2) 6 (dlD (dlD (dlD (hnD (hnD (hnD f 2) 1) 0) 0) 1) 2 6 + 1), fun _ => rfl⟩
noncomputable def tn1 : (Int → Int) → (Int → Int) := Classical.choose tn1_ex
theorem tn1_def (f : Int → Int) : tn1 f = us (dlD (dlD (dlD (hnD (hnD (hnD f 2) 1) 0) 0) 1) 2) 6 (dlD (dlD (dlD (hnD (hnD (hnD f 2) 1) 0) 0) 1) 2 6 + 1) := Classical.choose_spec tn1_ex f
theorem n200_ex : ∃ n : Nat, n = 200 := ⟨200, rfl⟩
noncomputable def N200 : Nat := Classical.choose n200_ex
theorem N200_eq : N200 = 200 := Classical.choose_spec n200_ex
noncomputable def tnN : Nat → (Int → Int) → (Int → Int)
  | 0, f => f
  | n + 1, f => tnN n (tn1 f)
/-- the row at b of the reference's one array -/
def sh (b : Int) (F : Int → Int) : Int → Int := fun i => F (b + i)
def un (b : Int) (f : Int → Int) : Int → Int := fun k => f (k - b)
def sta (M : Mem) (F : Int → Int) : Mem := fun r => if r = 12 then F else M r
def mr (b : Int) (M : Mem) (f : Int → Int) : Mem := sta M (un b f)
theorem un_sh (b : Int) (F : Int → Int) : un b (sh b F) = F := by
  funext k
  show F (b + (k - b)) = F k
  congr 1
  omega
theorem sh_un (b : Int) (f : Int → Int) : sh b (un b f) = f := by
  funext k
  show f (b + k - b) = f k
  congr 1
  omega
theorem sta_12 (M : Mem) (F : Int → Int) : sta M F 12 = F := if_pos rfl
theorem sta_ne {M : Mem} {F : Int → Int} {r : Nat} (h : r ≠ 12) : sta M F r = M r := if_neg h
theorem sta_sta (M : Mem) (F G : Int → Int) : sta (sta M F) G = sta M G := by
  funext r
  by_cases h : r = 12
  · subst h; rw [sta_12, sta_12]
  · rw [sta_ne h, sta_ne h, sta_ne h]
theorem sta_self (M : Mem) : sta M (M 12) = M := by
  funext r
  by_cases h : r = 12
  · subst h; rw [sta_12]
  · rw [sta_ne h]
theorem up_sta (M : Mem) (k x : Int) : upM M 12 k x = sta M (us (M 12) k x) := by
  funext r k'
  by_cases h : r = 12
  · subst h
    rw [sta_12]
    simp [upM, us]
  · rw [sta_ne h]
    simp [upM, h]
theorem us_un (b : Int) (f : Int → Int) (k x : Int) : us (un b f) k x = un b (us f (k - b) x) := by
  funext j
  unfold us un
  by_cases h : j = k
  · subst h; simp
  · rw [if_neg h]
    show f (j - b) = if j - b = k - b then x else f (j - b)
    rw [if_neg (by omega)]
theorem mr_12 (b : Int) (M : Mem) (f : Int → Int) (k : Int) : mr b M f 12 k = f (k - b) := by
  unfold mr
  rw [sta_12]
  rfl
theorem sh_mr (b : Int) (M : Mem) (f : Int → Int) : sh b (mr b M f 12) = f := by
  unfold mr
  rw [sta_12, sh_un]
theorem mr_mr (b : Int) (M : Mem) (f g : Int → Int) : mr b (mr b M f) g = mr b M g := sta_sta _ _ _
theorem mr_self (b : Int) (M : Mem) : mr b M (sh b (M 12)) = M := by
  unfold mr
  rw [un_sh, sta_self]
theorem up_mr (b : Int) (M : Mem) (f : Int → Int) (k x : Int) : upM (mr b M f) 12 k x = mr b M (us f (k - b) x) := by
  rw [up_sta]
  unfold mr
  rw [sta_12, sta_sta, us_un]
theorem mr_ne {b : Int} {M : Mem} {f : Int → Int} {r : Nat} (h : r ≠ 12) : mr b M f r = M r := sta_ne h
theorem us_at {f : Int → Int} {i j x : Int} (h : i = j) : us f i x = us f j x := by rw [h]
theorem rd12 {M : Mem} {b i j : Int} (h : i = b + j) : M 12 i = sh b (M 12) j := congrArg (M 12) h
theorem rdmr {M : Mem} {f : Int → Int} {b i j : Int} (h : i = b + j) : mr b M f 12 i = f j := by
  rw [mr_12]
  congr 1
  omega
theorem upmr {M : Mem} {f : Int → Int} {b i j x : Int} (h : i = b + j) : upM (mr b M f) 12 i x = mr b M (us f j x) := by
  rw [up_mr]
  congr 2
  omega
theorem up12 {M : Mem} {b i j x : Int} (h : i = b + j) : upM M 12 i x = mr b M (us (sh b (M 12)) j x) := by
  have := upmr (M := M) (f := sh b (M 12)) (x := x) h
  rwa [mr_self] at this
/-- the ranges that always hold -/
def Bd (f : Int → Int) : Prop :=
  ((0 ≤ f 0 ∧ f 0 ≤ 200) ∧ (0 ≤ f 1 ∧ f 1 ≤ 50) ∧ (0 ≤ f 2 ∧ f 2 ≤ 90) ∧ (0 ≤ f 3 ∧ f 3 ≤ 20) ∧ (0 ≤ f 4 ∧ f 4 ≤ 9) ∧ (1 ≤ f 5 ∧ f 5 ≤ 4)) ∧
  (∀ k, 0 ≤ k → k < 6 → 1 ≤ f (15 + k) ∧ f (15 + k) ≤ 9) ∧ (∀ c, 0 ≤ c → c < 5 → 0 ≤ f (21 + c) ∧ f (21 + c) ≤ 9) ∧
  (∀ t, 0 ≤ t → t < 64 → (0 ≤ f (86 + 9 * t) ∧ f (86 + 9 * t) < 5) ∧ (0 ≤ f (87 + 9 * t) ∧ f (87 + 9 * t) < 1000000) ∧ (0 ≤ f (88 + 9 * t) ∧ f (88 + 9 * t) < 1000000) ∧ (0 ≤ f (89 + 9 * t) ∧ f (89 + 9 * t) < 1000000))
/-- 2^k for the kinds -/
def p2 (k : Int) : Int := if k = 0 then 1 else if k = 1 then 2 else if k = 2 then 4 else if k = 3 then 8 else if k = 4 then 16 else 32
def mP (f : Int → Int) (t : Int) : Nat → Int
  | 0 => 0
  | n + 1 => mP f t n + ds f t (n : Int) * p2 (n : Int)
def dP (f : Int → Int) (t : Int) : Nat → Int
  | 0 => 9 - f (21 + f (86 + 9 * t))
  | n + 1 => dP f t n + dw f t (n : Int)
def rmP (f : Int → Int) (d p k : Int) : Int → Int := fun j => if j = 27 + 4 * d then f j - 1 else if 38 + 16 * d + p ≤ j ∧ j < 38 + 16 * d + k then f (j + 1) else f j
end
section
/-! plain facts of numbers -/
theorem bt_01 (p : Prop) [Decidable p] : 0 ≤ bt_ p 1 ∧ bt_ p 1 ≤ 1 := by
  unfold bt_
  split <;> omega
theorem bt_t {p : Prop} [Decidable p] {x : Int} (h : p) : bt_ p x = x := if_pos h
theorem bt_f {p : Prop} [Decidable p] {x : Int} (h : ¬ p) : bt_ p x = 0 := if_neg h
theorem i32div_of {x y : Int} (h0 : 0 ≤ x) (h1 : x < 2147483648) (h2 : 0 < y) (h3 : y < 2147483648) : i32div x y = x / y := by
  obtain ⟨a, rfl⟩ : ∃ a : Nat, x = a := ⟨x.toNat, by omega⟩
  obtain ⟨b, rfl⟩ : ∃ b : Nat, y = b := ⟨y.toNat, by omega⟩
  unfold i32div
  rw [of_nI, of_nI, pk_div (by omega) (by omega) (by omega), nI_toInt (Nat.lt_of_le_of_lt (Nat.div_le_self _ _) (by omega))]
  exact Int.natCast_ediv a b
theorem i32rem_of {x y : Int} (h0 : 0 ≤ x) (h1 : x < 2147483648) (h2 : 0 < y) (h3 : y < 2147483648) : i32rem x y = x % y := by
  obtain ⟨a, rfl⟩ : ∃ a : Nat, x = a := ⟨x.toNat, by omega⟩
  obtain ⟨b, rfl⟩ : ∃ b : Nat, y = b := ⟨y.toNat, by omega⟩
  unfold i32rem
  rw [of_nI, of_nI, pk_rem (by omega) (by omega) (by omega), nI_toInt (Nat.lt_of_le_of_lt (Nat.mod_le _ _) (by omega))]
  exact Int.natCast_emod a b
theorem pw_pos (k : Int) : 1 ≤ pw k ∧ pw k ≤ 100000 := by
  unfold pw
  repeat' split
  all_goals omega
theorem dig_bd {d k : Int} (h : 0 ≤ d) : 0 ≤ dig d k ∧ dig d k ≤ 9 := by
  unfold dig
  omega
theorem df_bd {f : Int → Int} {t k : Int} (h1 : 0 ≤ f (87 + 9 * t)) (h2 : 0 ≤ f (88 + 9 * t)) : 0 ≤ df f t k ∧ df f t k ≤ 9 := by
  have a := dig_bd (k := k) h1
  have b := dig_bd (k := k) h2
  unfold df iab
  split <;> omega
theorem ds_01 (f : Int → Int) (t k : Int) : 0 ≤ ds f t k ∧ ds f t k ≤ 1 := bt_01 _
theorem ms_01 (f : Int → Int) (t k : Int) : 0 ≤ ms f t k ∧ ms f t k ≤ 1 := bt_01 _
theorem msk_bd (f : Int → Int) (t : Int) : 0 ≤ msk f t ∧ msk f t < 64 := by
  have h0 := ds_01 f t 0
  have h1 := ds_01 f t 1
  have h2 := ds_01 f t 2
  have h3 := ds_01 f t 3
  have h4 := ds_01 f t 4
  have h5 := ds_01 f t 5
  unfold msk
  omega
theorem fmk_bd (f : Int → Int) (t : Int) : 0 ≤ fmk f t ∧ fmk f t < 64 := by
  have h0 := ms_01 f t 0
  have h1 := ms_01 f t 1
  have h2 := ms_01 f t 2
  have h3 := ms_01 f t 3
  have h4 := ms_01 f t 4
  have h5 := ms_01 f t 5
  unfold fmk
  omega
theorem k6 {P : Int → Prop} {k : Int} (h : 0 ≤ k ∧ k < 6) (h0 : P 0) (h1 : P 1) (h2 : P 2) (h3 : P 3) (h4 : P 4) (h5 : P 5) : P k := by
  have : k = 0 ∨ k = 1 ∨ k = 2 ∨ k = 3 ∨ k = 4 ∨ k = 5 := by omega
  rcases this with rfl | rfl | rfl | rfl | rfl | rfl <;> assumption
theorem ior_shl_n : ∀ k, k < 6 → ∀ a, a < 2 ^ k → ∀ b, b < 2 → xior ((a : Nat) : Int) (xishl ((b : Nat) : Int) ((k : Nat) : Int)) = ((a + b * 2 ^ k : Nat) : Int) := by decide +kernel
theorem p2_n : ∀ k, k < 6 → p2 ((k : Nat) : Int) = ((2 ^ k : Nat) : Int) := by decide +kernel
theorem ior_shl {a b k : Int} (hk : 0 ≤ k ∧ k < 6) (ha : 0 ≤ a ∧ a < p2 k) (hb : 0 ≤ b ∧ b ≤ 1) : xior a (xishl b k) = a + b * p2 k := by
  obtain ⟨k, rfl⟩ : ∃ n : Nat, k = n := ⟨k.toNat, by omega⟩
  obtain ⟨a, rfl⟩ : ∃ n : Nat, a = n := ⟨a.toNat, by omega⟩
  obtain ⟨b, rfl⟩ : ∃ n : Nat, b = n := ⟨b.toNat, by omega⟩
  have e := p2_n k (by omega)
  rw [e] at ha ⊢
  rw [ior_shl_n k (by omega) a (by omega) b (by omega)]
  push_cast
  rfl
theorem shr_n : ∀ k, k < 6 → ∀ a, a < 64 → xiand (xishr ((a : Nat) : Int) ((k : Nat) : Int)) 1 = ((a / 2 ^ k % 2 : Nat) : Int) := by decide +kernel
theorem shr_and {a k : Int} (hk : 0 ≤ k ∧ k < 6) (ha : 0 ≤ a ∧ a < 64) : xiand (xishr a k) 1 = a / p2 k % 2 := by
  obtain ⟨k, rfl⟩ : ∃ n : Nat, k = n := ⟨k.toNat, by omega⟩
  obtain ⟨a, rfl⟩ : ∃ n : Nat, a = n := ⟨a.toNat, by omega⟩
  rw [p2_n k (by omega), shr_n k (by omega) a (by omega)]
  push_cast
  rfl
theorem msk_bit (f : Int → Int) (t : Int) {k : Int} (hk : 0 ≤ k ∧ k < 6) : msk f t / p2 k % 2 = ds f t k := by
  have h0 := ds_01 f t 0
  have h1 := ds_01 f t 1
  have h2 := ds_01 f t 2
  have h3 := ds_01 f t 3
  have h4 := ds_01 f t 4
  have h5 := ds_01 f t 5
  unfold msk
  refine k6 (P := fun k => _ / p2 k % 2 = ds f t k) hk ?_ ?_ ?_ ?_ ?_ ?_
  · show _ / 1 % 2 = _
    omega
  · show _ / 2 % 2 = _
    omega
  · show _ / 4 % 2 = _
    omega
  · show _ / 8 % 2 = _
    omega
  · show _ / 16 % 2 = _
    omega
  · show _ / 32 % 2 = _
    omega
end
section
/-! THE REFERENCE, leaves first -/
abbrev C_X7_queueAt : Ct := (3, true, fun as M => ∃ (b : Int) (d : Int) (p : Int), as = [wI b, wI d, wI p] ∧ (True), fun as M x M' => ∀ (b : Int) (d : Int) (p : Int), as = [wI b, wI d, wI p] → ((b + 38 + 16 * d + p) = x ∧ (M) = M'))
abbrev C_X7_trunkAt : Ct := (2, true, fun as M => ∃ (b : Int) (t : Int), as = [wI b, wI t] ∧ (True), fun as M x M' => ∀ (b : Int) (t : Int), as = [wI b, wI t] → ((b + 86 + 9 * t) = x ∧ (M) = M'))
abbrev C_X7_power : Ct := (1, true, fun as M => ∃ (k : Int), as = [wI k] ∧ (0 ≤ k ∧ k < 6), fun as M x M' => ∀ (k : Int), as = [wI k] → ((pw k) = x ∧ (M) = M'))
abbrev C_X7_piecesOn : Ct := (2, true, fun as M => ∃ (d : Int) (k : Int), as = [wI d, wI k] ∧ ((0 ≤ d ∧ d < 1000000) ∧ 0 ≤ k ∧ k < 6), fun as M x M' => ∀ (d : Int) (k : Int), as = [wI d, wI k] → ((dig d k) = x ∧ (M) = M'))
abbrev C_X7_differs : Ct := (4, true, fun as M => ∃ (o : Nat) (b : Int) (t : Int) (k : Int), as = [wR o, wI b, wI t, wI k] ∧ (o = 11 ∧ (0 ≤ b ∧ b ≤ 4634) ∧ (0 ≤ t ∧ t < 64) ∧ (0 ≤ k ∧ k < 6) ∧ (0 ≤ sh b (M 12) (87 + 9 * t) ∧ sh b (M 12) (87 + 9 * t) < 1000000) ∧ 0 ≤ sh b (M 12) (88 + 9 * t) ∧ sh b (M 12) (88 + 9 * t) < 1000000), fun as M x M' => ∀ (o : Nat) (b : Int) (t : Int) (k : Int), as = [wR o, wI b, wI t, wI k] → ((df (sh b (M 12)) t k) = x ∧ (M) = M'))
end
section
theorem mP_bd (f : Int → Int) (t : Int) : ∀ n, n < 6 → 0 ≤ mP f t n ∧ mP f t n < p2 (n : Int)
  | 0, _ => by show 0 ≤ (0 : Int) ∧ (0 : Int) < 1; omega
  | 1, _ => by
    have h0 := ds_01 f t 0
    show 0 ≤ 0 + ds f t 0 * 1 ∧ 0 + ds f t 0 * 1 < 2
    omega
  | 2, _ => by
    have h0 := ds_01 f t 0
    have h1 := ds_01 f t 1
    show 0 ≤ 0 + ds f t 0 * 1 + ds f t 1 * 2 ∧ 0 + ds f t 0 * 1 + ds f t 1 * 2 < 4
    omega
  | 3, _ => by
    have h0 := ds_01 f t 0
    have h1 := ds_01 f t 1
    have h2 := ds_01 f t 2
    show 0 ≤ 0 + ds f t 0 * 1 + ds f t 1 * 2 + ds f t 2 * 4 ∧ 0 + ds f t 0 * 1 + ds f t 1 * 2 + ds f t 2 * 4 < 8
    omega
  | 4, _ => by
    have h0 := ds_01 f t 0
    have h1 := ds_01 f t 1
    have h2 := ds_01 f t 2
    have h3 := ds_01 f t 3
    show 0 ≤ 0 + ds f t 0 * 1 + ds f t 1 * 2 + ds f t 2 * 4 + ds f t 3 * 8 ∧ 0 + ds f t 0 * 1 + ds f t 1 * 2 + ds f t 2 * 4 + ds f t 3 * 8 < 16
    omega
  | 5, _ => by
    have h0 := ds_01 f t 0
    have h1 := ds_01 f t 1
    have h2 := ds_01 f t 2
    have h3 := ds_01 f t 3
    have h4 := ds_01 f t 4
    show 0 ≤ 0 + ds f t 0 * 1 + ds f t 1 * 2 + ds f t 2 * 4 + ds f t 3 * 8 + ds f t 4 * 16 ∧ 0 + ds f t 0 * 1 + ds f t 1 * 2 + ds f t 2 * 4 + ds f t 3 * 8 + ds f t 4 * 16 < 32
    omega
  | n + 6, h => absurd h (by omega)
theorem mP_6 (f : Int → Int) (t : Int) : mP f t 6 = msk f t := by
  show 0 + ds f t 0 * 1 + ds f t 1 * 2 + ds f t 2 * 4 + ds f t 3 * 8 + ds f t 4 * 16 + ds f t 5 * 32 = _
  unfold msk
  omega
theorem dP_6 (f : Int → Int) (t : Int) : dbt f t = if msk f t = 0 then 0 else dP f t 6 := rfl
theorem rmP_0 {f : Int → Int} {d p : Int} : us f (27 + 4 * d) (f (27 + 4 * d) - 1) = rmP f d p p := by
  funext j
  unfold us rmP
  by_cases h : j = 27 + 4 * d
  · subst h; simp
  · rw [if_neg h, if_neg h, if_neg (by omega)]
theorem rmP_s {f : Int → Int} {d p k : Int} (hd : 0 ≤ d ∧ d < 3) (h1 : 0 ≤ p) (h2 : p ≤ k) : us (rmP f d p k) (38 + 16 * d + k) (f (39 + 16 * d + k)) = rmP f d p (k + 1) := by
  funext j
  unfold us rmP
  by_cases e : j = 38 + 16 * d + k
  · subst e
    rw [if_pos rfl, if_neg (by omega), if_pos (by omega)]
    congr 1
    omega
  · rw [if_neg e]
    by_cases e1 : j = 27 + 4 * d
    · rw [if_pos e1, if_pos e1]
    · rw [if_neg e1, if_neg e1]
      by_cases e2 : 38 + 16 * d + p ≤ j ∧ j < 38 + 16 * d + k
      · rw [if_pos e2, if_pos (by omega)]
      · rw [if_neg e2, if_neg (by omega)]
theorem rmP_e {f : Int → Int} {d p : Int} : rmP f d p (f (27 + 4 * d) - 1) = rmv f d p := by
  funext j
  unfold rmv rmP
  by_cases e1 : j = 27 + 4 * d
  · rw [if_pos e1, if_pos e1]
  · rw [if_neg e1, if_neg e1]
    by_cases e2 : 38 + 16 * d + p ≤ j ∧ j < 38 + 16 * d + (f (27 + 4 * d) - 1)
    · rw [if_pos e2, if_pos (by omega)]
    · rw [if_neg e2, if_neg (by omega)]
theorem rmP_m {f : Int → Int} {d p k : Int} : rmP f d p k (27 + 4 * d) = f (27 + 4 * d) - 1 := if_pos rfl
theorem rmP_q {f : Int → Int} {d p k : Int} (hd : 0 ≤ d ∧ d < 3) (h1 : 0 ≤ k) : rmP f d p k (39 + 16 * d + k) = f (39 + 16 * d + k) := by
  unfold rmP
  rw [if_neg (by omega), if_neg (by omega)]
abbrev C_X7_disagreeing : Ct := (3, true, fun as M => ∃ (o : Nat) (b : Int) (t : Int), as = [wR o, wI b, wI t] ∧ (o = 11 ∧ (0 ≤ b ∧ b ≤ 4634) ∧ (0 ≤ t ∧ t < 64) ∧ Bd (sh b (M 12))), fun as M x M' => ∀ (o : Nat) (b : Int) (t : Int), as = [wR o, wI b, wI t] → ((msk (sh b (M 12)) t) = x ∧ (M) = M'))
abbrev C_X7_doubt : Ct := (3, true, fun as M => ∃ (o : Nat) (b : Int) (t : Int), as = [wR o, wI b, wI t] ∧ (o = 11 ∧ (0 ≤ b ∧ b ≤ 4634) ∧ (0 ≤ t ∧ t < 64) ∧ Bd (sh b (M 12))), fun as M x M' => ∀ (o : Nat) (b : Int) (t : Int), as = [wR o, wI b, wI t] → ((dbt (sh b (M 12)) t) = x ∧ (M) = M'))
abbrev C_X7_takes : Ct := (5, false, fun as M => ∃ (o : Nat) (b : Int) (t : Int) (c : Int) (w : Int), as = [wR o, wI b, wI t, wI c, wI w] ∧ (o = 11 ∧ (0 ≤ b ∧ b ≤ 4634) ∧ (0 ≤ t ∧ t < 64) ∧ (0 ≤ w ∧ w < 86)), fun as M x M' => ∀ (o : Nat) (b : Int) (t : Int) (c : Int) (w : Int), as = [wR o, wI b, wI t, wI c, wI w] → ((mr b M (tks (sh b (M 12)) t c w)) = M'))
abbrev C_X7_removes : Ct := (4, false, fun as M => ∃ (o : Nat) (b : Int) (d : Int) (p : Int), as = [wR o, wI b, wI d, wI p] ∧ (o = 11 ∧ (0 ≤ b ∧ b ≤ 4634) ∧ (0 ≤ d ∧ d < 3) ∧ (0 ≤ p ∧ p < (sh b (M 12)) (27 + 4 * d) ∧ (sh b (M 12)) (27 + 4 * d) ≤ 16)), fun as M x M' => ∀ (o : Nat) (b : Int) (d : Int) (p : Int), as = [wR o, wI b, wI d, wI p] → ((mr b M (rmv (sh b (M 12)) d p)) = M'))
abbrev C_X7_joins : Ct := (4, false, fun as M => ∃ (o : Nat) (b : Int) (d : Int) (t : Int), as = [wR o, wI b, wI d, wI t] ∧ (o = 11 ∧ (0 ≤ b ∧ b ≤ 4634) ∧ (0 ≤ d ∧ d < 3) ∧ (0 ≤ (sh b (M 12)) (27 + 4 * d) ∧ (sh b (M 12)) (27 + 4 * d) < 16)), fun as M x M' => ∀ (o : Nat) (b : Int) (d : Int) (t : Int), as = [wR o, wI b, wI d, wI t] → ((mr b M (jn (sh b (M 12)) d t)) = M'))
abbrev C_X7_passes : Ct := (5, false, fun as M => ∃ (o : Nat) (b : Int) (d : Int) (t : Int) (w : Int), as = [wR o, wI b, wI d, wI t, wI w] ∧ (o = 11 ∧ (0 ≤ b ∧ b ≤ 4634) ∧ (0 ≤ d ∧ d < 3) ∧ (0 ≤ t ∧ t < 64) ∧ (w = 1 ∨ w = 2)), fun as M x M' => ∀ (o : Nat) (b : Int) (d : Int) (t : Int) (w : Int), as = [wR o, wI b, wI d, wI t, wI w] → ((mr b M (pss (sh b (M 12)) d t w)) = M'))
end
section
theorem us_c {f : Int → Int} {i j x y : Int} (h : i ≠ j) : us (us f i x) j y = us (us f j y) i x := by
  funext k
  unfold us
  by_cases h1 : k = j
  · by_cases h2 : k = i
    · omega
    · rw [if_pos h1, if_neg h2, if_pos h1]
  · by_cases h2 : k = i
    · rw [if_neg h1, if_pos h2, if_pos h2]
    · rw [if_neg h1, if_neg h2, if_neg h2, if_neg h1]
theorem us_us {f : Int → Int} {i x y : Int} : us (us f i x) i y = us f i y := by
  funext k
  unfold us
  by_cases h1 : k = i
  · rw [if_pos h1, if_pos h1]
  · rw [if_neg h1, if_neg h1, if_neg h1]
theorem us_self {f : Int → Int} {i x : Int} (h : f i = x) : us f i x = f := by
  funext k
  unfold us
  by_cases h1 : k = i
  · subst h1; rw [if_pos rfl, h]
  · rw [if_neg h1]
def fP (f : Int → Int) (t : Int) : Nat → Int
  | 0 => 0
  | n + 1 => fP f t n + ms f t (n : Int) * p2 (n : Int)
def fC (f : Int → Int) (t : Int) : Nat → Int
  | 0 => 0
  | n + 1 => fC f t n + ms f t (n : Int)
def opP (f : Int → Int) (t : Int) (n : Nat) : Int → Int := us (us (us f (93 + 9 * t) (fP f t n)) (91 + 9 * t) (f (91 + 9 * t) + f 2 * fC f t n)) 12 (f 12 + f 2 * fC f t n)
theorem fP_bd (f : Int → Int) (t : Int) : ∀ n, n < 6 → 0 ≤ fP f t n ∧ fP f t n < p2 (n : Int)
  | 0, _ => by show 0 ≤ (0 : Int) ∧ (0 : Int) < 1; omega
  | 1, _ => by
    have h0 := ms_01 f t 0
    show 0 ≤ 0 + ms f t 0 * 1 ∧ 0 + ms f t 0 * 1 < 2
    omega
  | 2, _ => by
    have h0 := ms_01 f t 0
    have h1 := ms_01 f t 1
    show 0 ≤ 0 + ms f t 0 * 1 + ms f t 1 * 2 ∧ 0 + ms f t 0 * 1 + ms f t 1 * 2 < 4
    omega
  | 3, _ => by
    have h0 := ms_01 f t 0
    have h1 := ms_01 f t 1
    have h2 := ms_01 f t 2
    show 0 ≤ 0 + ms f t 0 * 1 + ms f t 1 * 2 + ms f t 2 * 4 ∧ 0 + ms f t 0 * 1 + ms f t 1 * 2 + ms f t 2 * 4 < 8
    omega
  | 4, _ => by
    have h0 := ms_01 f t 0
    have h1 := ms_01 f t 1
    have h2 := ms_01 f t 2
    have h3 := ms_01 f t 3
    show 0 ≤ 0 + ms f t 0 * 1 + ms f t 1 * 2 + ms f t 2 * 4 + ms f t 3 * 8 ∧ 0 + ms f t 0 * 1 + ms f t 1 * 2 + ms f t 2 * 4 + ms f t 3 * 8 < 16
    omega
  | 5, _ => by
    have h0 := ms_01 f t 0
    have h1 := ms_01 f t 1
    have h2 := ms_01 f t 2
    have h3 := ms_01 f t 3
    have h4 := ms_01 f t 4
    show 0 ≤ 0 + ms f t 0 * 1 + ms f t 1 * 2 + ms f t 2 * 4 + ms f t 3 * 8 + ms f t 4 * 16 ∧ 0 + ms f t 0 * 1 + ms f t 1 * 2 + ms f t 2 * 4 + ms f t 3 * 8 + ms f t 4 * 16 < 32
    omega
  | n + 6, h => absurd h (by omega)
theorem fP_6 (f : Int → Int) (t : Int) : fP f t 6 = fmk f t := by
  show 0 + ms f t 0 * 1 + ms f t 1 * 2 + ms f t 2 * 4 + ms f t 3 * 8 + ms f t 4 * 16 + ms f t 5 * 32 = _
  unfold fmk
  omega
theorem fC_6 (f : Int → Int) (t : Int) : fC f t 6 = fnm f t := by
  show 0 + ms f t 0 + ms f t 1 + ms f t 2 + ms f t 3 + ms f t 4 + ms f t 5 = _
  unfold fnm
  omega
theorem opP_0 {f : Int → Int} {t : Int} (ht : 0 ≤ t) (h : f (93 + 9 * t) = 0) : opP f t 0 = f := by
  unfold opP fP fC
  rw [us_self (f := f) (i := 93 + 9 * t) h, Int.mul_zero, Int.add_zero, Int.add_zero, us_self rfl, us_self rfl]
theorem opP_s {f : Int → Int} {t c : Int} (ht : 0 ≤ t) (n : Nat) (hc : c = f 2 * ms f t (n : Int)) : tks (us (opP f t n) (93 + 9 * t) (fP f t (n + 1))) t c 12 = opP f t (n + 1) := by
  have e1 : us (opP f t n) (93 + 9 * t) (fP f t (n + 1)) (91 + 9 * t) = f (91 + 9 * t) + f 2 * fC f t n := by
    unfold opP
    rw [us_n (by omega), us_n (by omega), us_s]
  have e2 : us (opP f t n) (93 + 9 * t) (fP f t (n + 1)) 12 = f 12 + f 2 * fC f t n := by
    unfold opP
    rw [us_n (by omega), us_s]
  unfold tks
  rw [e1, e2]
  have e3 : ∀ x : Int, x + f 2 * fC f t n + c = x + f 2 * fC f t (n + 1) := by
    intro x
    show _ = x + f 2 * (fC f t n + ms f t (n : Int))
    rw [Int.mul_add, hc]
    omega
  rw [e3, e3]
  unfold opP
  rw [us_c (i := 12) (j := 93 + 9 * t) (by omega), us_c (i := 91 + 9 * t) (j := 93 + 9 * t) (by omega), us_us, us_c (i := 12) (j := 91 + 9 * t) (by omega), us_us, us_us]
theorem opP_at {f : Int → Int} {t : Int} {n : Nat} (ht : 0 ≤ t) {j : Int} (h1 : j ≠ 93 + 9 * t) (h2 : j ≠ 91 + 9 * t) (h3 : j ≠ 12) : opP f t n j = f j := by
  unfold opP
  rw [us_n h3, us_n h2, us_n h1]
theorem opP_f {f : Int → Int} {t : Int} {n : Nat} (ht : 0 ≤ t) : opP f t n (93 + 9 * t) = fP f t n := by
  unfold opP
  rw [us_n (by omega), us_n (by omega), us_s]
abbrev C_X7_opens : Ct := (3, false, fun as M => ∃ (o : Nat) (b : Int) (t : Int), as = [wR o, wI b, wI t] ∧ (o = 11 ∧ (0 ≤ b ∧ b ≤ 4634) ∧ (0 ≤ t ∧ t < 64) ∧ Bd (sh b (M 12)) ∧ (sh b (M 12)) (93 + 9 * t) = 0), fun as M x M' => ∀ (o : Nat) (b : Int) (t : Int), as = [wR o, wI b, wI t] → ((mr b M (opn (sh b (M 12)) t)) = M'))
end
section
theorem mul_bd {a b A B : Int} (h1 : 0 ≤ a ∧ a ≤ A) (h2 : 0 ≤ b ∧ b ≤ B) : 0 ≤ a * b ∧ a * b ≤ A * B := ⟨Int.mul_nonneg h1.1 h2.1, Int.mul_le_mul h1.2 h2.2 h2.1 (Int.le_trans h1.1 h1.2)⟩
theorem dw_bd {f : Int → Int} (h : Bd f) {t k : Int} (ht : 0 ≤ t ∧ t < 64) (hk : 0 ≤ k ∧ k < 6) : 0 ≤ dw f t k ∧ dw f t k ≤ 81 := by
  obtain ⟨c0, c1, c2, c3⟩ := h.2.2.2 t ht.1 ht.2
  have a := ds_01 f t k
  have b := df_bd (f := f) (t := t) (k := k) c1.1 c2.1
  have c := h.2.1 k hk.1 hk.2
  exact mul_bd (A := 9) (B := 9) (by have := mul_bd a b; omega) ⟨by omega, c.2⟩
theorem dbt_bd {f : Int → Int} (h : Bd f) {t : Int} (ht : 0 ≤ t ∧ t < 64) : 0 ≤ dbt f t ∧ dbt f t ≤ 500 := by
  obtain ⟨c0, c1, c2, c3⟩ := h.2.2.2 t ht.1 ht.2
  have a := h.2.2.1 _ c0.1 c0.2
  have w0 := dw_bd h ht (k := 0) (by omega)
  have w1 := dw_bd h ht (k := 1) (by omega)
  have w2 := dw_bd h ht (k := 2) (by omega)
  have w3 := dw_bd h ht (k := 3) (by omega)
  have w4 := dw_bd h ht (k := 4) (by omega)
  have w5 := dw_bd h ht (k := 5) (by omega)
  unfold dbt
  split <;> omega
theorem Bd_keep {f g : Int → Int} (h : Bd f) (h1 : ∀ j, 0 ≤ j → j < 6 → g j = f j) (h2 : ∀ j, 15 ≤ j → j < 26 → g j = f j) (h3 : ∀ t, 0 ≤ t → t < 64 → g (86 + 9 * t) = f (86 + 9 * t) ∧ g (87 + 9 * t) = f (87 + 9 * t) ∧ g (88 + 9 * t) = f (88 + 9 * t) ∧ g (89 + 9 * t) = f (89 + 9 * t)) : Bd g := by
  obtain ⟨a, b, c, d⟩ := h
  refine ⟨?_, fun k k0 k1 => ?_, fun k k0 k1 => ?_, fun t t0 t1 => ?_⟩
  · rw [h1 0 (by omega) (by omega), h1 1 (by omega) (by omega), h1 2 (by omega) (by omega), h1 3 (by omega) (by omega), h1 4 (by omega) (by omega), h1 5 (by omega) (by omega)]
    exact a
  · rw [h2 _ (by omega) (by omega)]
    exact b k k0 k1
  · rw [h2 _ (by omega) (by omega)]
    exact c k k0 k1
  · obtain ⟨e0, e1, e2, e3⟩ := h3 t t0 t1
    rw [e0, e1, e2, e3]
    exact d t t0 t1
theorem rmv_o {f : Int → Int} {d p j : Int} (hd : 0 ≤ d ∧ d < 3) (hp : 0 ≤ p) (hm : f (27 + 4 * d) ≤ 16) (h1 : j ≠ 27 + 4 * d) (h2 : j < 38 ∨ 86 ≤ j) : rmv f d p j = f j := by
  unfold rmv
  rw [if_neg h1, if_neg (by omega)]
theorem lkd_o {f : Int → Int} {d j : Int} (h : j ≠ 28 + 4 * d) : lkd f d j = f j := us_n h
theorem rl_o {f : Int → Int} {d j : Int} (hd : 0 ≤ d ∧ d < 3) (hm : f (27 + 4 * d) ≤ 16) (h1 : j ≠ 27 + 4 * d) (h2 : j ≠ 28 + 4 * d) (h3 : j < 38 ∨ 86 ≤ j) : rmv (lkd f d) d 0 j = f j := by
  rw [rmv_o hd (by omega) (by rw [lkd_o (by omega)]; exact hm) h1 h3, lkd_o h2]
theorem rl_Bd {f : Int → Int} {d : Int} (hd : 0 ≤ d ∧ d < 3) (hm : f (27 + 4 * d) ≤ 16) (h : Bd f) : Bd (rmv (lkd f d) d 0) :=
  Bd_keep h (fun j _ _ => rl_o hd hm (by omega) (by omega) (by omega)) (fun j _ _ => rl_o hd hm (by omega) (by omega) (by omega))
    (fun t _ _ => ⟨rl_o hd hm (by omega) (by omega) (by omega), rl_o hd hm (by omega) (by omega) (by omega), rl_o hd hm (by omega) (by omega) (by omega), rl_o hd hm (by omega) (by omega) (by omega)⟩)
abbrev C_X7_looks : Ct := (4, true, fun as M => ∃ (o : Nat) (b : Int) (d : Int) (o0 : Int), as = [wR o, wI b, wI d, wI o0] ∧ (o = 11 ∧ (0 ≤ b ∧ b ≤ 4634) ∧ (0 ≤ d ∧ d < 3) ∧ Bd (sh b (M 12)) ∧ (1 ≤ (sh b (M 12)) (27 + 4 * d) ∧ (sh b (M 12)) (27 + 4 * d) ≤ 16) ∧ (0 ≤ (sh b (M 12)) (38 + 16 * d) ∧ (sh b (M 12)) (38 + 16 * d) < 64) ∧ (d < 2 → 0 ≤ (sh b (M 12)) (31 + 4 * d) ∧ (sh b (M 12)) (31 + 4 * d) < 16) ∧ (sh b (M 12)) (93 + 9 * (sh b (M 12)) (38 + 16 * d)) = 0 ∧ (0 ≤ (sh b (M 12)) 9 ∧ (sh b (M 12)) 9 ≤ 64) ∧ 0 ≤ o0 ∧ o0 ≤ 64), fun as M x M' => ∀ (o : Nat) (b : Int) (d : Int) (o0 : Int), as = [wR o, wI b, wI d, wI o0] → (if lkS (sh b (M 12)) d o0 then 0 = x ∧ mr b M (lkd (sh b (M 12)) d) = M' else 1 = x ∧ mr b M (lkg (sh b (M 12)) d) = M'))
end
section
/-! WHAT ALWAYS HOLDS of a row -/
def cF (f : Int → Int) (w : Int) : Nat → Int
  | 0 => 0
  | n + 1 => cF f w n + bt_ (f (90 + 9 * (n : Int)) = w) 1
def cU (f : Int → Int) : Nat → Int
  | 0 => 0
  | n + 1 => cU f n + bt_ (f (90 + 9 * (n : Int)) = 2 ∧ f (93 + 9 * (n : Int)) = 0) 1
def Qv (f : Int → Int) (d p : Int) : Prop := 0 ≤ d ∧ d < 3 ∧ 0 ≤ p ∧ p < f (27 + 4 * d)
def Inv (f : Int → Int) : Prop :=
  Bd f ∧ (0 ≤ f 6 ∧ 0 ≤ f 7 ∧ f 7 ≤ 64) ∧ (∀ d, 0 ≤ d → d < 3 → 0 ≤ f (26 + 4 * d) ∧ f (26 + 4 * d) ≤ 3 ∧ 0 ≤ f (27 + 4 * d)) ∧ f 27 + f 31 + f 35 ≤ 16 ∧
  (∀ d p, Qv f d p → 0 ≤ f (38 + 16 * d + p) ∧ f (38 + 16 * d + p) < f 7 ∧ f (90 + 9 * f (38 + 16 * d + p)) = 0) ∧
  (∀ d p d' p', Qv f d p → Qv f d' p' → f (38 + 16 * d + p) = f (38 + 16 * d' + p') → d = d' ∧ p = p') ∧
  (∀ t, 0 ≤ t → t < f 7 → (0 ≤ f (90 + 9 * t) ∧ f (90 + 9 * t) ≤ 3) ∧ (0 ≤ f (93 + 9 * t) ∧ f (93 + 9 * t) < 64) ∧ (f (90 + 9 * t) = 0 → f (93 + 9 * t) = 0 ∧ ∃ d p, Qv f d p ∧ f (38 + 16 * d + p) = t)) ∧
  f 8 = cF f 1 (f 7).toNat ∧ f 9 = cF f 2 (f 7).toNat ∧ f 10 = cF f 3 (f 7).toNat ∧ f 14 = cU f (f 7).toNat
theorem cF_bd (f : Int → Int) (w : Int) : ∀ n : Nat, 0 ≤ cF f w n ∧ cF f w n ≤ n
  | 0 => by show 0 ≤ (0 : Int) ∧ (0 : Int) ≤ 0; omega
  | n + 1 => by
    have := cF_bd f w n
    have h := bt_01 (f (90 + 9 * (n : Int)) = w)
    show 0 ≤ cF f w n + _ ∧ cF f w n + _ ≤ ((n + 1 : Nat) : Int)
    omega
theorem cF_same {f g : Int → Int} {w : Int} : ∀ n : Nat, (∀ t : Int, 0 ≤ t → t < n → g (90 + 9 * t) = f (90 + 9 * t)) → cF g w n = cF f w n
  | 0, _ => rfl
  | n + 1, h => by
    show cF g w n + _ = cF f w n + _
    rw [cF_same n (fun t h1 h2 => h t h1 (by omega)), h n (by omega) (by omega)]
theorem cU_same {f g : Int → Int} : ∀ n : Nat, (∀ t : Int, 0 ≤ t → t < n → g (90 + 9 * t) = f (90 + 9 * t) ∧ g (93 + 9 * t) = f (93 + 9 * t)) → cU g n = cU f n
  | 0, _ => rfl
  | n + 1, h => by
    show cU g n + _ = cU f n + _
    rw [cU_same n (fun t h1 h2 => h t h1 (by omega)), (h n (by omega) (by omega)).1, (h n (by omega) (by omega)).2]
theorem cF_up {f g : Int → Int} {w v t0 : Int} (hv : v ≠ 0) (h0 : f (90 + 9 * t0) = 0) (ht : 0 ≤ t0) : ∀ n : Nat, (∀ t : Int, 0 ≤ t → t < n → g (90 + 9 * t) = if t = t0 then w else f (90 + 9 * t)) → cF g v n = cF f v n + bt_ (t0 < n) (bt_ (w = v) 1)
  | 0, _ => by
    show (0 : Int) = 0 + _
    rw [bt_f (by omega)]
    rfl
  | n + 1, h => by
    show cF g v n + _ = cF f v n + _ + _
    rw [cF_up hv h0 ht n (fun t h1 h2 => h t h1 (by omega)), h n (by omega) (by omega)]
    by_cases e : (n : Int) = t0
    · rw [if_pos e, e, h0, bt_f (show ¬ (t0 < t0) by omega), bt_t (show t0 < ((n + 1 : Nat) : Int) by omega), bt_f (show ¬ ((0 : Int) = v) by omega)]
    · rw [if_neg e]
      by_cases e2 : t0 < n
      · rw [bt_t e2, bt_t (show t0 < ((n + 1 : Nat) : Int) by omega)]
        omega
      · rw [bt_f e2, bt_f (show ¬ t0 < ((n + 1 : Nat) : Int) by omega)]
        omega
theorem cU_up {f g : Int → Int} {w m t0 : Int} (h0 : f (90 + 9 * t0) = 0) (ht : 0 ≤ t0) : ∀ n : Nat, (∀ t : Int, 0 ≤ t → t < n → g (90 + 9 * t) = (if t = t0 then w else f (90 + 9 * t)) ∧ g (93 + 9 * t) = if t = t0 then m else f (93 + 9 * t)) → cU g n = cU f n + bt_ (t0 < n) (bt_ (w = 2 ∧ m = 0) 1)
  | 0, _ => by
    show (0 : Int) = 0 + _
    rw [bt_f (by omega)]
    rfl
  | n + 1, h => by
    show cU g n + _ = cU f n + _ + _
    rw [cU_up h0 ht n (fun t h1 h2 => h t h1 (by omega)), (h n (by omega) (by omega)).1, (h n (by omega) (by omega)).2]
    by_cases e : (n : Int) = t0
    · rw [if_pos e, if_pos e, e, h0, bt_f (show ¬ (t0 < t0) by omega), bt_t (show t0 < ((n + 1 : Nat) : Int) by omega), bt_f (show ¬ ((0 : Int) = 2 ∧ _) by omega)]
    · rw [if_neg e, if_neg e]
      by_cases e2 : t0 < n
      · rw [bt_t e2, bt_t (show t0 < ((n + 1 : Nat) : Int) by omega)]
        omega
      · rw [bt_f e2, bt_f (show ¬ t0 < ((n + 1 : Nat) : Int) by omega)]
        omega
theorem Inv_same {f g : Int → Int} (I : Inv f) (h6 : 0 ≤ g 6) (h1 : ∀ j, 0 ≤ j → j ≤ 10 → j ≠ 6 → g j = f j) (h2 : ∀ j, 14 ≤ j → j < 26 → g j = f j) (h3 : ∀ e, 0 ≤ e → e < 3 → g (26 + 4 * e) = f (26 + 4 * e) ∧ g (27 + 4 * e) = f (27 + 4 * e)) (h4 : ∀ j, 38 ≤ j → j < 86 → g j = f j)
    (h5 : ∀ t, 0 ≤ t → t < 64 → g (86 + 9 * t) = f (86 + 9 * t) ∧ g (87 + 9 * t) = f (87 + 9 * t) ∧ g (88 + 9 * t) = f (88 + 9 * t) ∧ g (89 + 9 * t) = f (89 + 9 * t) ∧ g (90 + 9 * t) = f (90 + 9 * t) ∧ g (93 + 9 * t) = f (93 + 9 * t)) : Inv g := by
  obtain ⟨iB, i7, iC, i16, iD, iE, iF, g8, g9, g10, g14⟩ := I
  have e7 := h1 7 (by omega) (by omega) (by omega)
  have l0 := (h3 0 (by omega) (by omega)).2
  have l1 := (h3 1 (by omega) (by omega)).2
  have l2 := (h3 2 (by omega) (by omega)).2
  have c0 := (iC 0 (by omega) (by omega)).2.2
  have c1 := (iC 1 (by omega) (by omega)).2.2
  have c2 := (iC 2 (by omega) (by omega)).2.2
  have m0 : f (27 + 4 * 0) = f 27 := rfl
  have m1 : f (27 + 4 * 1) = f 31 := rfl
  have m2 : f (27 + 4 * 2) = f 35 := rfl
  have n0 : g (27 + 4 * 0) = g 27 := rfl
  have n1 : g (27 + 4 * 1) = g 31 := rfl
  have n2 : g (27 + 4 * 2) = g 35 := rfl
  have hle : ∀ d, 0 ≤ d → d < 3 → f (27 + 4 * d) ≤ 16 := by
    intro d d0 d1
    have : d = 0 ∨ d = 1 ∨ d = 2 := by omega
    rcases this with rfl | rfl | rfl <;> omega
  have qv : ∀ d p, Qv g d p → Qv f d p := fun d p ⟨a, b, c, e⟩ => ⟨a, b, c, by rw [← (h3 d a b).2]; exact e⟩
  have qe : ∀ d p, Qv g d p → g (38 + 16 * d + p) = f (38 + 16 * d + p) := fun d p q => by
    have := hle d q.1 q.2.1
    obtain ⟨a, b, c, e⟩ := qv d p q
    exact h4 _ (by omega) (by omega)
  refine ⟨?_, ⟨h6, by omega, by omega⟩, fun d a b => ?_, by omega, fun d p q => ?_, fun d p d' p' q q' he => ?_, fun t a b => ?_, ?_, ?_, ?_, ?_⟩
  · exact Bd_keep iB (fun j a b => by
      by_cases e : j = 6
      · omega
      · exact h1 j a (by omega) e) (fun j a b => h2 j (by omega) b) (fun t a b => ⟨(h5 t a b).1, (h5 t a b).2.1, (h5 t a b).2.2.1, (h5 t a b).2.2.2.1⟩)
  · rw [(h3 d a b).1, (h3 d a b).2]
    exact iC d a b
  · obtain ⟨r1, r2, r3⟩ := iD d p (qv d p q)
    rw [qe d p q, (h5 _ r1 (by omega)).2.2.2.2.1, e7]
    exact ⟨r1, r2, r3⟩
  · rw [qe d p q, qe d' p' q'] at he
    exact iE d p d' p' (qv d p q) (qv d' p' q') he
  · rw [e7] at b
    obtain ⟨k0, k1, k2, k3, k4, k5⟩ := h5 t a (by omega)
    rw [k4, k5]
    obtain ⟨r1, r2, r3⟩ := iF t a b
    refine ⟨r1, r2, fun z => ⟨(r3 z).1, ?_⟩⟩
    obtain ⟨d, p, q, e⟩ := (r3 z).2
    have q' : Qv g d p := ⟨q.1, q.2.1, q.2.2.1, by rw [(h3 d q.1 q.2.1).2]; exact q.2.2.2⟩
    exact ⟨d, p, q', by rw [qe d p q']; exact e⟩
  · rw [h1 8 (by omega) (by omega) (by omega), e7, g8]
    exact (cF_same _ (fun t a b => (h5 t a (by omega)).2.2.2.2.1)).symm
  · rw [h1 9 (by omega) (by omega) (by omega), e7, g9]
    exact (cF_same _ (fun t a b => (h5 t a (by omega)).2.2.2.2.1)).symm
  · rw [h1 10 (by omega) (by omega) (by omega), e7, g10]
    exact (cF_same _ (fun t a b => (h5 t a (by omega)).2.2.2.2.1)).symm
  · rw [h2 14 (by omega) (by omega), e7, g14]
    exact (cU_same _ (fun t a b => ⟨(h5 t a (by omega)).2.2.2.2.1, (h5 t a (by omega)).2.2.2.2.2⟩)).symm
theorem Inv.le {f : Int → Int} (I : Inv f) {d : Int} (h0 : 0 ≤ d) (h1 : d < 3) : 0 ≤ f (27 + 4 * d) ∧ f (27 + 4 * d) ≤ 16 := by
  obtain ⟨iB, i7, iC, i16, -⟩ := I
  have c0 := (iC 0 (by omega) (by omega)).2.2
  have c1 := (iC 1 (by omega) (by omega)).2.2
  have c2 := (iC 2 (by omega) (by omega)).2.2
  have m0 : f (27 + 4 * 0) = f 27 := rfl
  have m1 : f (27 + 4 * 1) = f 31 := rfl
  have m2 : f (27 + 4 * 2) = f 35 := rfl
  have : d = 0 ∨ d = 1 ∨ d = 2 := by omega
  rcases this with rfl | rfl | rfl <;> omega
/-- the first trunk of the desk d leaves it, and passes -/
theorem Inv_pass {f g : Int → Int} {d w m : Int} (I : Inv f) (hd : 0 ≤ d ∧ d < 3) (hn : 1 ≤ f (27 + 4 * d)) (hw : 1 ≤ w ∧ w ≤ 3) (hm : 0 ≤ m ∧ m < 64) (p0 : Int) (hp0 : 0 ≤ p0 ∧ p0 < f (27 + 4 * d)) (hB : Bd g) (h6 : g 6 = f 6) (h7 : g 7 = f 7)
    (hh : ∀ e, 0 ≤ e → e < 3 → g (26 + 4 * e) = f (26 + 4 * e)) (hl : ∀ e, 0 ≤ e → e < 3 → g (27 + 4 * e) = f (27 + 4 * e) - bt_ (e = d) 1)
    (hq : ∀ e p, 0 ≤ e → e < 3 → 0 ≤ p → p < f (27 + 4 * e) - bt_ (e = d) 1 → g (38 + 16 * e + p) = f (38 + 16 * e + p + bt_ (e = d ∧ p0 ≤ p) 1))
    (hf : ∀ t, 0 ≤ t → t < 64 → g (90 + 9 * t) = if t = f (38 + 16 * d + p0) then w else f (90 + 9 * t)) (hx : ∀ t, 0 ≤ t → t < 64 → g (93 + 9 * t) = if t = f (38 + 16 * d + p0) then m else f (93 + 9 * t))
    (h8 : g 8 = f 8 + bt_ (w = 1) 1) (h9 : g 9 = f 9 + bt_ (w = 2) 1) (h10 : g 10 = f 10 + bt_ (w = 3) 1) (h14 : g 14 = f 14 + bt_ (w = 2 ∧ m = 0) 1) : Inv g := by
  have hle := fun e a b => I.le (d := e) a b
  obtain ⟨iB, i7, iC, i16, iD, iE, iF, g8, g9, g10, g14⟩ := I
  have q0 : Qv f d p0 := ⟨hd.1, hd.2, hp0.1, hp0.2⟩
  obtain ⟨t0, ht0⟩ : ∃ t0, t0 = f (38 + 16 * d + p0) := ⟨_, rfl⟩
  have d0 := iD d p0 q0
  rw [← ht0] at d0 hf hx
  have b01 := fun e => bt_01 (e = d)
  have l0 := hl 0 (by omega) (by omega)
  have l1 := hl 1 (by omega) (by omega)
  have l2 := hl 2 (by omega) (by omega)
  have m0 : f (27 + 4 * 0) = f 27 := rfl
  have m1 : f (27 + 4 * 1) = f 31 := rfl
  have m2 : f (27 + 4 * 2) = f 35 := rfl
  have n0 : g (27 + 4 * 0) = g 27 := rfl
  have n1 : g (27 + 4 * 1) = g 31 := rfl
  have n2 : g (27 + 4 * 2) = g 35 := rfl
  have x0 := b01 0
  have x1 := b01 1
  have x2 := b01 2
  have qv : ∀ e p, Qv g e p → Qv f e (p + bt_ (e = d ∧ p0 ≤ p) 1) ∧ g (38 + 16 * e + p) = f (38 + 16 * e + (p + bt_ (e = d ∧ p0 ≤ p) 1)) ∧ ¬ (e = d ∧ p + bt_ (e = d ∧ p0 ≤ p) 1 = p0) := by
    intro e p ⟨a, b, c, z⟩
    rw [hl e a b] at z
    have hq := hq e p a b c z
    by_cases h1 : e = d
    · rw [bt_t h1] at z
      by_cases h2 : p0 ≤ p
      · rw [bt_t ⟨h1, h2⟩] at hq ⊢
        exact ⟨⟨a, b, by omega, by omega⟩, by rw [hq]; congr 1; omega, by omega⟩
      · rw [bt_f (fun z => h2 z.2)] at hq ⊢
        exact ⟨⟨a, b, by omega, by omega⟩, by rw [hq]; congr 1; omega, by omega⟩
    · rw [bt_f h1] at z
      rw [bt_f (fun z => h1 z.1)] at hq ⊢
      exact ⟨⟨a, b, by omega, by omega⟩, by rw [hq]; congr 1; omega, fun z => h1 z.1⟩
  refine ⟨hB, ⟨by omega, by omega, by omega⟩, fun e a b => ?_, by omega, fun e p q => ?_, fun e p e' p' q q' he => ?_, fun t a b => ?_, ?_, ?_, ?_, ?_⟩
  · rw [hh e a b, hl e a b]
    have z := iC e a b
    have y := b01 e
    refine ⟨z.1, z.2.1, ?_⟩
    by_cases h1 : e = d
    · subst h1
      rw [bt_t rfl]
      omega
    · rw [bt_f h1]
      omega
  · obtain ⟨r1, r2, r3⟩ := qv e p q
    obtain ⟨s1, s2, s3⟩ := iD _ _ r1
    rw [r2, h7]
    have ne : f (38 + 16 * e + (p + bt_ (e = d ∧ p0 ≤ p) 1)) ≠ t0 := by
      intro z
      rw [ht0] at z
      have := iE _ _ _ _ r1 q0 z
      exact r3 this
    rw [hf _ s1 (by omega), if_neg ne]
    exact ⟨s1, s2, s3⟩
  · obtain ⟨r1, r2, r3⟩ := qv e p q
    obtain ⟨r1', r2', r3'⟩ := qv e' p' q'
    rw [r2, r2'] at he
    obtain ⟨u1, u2⟩ := iE _ _ _ _ r1 r1' he
    subst u1
    refine ⟨rfl, ?_⟩
    by_cases h1 : e = d
    · by_cases h2 : p0 ≤ p
      · by_cases h3 : p0 ≤ p'
        · rw [bt_t ⟨h1, h2⟩, bt_t ⟨h1, h3⟩] at u2
          omega
        · rw [bt_t ⟨h1, h2⟩, bt_f (fun z => h3 z.2)] at u2
          omega
      · by_cases h3 : p0 ≤ p'
        · rw [bt_f (fun z => h2 z.2), bt_t ⟨h1, h3⟩] at u2
          omega
        · rw [bt_f (fun z => h2 z.2), bt_f (fun z => h3 z.2)] at u2
          omega
    · rw [bt_f (fun z => h1 z.1), bt_f (fun z => h1 z.1)] at u2
      omega
  · rw [h7] at b
    rw [hf t a (by omega), hx t a (by omega)]
    obtain ⟨r1, r2, r3⟩ := iF t a b
    by_cases e : t = t0
    · rw [if_pos e, if_pos e]
      exact ⟨by omega, hm, fun z => by omega⟩
    · rw [if_neg e, if_neg e]
      refine ⟨r1, r2, fun z => ⟨(r3 z).1, ?_⟩⟩
      obtain ⟨e1, p, ⟨a1, a2, a3, a4⟩, z2⟩ := (r3 z).2
      by_cases h1 : e1 = d
      · subst h1
        have hne : p ≠ p0 := by
          intro y
          subst y
          exact e (z2.symm.trans ht0.symm)
        by_cases h2 : p < p0
        · refine ⟨e1, p, ⟨a1, a2, a3, by rw [hl _ a1 a2, bt_t rfl]; omega⟩, ?_⟩
          rw [hq e1 p a1 a2 a3 (by rw [bt_t rfl]; omega), bt_f (by omega)]
          rw [← z2]
          congr 1
          omega
        · refine ⟨e1, p - 1, ⟨a1, a2, by omega, by rw [hl _ a1 a2, bt_t rfl]; omega⟩, ?_⟩
          rw [hq e1 (p - 1) a1 a2 (by omega) (by rw [bt_t rfl]; omega), bt_t ⟨rfl, by omega⟩]
          rw [← z2]
          congr 1
          omega
      · refine ⟨e1, p, ⟨a1, a2, a3, by rw [hl _ a1 a2, bt_f h1]; omega⟩, ?_⟩
        rw [hq e1 p a1 a2 a3 (by rw [bt_f h1]; omega), bt_f (fun z => h1 z.1)]
        rw [← z2]
        congr 1
        omega
  · rw [h8, h7, g8, cF_up (f := f) (g := g) (by omega) d0.2.2 d0.1 _ (fun t a b => hf t a (by omega)), bt_t (show t0 < ((f 7).toNat : Int) by omega)]
  · rw [h9, h7, g9, cF_up (f := f) (g := g) (by omega) d0.2.2 d0.1 _ (fun t a b => hf t a (by omega)), bt_t (show t0 < ((f 7).toNat : Int) by omega)]
  · rw [h10, h7, g10, cF_up (f := f) (g := g) (by omega) d0.2.2 d0.1 _ (fun t a b => hf t a (by omega)), bt_t (show t0 < ((f 7).toNat : Int) by omega)]
  · rw [h14, h7, g14, cU_up (f := f) (g := g) d0.2.2 d0.1 _ (fun t a b => ⟨hf t a (by omega), hx t a (by omega)⟩), bt_t (show t0 < ((f 7).toNat : Int) by omega)]
/-- the first trunk of the desk d goes to the end of the next one -/
theorem Inv_join {f g : Int → Int} {d : Int} (I : Inv f) (hd : 0 ≤ d ∧ d < 2) (hn : 1 ≤ f (27 + 4 * d)) (hB : Bd g) (h6 : g 6 = f 6) (h7 : g 7 = f 7)
    (hh : ∀ e, 0 ≤ e → e < 3 → g (26 + 4 * e) = f (26 + 4 * e)) (hl : ∀ e, 0 ≤ e → e < 3 → g (27 + 4 * e) = f (27 + 4 * e) - bt_ (e = d) 1 + bt_ (e = d + 1) 1)
    (hq : ∀ e p, 0 ≤ e → e < 3 → 0 ≤ p → p < f (27 + 4 * e) - bt_ (e = d) 1 → g (38 + 16 * e + p) = f (38 + 16 * e + p + bt_ (e = d) 1)) (hz : g (38 + 16 * (d + 1) + f (27 + 4 * (d + 1))) = f (38 + 16 * d))
    (hf : ∀ t, 0 ≤ t → t < 64 → g (90 + 9 * t) = f (90 + 9 * t)) (hx : ∀ t, 0 ≤ t → t < 64 → g (93 + 9 * t) = f (93 + 9 * t))
    (h8 : g 8 = f 8) (h9 : g 9 = f 9) (h10 : g 10 = f 10) (h14 : g 14 = f 14) : Inv g := by
  have hle := fun e a b => I.le (d := e) a b
  obtain ⟨iB, i7, iC, i16, iD, iE, iF, g8, g9, g10, g14⟩ := I
  have q0 : Qv f d 0 := ⟨hd.1, by omega, by omega, by omega⟩
  have d0 := iD d 0 q0
  rw [Int.add_zero] at d0
  have l0 := hl 0 (by omega) (by omega)
  have l1 := hl 1 (by omega) (by omega)
  have l2 := hl 2 (by omega) (by omega)
  have m0 : f (27 + 4 * 0) = f 27 := rfl
  have m1 : f (27 + 4 * 1) = f 31 := rfl
  have m2 : f (27 + 4 * 2) = f 35 := rfl
  have n0 : g (27 + 4 * 0) = g 27 := rfl
  have n1 : g (27 + 4 * 1) = g 31 := rfl
  have n2 : g (27 + 4 * 2) = g 35 := rfl
  have hsum : g 27 + g 31 + g 35 = f 27 + f 31 + f 35 := by
    have : d = 0 ∨ d = 1 := by omega
    rcases this with rfl | rfl
    · rw [bt_t (show (0 : Int) = 0 from rfl), bt_f (show ¬ ((0 : Int) = 0 + 1) by omega)] at l0
      rw [bt_f (show ¬ ((1 : Int) = 0) by omega), bt_t (show (1 : Int) = 0 + 1 from rfl)] at l1
      rw [bt_f (show ¬ ((2 : Int) = 0) by omega), bt_f (show ¬ ((2 : Int) = 0 + 1) by omega)] at l2
      omega
    · rw [bt_f (show ¬ (0 : Int) = 1 by omega), bt_f (show ¬ ((0 : Int) = 1 + 1) by omega)] at l0
      rw [bt_t (show ((1 : Int) = 1) from rfl), bt_f (show ¬ (1 : Int) = 1 + 1 by omega)] at l1
      rw [bt_f (show ¬ ((2 : Int) = 1) by omega), bt_t (show ((2 : Int) = 1 + 1) from rfl)] at l2
      omega
  -- a place of g is one of f, or the new one
  have qv : ∀ e p, Qv g e p → (Qv f e (p + bt_ (e = d) 1) ∧ g (38 + 16 * e + p) = f (38 + 16 * e + (p + bt_ (e = d) 1)) ∧ ¬ (e = d ∧ p + bt_ (e = d) 1 = 0)) ∨ (e = d + 1 ∧ p = f (27 + 4 * (d + 1)) ∧ g (38 + 16 * e + p) = f (38 + 16 * d)) := by
    intro e p ⟨a, b, c, z⟩
    rw [hl e a b] at z
    by_cases h1 : e = d
    · rw [bt_t h1, bt_f (by omega)] at z
      have hq := hq e p a b c (by rw [bt_t h1]; omega)
      rw [bt_t h1] at hq ⊢
      exact Or.inl ⟨⟨a, b, by omega, by omega⟩, by rw [hq]; congr 1; omega, by omega⟩
    · rw [bt_f h1] at z ⊢
      by_cases h2 : e = d + 1
      · subst h2
        rw [bt_t rfl] at z
        by_cases h3 : p = f (27 + 4 * (d + 1))
        · subst h3
          exact Or.inr ⟨rfl, rfl, hz⟩
        · have hq := hq (d + 1) p a b c (by rw [bt_f h1]; omega)
          rw [bt_f h1] at hq
          exact Or.inl ⟨⟨a, b, by omega, by omega⟩, by rw [hq]; congr 1; omega, fun z => h1 z.1⟩
      · rw [bt_f h2] at z
        have hq := hq e p a b c (by rw [bt_f h1]; omega)
        rw [bt_f h1] at hq
        exact Or.inl ⟨⟨a, b, by omega, by omega⟩, by rw [hq]; congr 1; omega, fun z => h1 z.1⟩
  refine ⟨hB, ⟨by omega, by omega, by omega⟩, fun e a b => ?_, by omega, fun e p q => ?_, fun e p e' p' q q' he => ?_, fun t a b => ?_, ?_, ?_, ?_, ?_⟩
  · rw [hh e a b, hl e a b]
    have z := iC e a b
    have y := bt_01 (e = d + 1)
    refine ⟨z.1, z.2.1, ?_⟩
    by_cases h1 : e = d
    · subst h1
      rw [bt_t (show e = e from rfl)]
      omega
    · rw [bt_f h1]
      omega
  · rcases qv e p q with ⟨r1, r2, r3⟩ | ⟨r1, r2, r3⟩
    · obtain ⟨s1, s2, s3⟩ := iD _ _ r1
      rw [r2, h7, hf _ s1 (by omega)]
      exact ⟨s1, s2, s3⟩
    · rw [r3, h7, hf _ d0.1 (by omega)]
      exact d0
  · rcases qv e p q with ⟨r1, r2, r3⟩ | ⟨r1, r2, r3⟩ <;> rcases qv e' p' q' with ⟨s1, s2, s3⟩ | ⟨s1, s2, s3⟩
    · rw [r2, s2] at he
      obtain ⟨u1, u2⟩ := iE _ _ _ _ r1 s1 he
      subst u1
      exact ⟨rfl, by omega⟩
    · rw [r2, s3] at he
      have := iE _ _ _ _ r1 q0 (by rw [he, Int.add_zero])
      exact absurd this r3
    · rw [r3, s2] at he
      have := iE _ _ _ _ s1 q0 (by rw [← he, Int.add_zero])
      exact absurd this s3
    · exact ⟨by omega, by omega⟩
  · rw [h7] at b
    rw [hf t a (by omega), hx t a (by omega)]
    obtain ⟨r1, r2, r3⟩ := iF t a b
    refine ⟨r1, r2, fun z => ⟨(r3 z).1, ?_⟩⟩
    obtain ⟨e1, p, ⟨a1, a2, a3, a4⟩, z2⟩ := (r3 z).2
    by_cases h1 : e1 = d
    · subst h1
      by_cases h2 : p = 0
      · subst h2
        refine ⟨e1 + 1, f (27 + 4 * (e1 + 1)), ⟨by omega, by omega, (hle _ (by omega) (by omega)).1, ?_⟩, ?_⟩
        · rw [hl _ (by omega) (by omega), bt_f (by omega), bt_t rfl]
          omega
        · rw [hz, ← z2, Int.add_zero]
      · refine ⟨e1, p - 1, ⟨a1, a2, by omega, ?_⟩, ?_⟩
        · rw [hl _ a1 a2, bt_t rfl, bt_f (by omega)]
          omega
        · rw [hq e1 (p - 1) a1 a2 (by omega) (by rw [bt_t rfl]; omega), bt_t rfl, ← z2]
          congr 1
          omega
    · have y := bt_01 (e1 = d + 1)
      refine ⟨e1, p, ⟨a1, a2, a3, ?_⟩, ?_⟩
      · rw [hl _ a1 a2, bt_f h1]
        omega
      · rw [hq e1 p a1 a2 a3 (by rw [bt_f h1]; omega), bt_f h1, ← z2]
        congr 1
        omega
  · rw [h8, h7, g8]
    exact (cF_same _ (fun t a b => hf t a (by omega))).symm
  · rw [h9, h7, g9]
    exact (cF_same _ (fun t a b => hf t a (by omega))).symm
  · rw [h10, h7, g10]
    exact (cF_same _ (fun t a b => hf t a (by omega))).symm
  · rw [h14, h7, g14]
    exact (cU_same _ (fun t a b => ⟨hf t a (by omega), hx t a (by omega)⟩)).symm
theorem rmv_q {f : Int → Int} {d e p p0 : Int} (hd : 0 ≤ d ∧ d < 3) (he : 0 ≤ e ∧ e < 3) (hp : 0 ≤ p) (h0 : 0 ≤ p0) (hm : ∀ e, 0 ≤ e → e < 3 → 0 ≤ f (27 + 4 * e) ∧ f (27 + 4 * e) ≤ 16) (h : p < f (27 + 4 * e) - bt_ (e = d) 1) : rmv f d p0 (38 + 16 * e + p) = f (38 + 16 * e + p + bt_ (e = d ∧ p0 ≤ p) 1) := by
  have m := hm e he.1 he.2
  have m2 := hm d hd.1 hd.2
  unfold rmv
  rw [if_neg (by omega)]
  by_cases h1 : e = d
  · subst h1
    rw [bt_t rfl] at h
    by_cases h2 : p0 ≤ p
    · rw [if_pos (by omega), bt_t ⟨rfl, h2⟩]
    · rw [if_neg (by omega), bt_f (fun z => h2 z.2), Int.add_zero]
  · rw [bt_f h1] at h
    rw [if_neg (by omega), bt_f (fun z => h1 z.1), Int.add_zero]
theorem rmv_l {f : Int → Int} {d e p0 : Int} (hd : 0 ≤ d ∧ d < 3) (he : 0 ≤ e ∧ e < 3) (h0 : 0 ≤ p0) : rmv f d p0 (27 + 4 * e) = f (27 + 4 * e) - bt_ (e = d) 1 := by
  unfold rmv
  by_cases h1 : e = d
  · subst h1
    rw [if_pos rfl, bt_t rfl]
  · rw [if_neg (by omega), if_neg (by omega), bt_f h1]
    omega
theorem lkd_Inv {f : Int → Int} {d : Int} (hd : 0 ≤ d ∧ d < 3) (I : Inv f) : Inv (lkd f d) := by
  have o : ∀ j, j ≠ 28 + 4 * d → lkd f d j = f j := fun j h => lkd_o h
  refine Inv_same I (by rw [o 6 (by omega)]; exact I.2.1.1) (fun j _ _ _ => o j (by omega)) (fun j _ _ => o j (by omega)) (fun e _ _ => ⟨o _ (by omega), o _ (by omega)⟩) (fun j _ _ => o j (by omega)) (fun t _ _ => ⟨o _ (by omega), o _ (by omega), o _ (by omega), o _ (by omega), o _ (by omega), o _ (by omega)⟩)
theorem tks_o {f : Int → Int} {t c w j : Int} (h1 : j ≠ 91 + 9 * t) (h2 : j ≠ w) : tks f t c w j = f j := by
  unfold tks
  rw [us_n h2, us_n h1]
theorem tks_Inv {f : Int → Int} {t c w : Int} (ht : 0 ≤ t) (hw : 11 ≤ w ∧ w ≤ 13) (I : Inv f) : Inv (tks f t c w) := by
  have o : ∀ j, j ≠ 91 + 9 * t → j ≠ w → tks f t c w j = f j := fun j h1 h2 => tks_o h1 h2
  refine Inv_same I (by rw [o 6 (by omega) (by omega)]; exact I.2.1.1) (fun j _ _ _ => o j (by omega) (by omega)) (fun j _ _ => o j (by omega) (by omega)) (fun e _ _ => ⟨o _ (by omega) (by omega), o _ (by omega) (by omega)⟩) (fun j _ _ => o j (by omega) (by omega)) (fun t _ _ => ⟨o _ (by omega) (by omega), o _ (by omega) (by omega), o _ (by omega) (by omega), o _ (by omega) (by omega), o _ (by omega) (by omega), o _ (by omega) (by omega)⟩)
theorem pss_o {f : Int → Int} {d t w j : Int} (h1 : j ≠ 90 + 9 * t) (h2 : j ≠ 29 + 4 * d) (h3 : j ≠ 8) (h4 : j ≠ 9) : pss f d t w j = f j := by
  unfold pss
  rw [us_n (by split <;> assumption), us_n h2, us_n h1]
theorem pss_f {f : Int → Int} {d t w s : Int} (hs : 0 ≤ s) (hd : 0 ≤ d ∧ d < 3) : pss f d t w (90 + 9 * s) = if s = t then w else f (90 + 9 * s) := by
  unfold pss
  rw [us_n (by split <;> omega), us_n (by omega)]
  by_cases h : s = t
  · subst h
    rw [us_s, if_pos rfl]
  · rw [us_n (by omega), if_neg h]
theorem pss_8 {f : Int → Int} {d t w : Int} (ht : 0 ≤ t) (hd : 0 ≤ d ∧ d < 3) (hw : w = 1 ∨ w = 2) : pss f d t w 8 = f 8 + bt_ (w = 1) 1 ∧ pss f d t w 9 = f 9 + bt_ (w = 2) 1 := by
  unfold pss
  rcases hw with rfl | rfl
  · rw [if_pos rfl, bt_t rfl, bt_f (by omega), us_s, us_n (by omega), us_n (by omega), us_n (by omega)]
    exact ⟨rfl, by omega⟩
  · rw [if_neg (by omega), bt_t rfl, bt_f (by omega), us_s, us_n (by omega), us_n (by omega), us_n (by omega)]
    exact ⟨by omega, rfl⟩
/-- what a hand of a desk leaves -/
theorem lkg_Inv {f : Int → Int} {d o : Int} (hd : 0 ≤ d ∧ d < 3) (hn : 1 ≤ f (27 + 4 * d)) (I : Inv f) (hS : ¬ lkS f d o) : Inv (lkg f d) := by
  have hle := fun e a b => I.le (d := e) a b
  have m16 := (hle d hd.1 hd.2).2
  obtain ⟨iB, i7, iC, i16, iD, -⟩ := id I
  have q0 := iD d 0 ⟨hd.1, hd.2, by omega, by omega⟩
  rw [Int.add_zero] at q0
  obtain ⟨q, hq⟩ : ∃ q, q = f (38 + 16 * d) := ⟨_, rfl⟩
  have hz : f (38 + 16 * d + 0) = q := by rw [Int.add_zero, hq]
  rw [← hq] at q0
  have ro : ∀ j, j ≠ 27 + 4 * d → j ≠ 28 + 4 * d → (j < 38 ∨ 86 ≤ j) → rmv (lkd f d) d 0 j = f j := fun j a b c => rl_o hd m16 a b c
  have lo : ∀ j, j ≠ 28 + 4 * d → lkd f d j = f j := fun j h => lkd_o h
  have rB := rl_Bd hd m16 iB
  have rl : ∀ e, 0 ≤ e → e < 3 → rmv (lkd f d) d 0 (27 + 4 * e) = f (27 + 4 * e) - bt_ (e = d) 1 := fun e a b => by rw [rmv_l hd ⟨a, b⟩ (by omega), lo _ (by omega)]
  have rq : ∀ e p, 0 ≤ e → e < 3 → 0 ≤ p → p < f (27 + 4 * e) - bt_ (e = d) 1 → rmv (lkd f d) d 0 (38 + 16 * e + p) = f (38 + 16 * e + p + bt_ (e = d ∧ 0 ≤ p) 1) := by
    intro e p a b c z
    have y := bt_01 (e = d ∧ 0 ≤ p)
    rw [rmv_q hd ⟨a, b⟩ c (by omega) (fun e a b => by rw [lo _ (by omega)]; exact hle e a b) (by rw [lo _ (by omega)]; exact z), lo _ (by omega)]
  unfold lkg
  rw [← hq]
  by_cases hm : msk f q = 0
  · rw [if_pos hm]
    have o : ∀ j, j ≠ 90 + 9 * q → j ≠ 29 + 4 * d → j ≠ 8 → j ≠ 9 → pss (rmv (lkd f d) d 0) d q 1 j = rmv (lkd f d) d 0 j := fun j a b c e => pss_o a b c e
    have p8 := pss_8 (f := rmv (lkd f d) d 0) q0.1 hd (Or.inl rfl)
    refine Inv_pass (w := 1) (m := 0) I hd hn (by omega) (by omega) 0 (by omega) ?_ ?_ ?_ (fun e a b => ?_) (fun e a b => ?_) (fun e p a b c z => ?_) (fun t a b => ?_) (fun t a b => ?_) ?_ ?_ ?_ ?_
    · exact Bd_keep rB (fun j _ _ => o j (by omega) (by omega) (by omega) (by omega)) (fun j _ _ => o j (by omega) (by omega) (by omega) (by omega)) (fun t _ _ => ⟨o _ (by omega) (by omega) (by omega) (by omega), o _ (by omega) (by omega) (by omega) (by omega), o _ (by omega) (by omega) (by omega) (by omega), o _ (by omega) (by omega) (by omega) (by omega)⟩)
    · rw [o 6 (by omega) (by omega) (by omega) (by omega), ro 6 (by omega) (by omega) (by omega)]
    · rw [o 7 (by omega) (by omega) (by omega) (by omega), ro 7 (by omega) (by omega) (by omega)]
    · rw [o _ (by omega) (by omega) (by omega) (by omega), ro _ (by omega) (by omega) (by omega)]
    · rw [o _ (by omega) (by omega) (by omega) (by omega), rl e a b]
    · have y := hle e a b
      have y2 := bt_01 (e = d)
      rw [o _ (by omega) (by omega) (by omega) (by omega), rq e p a b c z]
    · rw [pss_f a hd, hz, ro _ (by omega) (by omega) (by omega)]
    · rw [o _ (by omega) (by omega) (by omega) (by omega), ro _ (by omega) (by omega) (by omega), hz]
      by_cases e : t = q
      · rw [if_pos e, e]
        exact (I.2.2.2.2.2.2.1 q q0.1 q0.2.1).2.2 q0.2.2 |>.1
      · rw [if_neg e]
    · rw [p8.1, ro 8 (by omega) (by omega) (by omega)]
    · rw [p8.2, ro 9 (by omega) (by omega) (by omega)]
    · rw [o 10 (by omega) (by omega) (by omega) (by omega), ro 10 (by omega) (by omega) (by omega), bt_f (by omega)]
      omega
    · rw [o 14 (by omega) (by omega) (by omega) (by omega), ro 14 (by omega) (by omega) (by omega), bt_f (by omega)]
      omega
  rw [if_neg hm]
  by_cases hs : d ≠ 2 ∧ dbt f q ≤ f 0 * (d + 1)
  · rw [if_pos hs]
    have o : ∀ j, j ≠ 90 + 9 * q → j ≠ 29 + 4 * d → j ≠ 8 → j ≠ 9 → j ≠ 91 + 9 * q → j ≠ 11 → pss (tks (rmv (lkd f d) d 0) q (f 1) 11) d q 1 j = rmv (lkd f d) d 0 j := fun j a b c e e2 e3 => by rw [pss_o a b c e, tks_o e2 e3]
    have p8 := pss_8 (f := tks (rmv (lkd f d) d 0) q (f 1) 11) q0.1 hd (Or.inl rfl)
    refine Inv_pass (w := 1) (m := 0) I hd hn (by omega) (by omega) 0 (by omega) ?_ ?_ ?_ (fun e a b => ?_) (fun e a b => ?_) (fun e p a b c z => ?_) (fun t a b => ?_) (fun t a b => ?_) ?_ ?_ ?_ ?_
    · exact Bd_keep rB (fun j _ _ => o j (by omega) (by omega) (by omega) (by omega) (by omega) (by omega)) (fun j _ _ => o j (by omega) (by omega) (by omega) (by omega) (by omega) (by omega)) (fun t _ _ => ⟨o _ (by omega) (by omega) (by omega) (by omega) (by omega) (by omega), o _ (by omega) (by omega) (by omega) (by omega) (by omega) (by omega), o _ (by omega) (by omega) (by omega) (by omega) (by omega) (by omega), o _ (by omega) (by omega) (by omega) (by omega) (by omega) (by omega)⟩)
    · rw [o 6 (by omega) (by omega) (by omega) (by omega) (by omega) (by omega), ro 6 (by omega) (by omega) (by omega)]
    · rw [o 7 (by omega) (by omega) (by omega) (by omega) (by omega) (by omega), ro 7 (by omega) (by omega) (by omega)]
    · rw [o _ (by omega) (by omega) (by omega) (by omega) (by omega) (by omega), ro _ (by omega) (by omega) (by omega)]
    · rw [o _ (by omega) (by omega) (by omega) (by omega) (by omega) (by omega), rl e a b]
    · have y := hle e a b
      have y2 := bt_01 (e = d)
      rw [o _ (by omega) (by omega) (by omega) (by omega) (by omega) (by omega), rq e p a b c z]
    · rw [pss_f a hd, hz, tks_o (by omega) (by omega), ro _ (by omega) (by omega) (by omega)]
    · rw [o _ (by omega) (by omega) (by omega) (by omega) (by omega) (by omega), ro _ (by omega) (by omega) (by omega), hz]
      by_cases e : t = q
      · rw [if_pos e, e]
        exact (I.2.2.2.2.2.2.1 q q0.1 q0.2.1).2.2 q0.2.2 |>.1
      · rw [if_neg e]
    · rw [p8.1, tks_o (by omega) (by omega), ro 8 (by omega) (by omega) (by omega)]
    · rw [p8.2, tks_o (by omega) (by omega), ro 9 (by omega) (by omega) (by omega)]
    · rw [o 10 (by omega) (by omega) (by omega) (by omega) (by omega) (by omega), ro 10 (by omega) (by omega) (by omega), bt_f (by omega)]
      omega
    · rw [o 14 (by omega) (by omega) (by omega) (by omega) (by omega) (by omega), ro 14 (by omega) (by omega) (by omega), bt_f (by omega)]
      omega
  rw [if_neg hs]
  by_cases h2 : d = 2
  · rw [if_pos h2]
    subst h2
    have eR : ∀ j, (86 ≤ j ∨ j < 27) → rmv (lkd f 2) 2 0 j = f j := fun j h => ro j (by omega) (by omega) (by omega)
    generalize rmv (lkd f 2) 2 0 = g at ro rB rl rq eR
    have fb := fmk_bd g q
    have o : ∀ j, j ≠ 90 + 9 * q → j ≠ 37 → j ≠ 8 → j ≠ 9 → j ≠ 14 → j ≠ 12 → j ≠ 91 + 9 * q → j ≠ 93 + 9 * q → opn g q j = g j := fun j a1 a2 a3 a4 a5 a6 a7 a8 => by
      unfold opn
      rw [pss_o a1 (by omega) a3 a4, us_n a5, us_n a6, us_n a7, us_n a8]
    have p8 := pss_8 (f := us (us (us (us g (93 + 9 * q) (fmk g q)) (91 + 9 * q) (g (91 + 9 * q) + g 2 * fnm g q)) 12 (g 12 + g 2 * fnm g q)) 14 (g 14 + bt_ (fmk g q = 0) 1)) (t := q) (d := 2) (w := 2) q0.1 (by omega) (Or.inr rfl)
    refine Inv_pass (w := 2) (m := fmk g q) I hd hn (by omega) fb 0 (by omega) ?_ ?_ ?_ (fun e a b => ?_) (fun e a b => ?_) (fun e p a b c z => ?_) (fun t a b => ?_) (fun t a b => ?_) ?_ ?_ ?_ ?_
    · exact Bd_keep rB (fun j _ _ => o j (by omega) (by omega) (by omega) (by omega) (by omega) (by omega) (by omega) (by omega)) (fun j _ _ => o j (by omega) (by omega) (by omega) (by omega) (by omega) (by omega) (by omega) (by omega)) (fun t _ _ => ⟨o _ (by omega) (by omega) (by omega) (by omega) (by omega) (by omega) (by omega) (by omega), o _ (by omega) (by omega) (by omega) (by omega) (by omega) (by omega) (by omega) (by omega), o _ (by omega) (by omega) (by omega) (by omega) (by omega) (by omega) (by omega) (by omega), o _ (by omega) (by omega) (by omega) (by omega) (by omega) (by omega) (by omega) (by omega)⟩)
    · rw [o 6 (by omega) (by omega) (by omega) (by omega) (by omega) (by omega) (by omega) (by omega), eR 6 (by omega)]
    · rw [o 7 (by omega) (by omega) (by omega) (by omega) (by omega) (by omega) (by omega) (by omega), eR 7 (by omega)]
    · rw [o _ (by omega) (by omega) (by omega) (by omega) (by omega) (by omega) (by omega) (by omega), ro _ (by omega) (by omega) (by omega)]
    · rw [o _ (by omega) (by omega) (by omega) (by omega) (by omega) (by omega) (by omega) (by omega), rl e a b]
    · have y := hle e a b
      have y2 := bt_01 (e = 2)
      rw [o _ (by omega) (by omega) (by omega) (by omega) (by omega) (by omega) (by omega) (by omega), rq e p a b c z]
    · unfold opn
      rw [pss_f a (by omega), hz, us_n (by omega), us_n (by omega), us_n (by omega), us_n (by omega), eR _ (by omega)]
    · unfold opn
      rw [pss_o (by omega) (by omega) (by omega) (by omega), us_n (by omega), us_n (by omega), us_n (by omega), hz]
      by_cases e : t = q
      · subst e
        rw [us_s, if_pos rfl]
      · rw [us_n (by omega), if_neg e, eR _ (by omega)]
    · show opn g q 8 = _
      unfold opn
      rw [p8.1, us_n (by omega), us_n (by omega), us_n (by omega), us_n (by omega), eR 8 (by omega)]
    · show opn g q 9 = _
      unfold opn
      rw [p8.2, us_n (by omega), us_n (by omega), us_n (by omega), us_n (by omega), eR 9 (by omega)]
    · rw [o 10 (by omega) (by omega) (by omega) (by omega) (by omega) (by omega) (by omega) (by omega), eR 10 (by omega), bt_f (by omega)]
      omega
    · unfold opn
      rw [pss_o (by omega) (by omega) (by omega) (by omega), us_s, eR 14 (by omega)]
      congr 1
      unfold bt_
      by_cases e : fmk g q = 0
      · rw [if_pos e, if_pos ⟨rfl, e⟩]
      · rw [if_neg e, if_neg (fun z => e z.2)]
  · rw [if_neg h2]
    have e31 : rmv (lkd f d) d 0 (27 + 4 * (d + 1)) = f (27 + 4 * (d + 1)) := by rw [ro _ (by omega) (by omega) (by omega)]
    have y31 := hle (d + 1) (by omega) (by omega)
    have o : ∀ j, j ≠ 94 + 9 * q → j ≠ 27 + 4 * (d + 1) → j ≠ 38 + 16 * (d + 1) + f (27 + 4 * (d + 1)) → us (jn (rmv (lkd f d) d 0) (d + 1) q) (94 + 9 * q) (f (94 + 9 * q) + 1) j = rmv (lkd f d) d 0 j := fun j a b c => by
      unfold jn
      rw [us_n a, us_n b, us_n (by rw [e31]; exact c)]
    have sm : f (27 + 4 * (d + 1)) < 16 := by
      have c0 := (iC 0 (by omega) (by omega)).2.2
      have c1 := (iC 1 (by omega) (by omega)).2.2
      have c2 := (iC 2 (by omega) (by omega)).2.2
      have m0 : f (27 + 4 * 0) = f 27 := rfl
      have m1 : f (27 + 4 * 1) = f 31 := rfl
      have m2 : f (27 + 4 * 2) = f 35 := rfl
      have : d = 0 ∨ d = 1 := by omega
      rcases this with rfl | rfl
      · show f (27 + 4 * 1) < 16
        omega
      · show f (27 + 4 * 2) < 16
        omega
    refine Inv_join I (by omega) hn ?_ ?_ ?_ (fun e a b => ?_) (fun e a b => ?_) (fun e p a b c z => ?_) ?_ (fun t a b => ?_) (fun t a b => ?_) ?_ ?_ ?_ ?_
    · exact Bd_keep rB (fun j _ _ => o j (by omega) (by omega) (by omega)) (fun j _ _ => o j (by omega) (by omega) (by omega)) (fun t _ _ => ⟨o _ (by omega) (by omega) (by omega), o _ (by omega) (by omega) (by omega), o _ (by omega) (by omega) (by omega), o _ (by omega) (by omega) (by omega)⟩)
    · rw [o 6 (by omega) (by omega) (by omega), ro 6 (by omega) (by omega) (by omega)]
    · rw [o 7 (by omega) (by omega) (by omega), ro 7 (by omega) (by omega) (by omega)]
    · rw [o _ (by omega) (by omega) (by omega), ro _ (by omega) (by omega) (by omega)]
    · by_cases e1 : e = d + 1
      · subst e1
        unfold jn
        rw [us_n (by omega), us_s, e31, bt_f (by omega), bt_t rfl]
        omega
      · rw [o _ (by omega) (by omega) (by omega), rl e a b, bt_f e1]
        omega
    · have y := hle e a b
      have y2 := bt_01 (e = d)
      have hne : ¬ (e = d + 1 ∧ p = f (27 + 4 * (d + 1))) := by
        rintro ⟨u, v⟩
        subst u
        rw [bt_f (by omega)] at z
        omega
      have hne2 : 38 + 16 * e + p ≠ 38 + 16 * (d + 1) + f (27 + 4 * (d + 1)) := by
        intro u
        exact hne ⟨by omega, by omega⟩
      rw [o _ (by omega) (by omega) hne2, rq e p a b c z]
      congr 2
      unfold bt_
      by_cases e : e = d
      · rw [if_pos e, if_pos ⟨e, c⟩]
      · rw [if_neg e, if_neg (fun z => e z.1)]
    · unfold jn
      rw [e31, us_n (by omega), us_n (by omega), us_s, hq]
    · rw [o _ (by omega) (by omega) (by omega), ro _ (by omega) (by omega) (by omega)]
    · rw [o _ (by omega) (by omega) (by omega), ro _ (by omega) (by omega) (by omega)]
    · rw [o _ (by omega) (by omega) (by omega), ro _ (by omega) (by omega) (by omega)]
    · rw [o _ (by omega) (by omega) (by omega), ro _ (by omega) (by omega) (by omega)]
    · rw [o _ (by omega) (by omega) (by omega), ro _ (by omega) (by omega) (by omega)]
    · rw [o _ (by omega) (by omega) (by omega), ro _ (by omega) (by omega) (by omega)]
end
section
/-- the places that no turn changes, but the turns' own -/
def Kp (j : Int) : Prop := (0 ≤ j ∧ j ≤ 5) ∨ j = 7 ∨ j = 10 ∨ (15 ≤ j ∧ j < 26) ∨ j = 26 ∨ j = 30 ∨ j = 34 ∨ (86 ≤ j ∧ j < 662 ∧ ((j - 86) % 9 < 4 ∨ (j - 86) % 9 = 6)) ∨ j < 0 ∨ 662 ≤ j
theorem lkg_k {f : Int → Int} {d j : Int} (hd : 0 ≤ d ∧ d < 3) (hn : 1 ≤ f (27 + 4 * d)) (I : Inv f) (hj : Kp j ∨ j = 6) : lkg f d j = f j := by
  have hle := fun e a b => I.le (d := e) a b
  have m16 := (hle d hd.1 hd.2).2
  obtain ⟨iB, i7, iC, i16, iD, -⟩ := id I
  have q0 := iD d 0 ⟨hd.1, hd.2, by omega, by omega⟩
  rw [Int.add_zero] at q0
  obtain ⟨q, hq⟩ : ∃ q, q = f (38 + 16 * d) := ⟨_, rfl⟩
  rw [← hq] at q0
  unfold Kp at hj
  have e0 : rmv (lkd f d) d 0 j = f j := rl_o hd m16 (by omega) (by omega) (by omega)
  unfold lkg
  rw [← hq]
  split
  · rw [pss_o (by omega) (by omega) (by omega) (by omega), e0]
  · split
    · rw [pss_o (by omega) (by omega) (by omega) (by omega), tks_o (by omega) (by omega), e0]
    · split
      · unfold opn
        rw [pss_o (by omega) (by omega) (by omega) (by omega), us_n (by omega), us_n (by omega), us_n (by omega), us_n (by omega), e0]
      · rename_i h1 h2 h3
        have y31 := hle (d + 1) (by omega) (by omega)
        have e31 : rmv (lkd f d) d 0 (27 + 4 * (d + 1)) = f (27 + 4 * (d + 1)) := rl_o hd m16 (by omega) (by omega) (by omega)
        have sm : f (27 + 4 * (d + 1)) < 16 := by
          have c0 := (iC 0 (by omega) (by omega)).2.2
          have c1 := (iC 1 (by omega) (by omega)).2.2
          have c2 := (iC 2 (by omega) (by omega)).2.2
          have m0 : f (27 + 4 * 0) = f 27 := rfl
          have m1 : f (27 + 4 * 1) = f 31 := rfl
          have m2 : f (27 + 4 * 2) = f 35 := rfl
          have : d = 0 ∨ d = 1 := by omega
          rcases this with rfl | rfl
          · show f (27 + 4 * 1) < 16
            omega
          · show f (27 + 4 * 2) < 16
            omega
        unfold jn
        rw [us_n (by omega), us_n (by omega), us_n (by rw [e31]; omega), e0]
theorem lk_pre {f : Int → Int} {d o : Int} (hd : 0 ≤ d ∧ d < 3) (hn : 1 ≤ f (27 + 4 * d)) (I : Inv f) (ho : 0 ≤ o ∧ o ≤ 64) :
    Bd f ∧ (1 ≤ f (27 + 4 * d) ∧ f (27 + 4 * d) ≤ 16) ∧ (0 ≤ f (38 + 16 * d) ∧ f (38 + 16 * d) < 64) ∧ (d < 2 → 0 ≤ f (31 + 4 * d) ∧ f (31 + 4 * d) < 16) ∧ f (93 + 9 * f (38 + 16 * d)) = 0 ∧ (0 ≤ f 9 ∧ f 9 ≤ 64) ∧ 0 ≤ o ∧ o ≤ 64 := by
  have hle := fun e a b => I.le (d := e) a b
  obtain ⟨iB, i7, iC, i16, iD, iE, iF, g8, g9, -⟩ := id I
  have q0 := iD d 0 ⟨hd.1, hd.2, by omega, by omega⟩
  rw [Int.add_zero] at q0
  have b9 := cF_bd f 2 (f 7).toNat
  refine ⟨iB, ⟨hn, (hle d hd.1 hd.2).2⟩, ⟨q0.1, by omega⟩, fun h => ?_, ((iF _ q0.1 q0.2.1).2.2 q0.2.2).1, by omega, ho.1, ho.2⟩
  have c0 := (iC 0 (by omega) (by omega)).2.2
  have c1 := (iC 1 (by omega) (by omega)).2.2
  have c2 := (iC 2 (by omega) (by omega)).2.2
  have m0 : f (27 + 4 * 0) = f 27 := rfl
  have m1 : f (27 + 4 * 1) = f 31 := rfl
  have m2 : f (27 + 4 * 2) = f 35 := rfl
  have : d = 0 ∨ d = 1 := by omega
  rcases this with rfl | rfl
  · show 0 ≤ f 31 ∧ f 31 < 16
    omega
  · show 0 ≤ f 35 ∧ f 35 < 16
    omega
theorem hnd_z {f : Int → Int} {d o : Int} {n : Nat} (h : f (27 + 4 * d) ≤ 0) : hnd d o (n + 1) f = f := if_pos h
theorem hnd_s {f : Int → Int} {d o : Int} {n : Nat} (h : ¬ f (27 + 4 * d) ≤ 0) (h2 : lkS f d o) : hnd d o (n + 1) f = lkd f d := (if_neg h).trans (if_pos h2)
theorem hnd_g {f : Int → Int} {d o : Int} {n : Nat} (h : ¬ f (27 + 4 * d) ≤ 0) (h2 : ¬ lkS f d o) : hnd d o (n + 1) f = hnd d o n (lkg f d) := (if_neg h).trans (if_neg h2)
theorem hnd_Inv {d o : Int} (hd : 0 ≤ d ∧ d < 3) : ∀ (n : Nat) (f : Int → Int), Inv f → Inv (hnd d o n f) ∧ ∀ j, Kp j ∨ j = 6 → hnd d o n f j = f j
  | 0, f, I => ⟨I, fun _ _ => rfl⟩
  | n + 1, f, I => by
    by_cases h : f (27 + 4 * d) ≤ 0
    · rw [hnd_z h]
      exact ⟨I, fun _ _ => rfl⟩
    · by_cases h2 : lkS f d o
      · rw [hnd_s h h2]
        exact ⟨lkd_Inv hd I, fun j hj => lkd_o (by unfold Kp at hj; omega)⟩
      · rw [hnd_g h h2]
        obtain ⟨a, b⟩ := hnd_Inv hd n (lkg f d) (lkg_Inv (o := o) hd (by omega) I h2)
        exact ⟨a, fun j hj => (b j hj).trans (lkg_k hd (by omega) I hj)⟩
theorem dly_Inv {d : Int} (hd : 0 ≤ d ∧ d < 3) : ∀ (n : Nat) (p : Int) (f : Int → Int), Inv f → 0 ≤ p → p + n ≤ f (27 + 4 * d) → Inv (dly d n p f) ∧ (∀ j, Kp j ∨ j = 6 ∨ j = 8 ∨ j = 9 ∨ (26 ≤ j ∧ j < 86) → dly d n p f j = f j)
  | 0, p, f, I, _, _ => ⟨I, fun _ _ => rfl⟩
  | n + 1, p, f, I, h0, h1 => by
    have q0 := I.2.2.2.2.1 d p ⟨hd.1, hd.2, h0, by omega⟩
    have i7 := I.2.1
    obtain ⟨a, b⟩ := dly_Inv hd n (p + 1) (tks f (f (38 + 16 * d + p)) (f 3) 13) (tks_Inv q0.1 (by omega) I) (by omega) (by rw [tks_o (by omega) (by omega)]; omega)
    refine ⟨a, fun j hj => (b j hj).trans (tks_o ?_ ?_)⟩
    · unfold Kp at hj
      omega
    · unfold Kp at hj
      omega
theorem dlD_Inv {d : Int} (hd : 0 ≤ d ∧ d < 3) {f : Int → Int} (I : Inv f) : Inv (dlD f d) ∧ (∀ j, Kp j ∨ j = 6 ∨ j = 8 ∨ j = 9 ∨ (26 ≤ j ∧ j < 86) → dlD f d j = f j) := by
  have := (I.le (d := d) hd.1 hd.2).1
  exact dly_Inv hd _ 0 f I (by omega) (by omega)
def hA : Nat → (Int → Int) → (Int → Int)
  | 0, f => f
  | n + 1, f => hA n (hnD f (n : Int))
def dB : Nat → Int → (Int → Int) → (Int → Int)
  | 0, _, f => f
  | n + 1, d, f => dB n (d + 1) (dlD f d)
theorem hA_Inv : ∀ (n : Nat) (f : Int → Int), n ≤ 3 → Inv f → Inv (hA n f) ∧ ∀ j, Kp j ∨ j = 6 → hA n f j = f j
  | 0, f, _, I => ⟨I, fun _ _ => rfl⟩
  | n + 1, f, h, I => by
    obtain ⟨a, b⟩ := hnd_Inv (d := n) (o := f 9) (by omega) (f (26 + 4 * (n : Int))).toNat f I
    obtain ⟨c, e⟩ := hA_Inv n _ (by omega) a
    exact ⟨c, fun j hj => (e j hj).trans (b j hj)⟩
theorem dB_Inv : ∀ (n : Nat) (d : Int) (f : Int → Int), 0 ≤ d → d + n ≤ 3 → Inv f → Inv (dB n d f) ∧ ∀ j, Kp j ∨ j = 6 ∨ j = 8 ∨ j = 9 ∨ (26 ≤ j ∧ j < 86) → dB n d f j = f j
  | 0, d, f, _, _, I => ⟨I, fun _ _ => rfl⟩
  | n + 1, d, f, h0, h, I => by
    obtain ⟨a, b⟩ := dlD_Inv (d := d) (by omega) I
    obtain ⟨c, e⟩ := dB_Inv n (d + 1) _ (by omega) (by omega) a
    exact ⟨c, fun j hj => (e j hj).trans (b j hj)⟩
theorem tn1_eq (f : Int → Int) : tn1 f = us (dB 3 0 (hA 3 f)) 6 (dB 3 0 (hA 3 f) 6 + 1) := tn1_def f
theorem tn1_Inv {f : Int → Int} (I : Inv f) : Inv (tn1 f) ∧ (∀ j, Kp j → tn1 f j = f j) ∧ tn1 f 6 = f 6 + 1 := by
  obtain ⟨a, b⟩ := hA_Inv 3 f (by omega) I
  obtain ⟨c, e⟩ := dB_Inv 3 0 (hA 3 f) (by omega) (by omega) a
  have e6 : dB 3 0 (hA 3 f) 6 = f 6 := (e 6 (by omega)).trans (b 6 (by omega))
  rw [tn1_eq, e6]
  have i6 := I.2.1
  refine ⟨Inv_same c (by rw [us_s]; omega) (fun j _ _ h => us_n h) (fun j _ _ => us_n (by omega)) (fun t _ _ => ⟨us_n (by omega), us_n (by omega)⟩) (fun j _ _ => us_n (by omega)) (fun t _ _ => ⟨us_n (by omega), us_n (by omega), us_n (by omega), us_n (by omega), us_n (by omega), us_n (by omega)⟩), fun j hj => ?_, us_s⟩
  rw [us_n (by unfold Kp at hj; omega), e j (Or.inl hj), b j (Or.inl hj)]
theorem tnN_Inv : ∀ (n : Nat) (f : Int → Int), Inv f → Inv (tnN n f) ∧ (∀ j, Kp j → tnN n f j = f j) ∧ tnN n f 6 = f 6 + n
  | 0, f, I => ⟨I, fun _ _ => rfl, by show f 6 = f 6 + 0; omega⟩
  | n + 1, f, I => by
    obtain ⟨a, b, c⟩ := tn1_Inv I
    obtain ⟨d, e, g⟩ := tnN_Inv n _ a
    refine ⟨d, fun j hj => (e j hj).trans (b j hj), ?_⟩
    show tnN n (tn1 f) 6 = _
    rw [g, c]
    omega
abbrev C_X7_gone : Ct := (2, true, fun as M => ∃ (o : Nat) (b : Int), as = [wR o, wI b] ∧ (o = 11 ∧ (0 ≤ b ∧ b ≤ 4634)), fun as M x M' => ∀ (o : Nat) (b : Int), as = [wR o, wI b] → (((sh b (M 12)) 8 + (sh b (M 12)) 9) = x ∧ (M) = M'))
abbrev C_X7_turn1 : Ct := (2, false, fun as M => ∃ (o : Nat) (b : Int), as = [wR o, wI b] ∧ (o = 11 ∧ (0 ≤ b ∧ b ≤ 4634) ∧ Inv (sh b (M 12))), fun as M x M' => ∀ (o : Nat) (b : Int), as = [wR o, wI b] → ((mr b M (tn1 (sh b (M 12)))) = M'))
abbrev C_X7_turnsBy : Ct := (3, true, fun as M => ∃ (o : Nat) (b : Int) (n : Int), as = [wR o, wI b, wI n] ∧ (o = 11 ∧ (0 ≤ b ∧ b ≤ 4634) ∧ Inv (sh b (M 12)) ∧ 0 ≤ n ∧ n ≤ 1000), fun as M x M' => ∀ (o : Nat) (b : Int) (n : Int), as = [wR o, wI b, wI n] → ((tnN n.toNat (sh b (M 12)) 8 + tnN n.toNat (sh b (M 12)) 9 - ((sh b (M 12)) 8 + (sh b (M 12)) 9)) = x ∧ (mr b M (tnN n.toNat (sh b (M 12)))) = M'))
end
section
theorem sh_0 (F : Int → Int) : sh 0 F = F := by
  funext i
  show F (0 + i) = F i
  rw [Int.zero_add]
theorem un_0 (f : Int → Int) : un 0 f = f := by
  funext i
  show f (i - 0) = f i
  rw [Int.sub_zero]
theorem mr_0 (M : Mem) (f : Int → Int) : mr 0 M f = sta M f := by
  unfold mr
  rw [un_0]
theorem upM_s {M : Mem} {r : Nat} {k x : Int} : upM M r k x r k = x := by simp [upM]
theorem upM_r {M : Mem} {r r' : Nat} {k x : Int} (h : r' ≠ r) : upM M r k x r' = M r' := upM_ne r' h
theorem upM_k {M : Mem} {r : Nat} {k k' x : Int} (h : k' ≠ k) : upM M r k x r k' = M r k' := by simp [upM, h]
/-- the history's rows: cells of their own -/
def hs (M : Mem) (j : Int) : Int → Int := M (210 + j.toNat)
/-- the state before is recorded, and the row is n then -/
def Chg (M M' : Mem) (n : Int → Int) : Prop :=
  M' 12 = n ∧ M' 11 1 = (if M 11 1 = 4 then 4 else M 11 1 + 1) ∧ ∀ j, 1 ≤ j → j ≤ M' 11 1 → hs M' j = if j = M' 11 1 then M 12 else if M 11 1 = 4 then hs M (j + 1) else hs M j
def Fr (M M' : Mem) : Prop := ∀ r, r ≠ 11 → r ≠ 12 → (r < 210 ∨ 214 < r) → M' r = M r
abbrev C_X7_isDesk : Ct := (1, true, fun as M => ∃ (d : Int), as = [wI d] ∧ (inr d), fun as M x M' => ∀ (d : Int), as = [wI d] → ((if 0 ≤ d ∧ d < 3 then 1 else 0) = x ∧ (M) = M'))
abbrev C_X7_isKind : Ct := (1, true, fun as M => ∃ (d : Int), as = [wI d] ∧ (inr d), fun as M x M' => ∀ (d : Int), as = [wI d] → ((if 0 ≤ d ∧ d < 6 then 1 else 0) = x ∧ (M) = M'))
abbrev C_X7_isTrunk : Ct := (2, true, fun as M => ∃ (o : Nat) (t : Int), as = [wR o, wI t] ∧ (o = 11 ∧ inr t ∧ 0 ≤ M 12 7 ∧ M 12 7 ≤ 64), fun as M x M' => ∀ (o : Nat) (t : Int), as = [wR o, wI t] → ((if 0 ≤ t ∧ t < M 12 7 then 1 else 0) = x ∧ (M) = M'))
abbrev C_X7_isWaiting : Ct := (2, true, fun as M => ∃ (o : Nat) (t : Int), as = [wR o, wI t] ∧ (o = 11 ∧ inr t ∧ (0 ≤ M 12 7 ∧ M 12 7 ≤ 64) ∧ ∀ t, 0 ≤ t → t < M 12 7 → 0 ≤ M 12 (90 + 9 * t) ∧ M 12 (90 + 9 * t) ≤ 3), fun as M x M' => ∀ (o : Nat) (t : Int), as = [wR o, wI t] → ((if (0 ≤ t ∧ t < M 12 7) ∧ M 12 (90 + 9 * t) = 0 then 1 else 0) = x ∧ (M) = M'))
abbrev C_X7_waiting : Ct := (1, true, fun as M => ∃ (o : Nat), as = [wR o] ∧ (o = 11), fun as M x M' => ∀ (o : Nat), as = [wR o] → ((M 12 27 + M 12 31 + M 12 35) = x ∧ (M) = M'))
abbrev C_X7_taken : Ct := (2, true, fun as M => ∃ (o : Nat) (b : Int), as = [wR o, wI b] ∧ (o = 11 ∧ (0 ≤ b ∧ b ≤ 4634)), fun as M x M' => ∀ (o : Nat) (b : Int), as = [wR o, wI b] → (((sh b (M 12)) 11 + (sh b (M 12)) 12 + (sh b (M 12)) 13) = x ∧ (M) = M'))
abbrev C_X7_isSlot : Ct := (1, true, fun as M => ∃ (s : Int), as = [wI s] ∧ (inr s), fun as M x M' => ∀ (s : Int), as = [wI s] → ((if s = 0 ∨ s = 1 then 1 else 0) = x ∧ (M) = M'))
def vS (s v : Int) : Prop := (s = 0 ∧ 0 ≤ v ∧ v ≤ 200) ∨ (s = 1 ∧ 0 ≤ v ∧ v ≤ 50) ∨ (s = 2 ∧ 0 ≤ v ∧ v ≤ 90) ∨ (s = 3 ∧ 0 ≤ v ∧ v ≤ 20) ∨ (s = 4 ∧ 0 ≤ v ∧ v ≤ 9) ∨ (s = 5 ∧ 1 ≤ v ∧ v ≤ 4)
abbrev C_X7_isValue : Ct := (2, true, fun as M => ∃ (s : Int) (v : Int), as = [wI s, wI v] ∧ (inr s ∧ inr v), fun as M x M' => ∀ (s : Int) (v : Int), as = [wI s, wI v] → ((x = 1 ∧ vS s v ∨ x = 0 ∧ ¬ vS s v) ∧ M = M'))
/-- a change of one place of the row 0 -/
def Set1 (M M' : Mem) (x p v : Int) : Prop := M 12 p = x ∧ Chg M M' (us (M 12) p v) ∧ Fr M M' ∧ ∀ k, k ≠ 1 → M' 11 k = M 11 k
abbrev C_X7_set : Ct := (3, true, fun as M => ∃ (o : Nat) (s : Int) (v : Int), as = [wR o, wI s, wI v] ∧ (o = 11 ∧ inr s ∧ inr v ∧ 0 ≤ M 11 1 ∧ M 11 1 ≤ 4), fun as M x M' => ∀ (o : Nat) (s : Int) (v : Int), as = [wR o, wI s, wI v] → (vS s v ∧ Set1 M M' x s v ∨ ¬ vS s v ∧ x = -2 ∧ M = M'))
abbrev C_X7_weight : Ct := (3, true, fun as M => ∃ (o : Nat) (s : Int) (v : Int), as = [wR o, wI s, wI v] ∧ (o = 11 ∧ inr s ∧ inr v ∧ 0 ≤ M 11 1 ∧ M 11 1 ≤ 4), fun as M x M' => ∀ (o : Nat) (s : Int) (v : Int), as = [wR o, wI s, wI v] → ((0 ≤ s ∧ s < 6) ∧ (1 ≤ v ∧ v ≤ 9) ∧ Set1 M M' x (15 + s) v ∨ ¬ (0 ≤ s ∧ s < 6) ∧ x = -1 ∧ M = M' ∨ (0 ≤ s ∧ s < 6) ∧ ¬ (1 ≤ v ∧ v ≤ 9) ∧ x = -2 ∧ M = M'))
abbrev C_X7_trust : Ct := (3, true, fun as M => ∃ (o : Nat) (s : Int) (v : Int), as = [wR o, wI s, wI v] ∧ (o = 11 ∧ inr s ∧ inr v ∧ 0 ≤ M 11 1 ∧ M 11 1 ≤ 4), fun as M x M' => ∀ (o : Nat) (s : Int) (v : Int), as = [wR o, wI s, wI v] → ((0 ≤ s ∧ s < 5) ∧ (0 ≤ v ∧ v ≤ 9) ∧ Set1 M M' x (21 + s) v ∨ ¬ (0 ≤ s ∧ s < 5) ∧ x = -1 ∧ M = M' ∨ (0 ≤ s ∧ s < 5) ∧ ¬ (0 ≤ v ∧ v ≤ 9) ∧ x = -2 ∧ M = M'))
abbrev C_X7_hands : Ct := (3, true, fun as M => ∃ (o : Nat) (s : Int) (v : Int), as = [wR o, wI s, wI v] ∧ (o = 11 ∧ inr s ∧ inr v ∧ 0 ≤ M 11 1 ∧ M 11 1 ≤ 4), fun as M x M' => ∀ (o : Nat) (s : Int) (v : Int), as = [wR o, wI s, wI v] → ((0 ≤ s ∧ s < 3) ∧ (0 ≤ v ∧ v ≤ 3) ∧ Set1 M M' x (26 + 4 * s) v ∨ ¬ (0 ≤ s ∧ s < 3) ∧ x = -1 ∧ M = M' ∨ (0 ≤ s ∧ s < 3) ∧ ¬ (0 ≤ v ∧ v ≤ 3) ∧ x = -2 ∧ M = M'))
end
section
def plc (f : Int → Int) (d t : Int) : Nat → Int
  | 0 => -6
  | n + 1 => if f (38 + 16 * d + (n : Int)) = t then (n : Int) else plc f d t n
def plD (f : Int → Int) (d t : Int) : Int := plc f d t (f (27 + 4 * d)).toNat
def dko (f : Int → Int) (t : Int) : Nat → Int
  | 0 => -6
  | n + 1 => if plD f (n : Int) t = -6 then dko f t n else (n : Int)
theorem plc_out {f : Int → Int} {d t : Int} : ∀ n : Nat, (∀ p : Int, 0 ≤ p → p < n → f (38 + 16 * d + p) ≠ t) → plc f d t n = -6
  | 0, _ => rfl
  | n + 1, h => (if_neg (h n (by omega) (by omega))).trans (plc_out n (fun p a b => h p a (by omega)))
theorem plc_in {f : Int → Int} {d t p : Int} : ∀ n : Nat, 0 ≤ p → p < n → f (38 + 16 * d + p) = t → (∀ p' : Int, 0 ≤ p' → p' < n → f (38 + 16 * d + p') = t → p' = p) → plc f d t n = p
  | 0, _, h, _, _ => by omega
  | n + 1, h0, h1, h2, h3 => by
    show (if _ then _ else _) = _
    by_cases e : p = n
    · subst e
      rw [if_pos h2]
    · rw [if_neg (fun z => e (h3 n (by omega) (by omega) z).symm)]
      exact plc_in n h0 (by omega) h2 (fun p' a b c => h3 p' a (by omega) c)
theorem plc_bd {f : Int → Int} {d t : Int} : ∀ n : Nat, plc f d t n = -6 ∨ (0 ≤ plc f d t n ∧ plc f d t n < n)
  | 0 => Or.inl rfl
  | n + 1 => by
    unfold plc
    by_cases e : f (38 + 16 * d + (n : Int)) = t
    · rw [if_pos e]
      exact Or.inr (by omega)
    · rw [if_neg e]
      rcases plc_bd (f := f) (d := d) (t := t) n with h | h
      · exact Or.inl h
      · exact Or.inr (by omega)
theorem dko_bd {f : Int → Int} {t : Int} : ∀ n : Nat, dko f t n = -6 ∨ (0 ≤ dko f t n ∧ dko f t n < n)
  | 0 => Or.inl rfl
  | n + 1 => by
    unfold dko
    by_cases e : plD f (n : Int) t = -6
    · rw [if_pos e]
      rcases dko_bd (f := f) (t := t) n with h | h
      · exact Or.inl h
      · exact Or.inr (by omega)
    · rw [if_neg e]
      exact Or.inr (by omega)
/-- where a trunk stands that is in a queue -/
theorem Inv.at {f : Int → Int} (I : Inv f) {d p t : Int} (q : Qv f d p) (h : f (38 + 16 * d + p) = t) : (∀ e, 0 ≤ e → e < 3 → plD f e t = if e = d then p else -6) ∧ dko f t 3 = d := by
  have iE := I.2.2.2.2.2.1
  have key : ∀ e, 0 ≤ e → e < 3 → plD f e t = if e = d then p else -6 := by
    intro e e0 e1
    have c := (I.le e0 e1).1
    by_cases z : e = d
    · subst z
      rw [if_pos rfl]
      exact plc_in _ q.2.2.1 (by have := q.2.2.2; omega) h (fun p' a b c2 => (iE e p' e p ⟨e0, e1, a, by omega⟩ q (c2.trans h.symm)).2)
    · rw [if_neg z]
      exact plc_out _ (fun p' a b c2 => z (iE e p' d p ⟨e0, e1, a, by omega⟩ q (c2.trans h.symm)).1)
  have q2 := q.2.2.1
  refine ⟨key, ?_⟩
  have k0 := key 0 (by omega) (by omega)
  have k1 := key 1 (by omega) (by omega)
  have k2 := key 2 (by omega) (by omega)
  show (if plD f 2 t = -6 then (if plD f 1 t = -6 then (if plD f 0 t = -6 then -6 else 0) else 1) else 2) = d
  rw [k0, k1, k2]
  have : d = 0 ∨ d = 1 ∨ d = 2 := by have := q.1; have := q.2.1; omega
  rcases this with rfl | rfl | rfl
  · rw [if_neg (show ¬ (2 : Int) = 0 by omega), if_pos rfl, if_neg (show ¬ (1 : Int) = 0 by omega), if_pos rfl, if_pos rfl, if_neg (by omega)]
  · rw [if_neg (show ¬ (2 : Int) = 1 by omega), if_pos rfl, if_pos rfl, if_neg (by omega)]
  · rw [if_pos rfl, if_neg (by omega)]
theorem Inv.out {f : Int → Int} (I : Inv f) {t : Int} (h : ∀ d p, Qv f d p → f (38 + 16 * d + p) ≠ t) : (∀ e, 0 ≤ e → e < 3 → plD f e t = -6) ∧ dko f t 3 = -6 := by
  have key : ∀ e, 0 ≤ e → e < 3 → plD f e t = -6 := by
    intro e e0 e1
    have c := (I.le e0 e1).1
    exact plc_out _ (fun p' a b => h e p' ⟨e0, e1, a, by omega⟩)
  refine ⟨key, ?_⟩
  have k0 := key 0 (by omega) (by omega)
  have k1 := key 1 (by omega) (by omega)
  have k2 := key 2 (by omega) (by omega)
  show (if plD f 2 t = -6 then (if plD f 1 t = -6 then (if plD f 0 t = -6 then -6 else 0) else 1) else 2) = -6
  rw [k0, k1, k2]
  rfl
abbrev C_X7_placeIn : Ct := (3, true, fun as M => ∃ (o : Nat) (d : Int) (t : Int), as = [wR o, wI d, wI t] ∧ (o = 11 ∧ (0 ≤ d ∧ d < 3) ∧ inr t ∧ Inv (M 12)), fun as M x M' => ∀ (o : Nat) (d : Int) (t : Int), as = [wR o, wI d, wI t] → ((plD (M 12) d t) = x ∧ (M) = M'))
abbrev C_X7_deskOf : Ct := (2, true, fun as M => ∃ (o : Nat) (t : Int), as = [wR o, wI t] ∧ (o = 11 ∧ inr t ∧ Inv (M 12)), fun as M x M' => ∀ (o : Nat) (t : Int), as = [wR o, wI t] → ((dko (M 12) t 3) = x ∧ (M) = M'))
def sbP (f : Int → Int) (t : Int) : Nat → Int
  | 0 => 0
  | n + 1 => sbP f t n + (if 0 < df f t (n : Int) - f 4 then df f t (n : Int) - f 4 else 0)
abbrev C_X7_beyondTare : Ct := (2, true, fun as M => ∃ (o : Nat) (t : Int), as = [wR o, wI t] ∧ (o = 11 ∧ (0 ≤ t ∧ t < 64) ∧ Bd (M 12)), fun as M x M' => ∀ (o : Nat) (t : Int), as = [wR o, wI t] → ((sbP (M 12) t 6) = x ∧ (M) = M'))
theorem sbP_z {f : Int → Int} {t : Int} (h : 0 ≤ f 4) : sbP f t 6 = 0 ↔ msk f t = 0 := by
  have k : ∀ k, (0 < df f t k - f 4 ∧ ds f t k = 1) ∨ (¬ 0 < df f t k - f 4 ∧ ds f t k = 0) := by
    intro k
    unfold ds
    by_cases e : f 4 < df f t k
    · exact Or.inl ⟨by omega, bt_t e⟩
    · exact Or.inr ⟨by omega, bt_f e⟩
  show 0 + (if 0 < df f t 0 - f 4 then df f t 0 - f 4 else 0) + (if 0 < df f t 1 - f 4 then df f t 1 - f 4 else 0) + (if 0 < df f t 2 - f 4 then df f t 2 - f 4 else 0) + (if 0 < df f t 3 - f 4 then df f t 3 - f 4 else 0) + (if 0 < df f t 4 - f 4 then df f t 4 - f 4 else 0) + (if 0 < df f t 5 - f 4 then df f t 5 - f 4 else 0) = 0 ↔ _
  unfold msk
  have k0 := k 0
  have k1 := k 1
  have k2 := k 2
  have k3 := k 3
  have k4 := k 4
  have k5 := k 5
  omega
theorem sbP_bd {f : Int → Int} {t : Int} (h : 0 ≤ f 4) (c1 : 0 ≤ f (87 + 9 * t)) (c2 : 0 ≤ f (88 + 9 * t)) : 0 ≤ sbP f t 6 ∧ sbP f t 6 ≤ 54 := by
  have b := fun k => df_bd (f := f) (t := t) (k := k) c1 c2
  have k0 := b 0
  have k1 := b 1
  have k2 := b 2
  have k3 := b 3
  have k4 := b 4
  have k5 := b 5
  show 0 ≤ 0 + (if 0 < df f t 0 - f 4 then df f t 0 - f 4 else 0) + (if 0 < df f t 1 - f 4 then df f t 1 - f 4 else 0) + (if 0 < df f t 2 - f 4 then df f t 2 - f 4 else 0) + (if 0 < df f t 3 - f 4 then df f t 3 - f 4 else 0) + (if 0 < df f t 4 - f 4 then df f t 4 - f 4 else 0) + (if 0 < df f t 5 - f 4 then df f t 5 - f 4 else 0) ∧ 0 + (if 0 < df f t 0 - f 4 then df f t 0 - f 4 else 0) + (if 0 < df f t 1 - f 4 then df f t 1 - f 4 else 0) + (if 0 < df f t 2 - f 4 then df f t 2 - f 4 else 0) + (if 0 < df f t 3 - f 4 then df f t 3 - f 4 else 0) + (if 0 < df f t 4 - f 4 then df f t 4 - f 4 else 0) + (if 0 < df f t 5 - f 4 then df f t 5 - f 4 else 0) ≤ 54
  omega
def hasT (f : Int → Int) (t : Int) : Prop := 0 ≤ t ∧ t < f 7
abbrev C_X7_alike : Ct := (3, true, fun as M => ∃ (o : Nat) (t : Int) (w : Int), as = [wR o, wI t, wI w] ∧ (o = 11 ∧ inr t ∧ inr w ∧ Inv (M 12)), fun as M x M' => ∀ (o : Nat) (t : Int) (w : Int), as = [wR o, wI t, wI w] → (M = M' ∧ (¬ hasT (M 12) t ∧ x = -1 ∨ hasT (M 12) t ∧ (w = 0 ∨ w = 1) ∧ x = bt_ (msk (M 12) t = 0) 1 ∨ hasT (M 12) t ∧ ¬ (w = 0 ∨ w = 1) ∧ x = -2)))
def sdP (f : Int → Int) (d : Int) : Nat → Int
  | 0 => 0
  | n + 1 => sdP f d n + dbt f (f (38 + 16 * d + (n : Int)))
def sdD (f : Int → Int) (d : Int) : Int := sdP f d (f (27 + 4 * d)).toNat
abbrev C_X7_doubtsAt : Ct := (2, true, fun as M => ∃ (o : Nat) (d : Int), as = [wR o, wI d] ∧ (o = 11 ∧ (0 ≤ d ∧ d < 3) ∧ Inv (M 12)), fun as M x M' => ∀ (o : Nat) (d : Int), as = [wR o, wI d] → ((sdD (M 12) d) = x ∧ (M) = M'))
abbrev C_X7_desk : Ct := (3, true, fun as M => ∃ (o : Nat) (d : Int) (w : Int), as = [wR o, wI d, wI w] ∧ (o = 11 ∧ inr d ∧ inr w ∧ Inv (M 12)), fun as M x M' => ∀ (o : Nat) (d : Int) (w : Int), as = [wR o, wI d, wI w] → (M = M' ∧ (¬ (0 ≤ d ∧ d < 3) ∧ x = -1 ∨ (0 ≤ d ∧ d < 3) ∧ (w = 0 ∧ x = M 12 (26 + 4 * d) ∨ w = 1 ∧ x = M 12 (27 + 4 * d) ∨ w = 2 ∧ x = sdD (M 12) d ∨ w = 3 ∧ x = M 12 (28 + 4 * d) ∨ w = 4 ∧ x = M 12 (29 + 4 * d) ∨ (w < 0 ∨ 4 < w) ∧ x = -2))))
abbrev C_X7_pieces : Ct := (4, true, fun as M => ∃ (o : Nat) (t : Int) (w : Int) (k : Int), as = [wR o, wI t, wI w, wI k] ∧ (o = 11 ∧ inr t ∧ inr w ∧ inr k ∧ Inv (M 12)), fun as M x M' => ∀ (o : Nat) (t : Int) (w : Int) (k : Int), as = [wR o, wI t, wI w, wI k] → (M = M' ∧ (¬ (hasT (M 12) t ∧ 0 ≤ k ∧ k < 6) ∧ x = -1 ∨ (hasT (M 12) t ∧ 0 ≤ k ∧ k < 6) ∧ ((0 ≤ w ∧ w < 3) ∧ x = dig (M 12 (87 + 9 * t + w)) k ∨ ¬ (0 ≤ w ∧ w < 3) ∧ x = -2))))
def trV (f : Int → Int) (t w : Int) : Int :=
  if w = 0 then f (86 + 9 * t) else if w = 1 then dko f t 3 else if w = 2 then (if dko f t 3 = -6 then -6 else plD f (dko f t 3) t) else if w = 3 then dbt f t else if w = 4 then msk f t else if w = 5 then f (91 + 9 * t) else if w = 6 then f (92 + 9 * t) else if w = 7 then f (90 + 9 * t) else if w = 8 then f (93 + 9 * t) else if w = 9 then f (94 + 9 * t) else -2
theorem trV_d {f : Int → Int} {t w : Int} (h : w < 0 ∨ 9 < w) : trV f t w = -2 := by
  unfold trV
  rw [if_neg (by omega), if_neg (by omega), if_neg (by omega), if_neg (by omega), if_neg (by omega), if_neg (by omega), if_neg (by omega), if_neg (by omega), if_neg (by omega), if_neg (by omega)]
abbrev C_X7_trunk : Ct := (3, true, fun as M => ∃ (o : Nat) (t : Int) (w : Int), as = [wR o, wI t, wI w] ∧ (o = 11 ∧ inr t ∧ inr w ∧ Inv (M 12)), fun as M x M' => ∀ (o : Nat) (t : Int) (w : Int), as = [wR o, wI t, wI w] → (M = M' ∧ (¬ hasT (M 12) t ∧ x = -1 ∨ hasT (M 12) t ∧ x = trV (M 12) t w)))
end
section
/-! what would be: the reference plays on the row 7 -/
/-! what would be -/
def tau (M : Mem) : Int → Int := M 12
theorem Bd_win {f g : Int → Int} (h : ∀ i, 0 ≤ i → i < 662 → g i = f i) (b : Bd f) : Bd g :=
  Bd_keep b (fun j a c => h j a (by omega)) (fun j a c => h j (by omega) (by omega)) (fun t a c => ⟨h _ (by omega) (by omega), h _ (by omega) (by omega), h _ (by omega) (by omega), h _ (by omega) (by omega)⟩)
theorem Inv_win {f g : Int → Int} (h : ∀ i, 0 ≤ i → i < 662 → g i = f i) (I : Inv f) : Inv g :=
  Inv_same I (by rw [h 6 (by omega) (by omega)]; exact I.2.1.1) (fun j a b _ => h j a (by omega)) (fun j a b => h j (by omega) (by omega)) (fun e a b => ⟨h _ (by omega) (by omega), h _ (by omega) (by omega)⟩) (fun j a b => h j (by omega) (by omega))
    (fun t a b => ⟨h _ (by omega) (by omega), h _ (by omega) (by omega), h _ (by omega) (by omega), h _ (by omega) (by omega), h _ (by omega) (by omega), h _ (by omega) (by omega)⟩)
theorem tau_w {M : Mem} : ∀ i, 0 ≤ i → i < 662 → tau M i = M 12 i := fun _ _ _ => rfl
theorem tau_Inv {M : Mem} (I : Inv (M 12)) : Inv (tau M) := Inv_win tau_w I
def Tr (M M' : Mem) : Prop := M' = M
noncomputable def unt (t : Int) : Nat → Int → (Int → Int) → Int
  | 0, _, _ => -6
  | n + 1, k, f => if f (90 + 9 * t) = 0 then unt t n (k + 1) (tn1 f) else k
noncomputable def unf (t : Int) : Nat → (Int → Int) → (Int → Int)
  | 0, f => f
  | n + 1, f => if f (90 + 9 * t) = 0 then unf t n (tn1 f) else f
theorem unf_Inv (t : Int) : ∀ (n : Nat) (f : Int → Int), Inv f → Inv (unf t n f) ∧ ∀ j, Kp j → unf t n f j = f j
  | 0, f, I => ⟨I, fun _ _ => rfl⟩
  | n + 1, f, I => by
    unfold unf
    by_cases e : f (90 + 9 * t) = 0
    · rw [if_pos e]
      obtain ⟨a, b, -⟩ := tn1_Inv I
      obtain ⟨c, d⟩ := unf_Inv t n _ a
      exact ⟨c, fun j hj => (d j hj).trans (b j hj)⟩
    · rw [if_neg e]
      exact ⟨I, fun _ _ => rfl⟩
theorem unt_bd {t : Int} : ∀ (n : Nat) (k : Int) (f : Int → Int), unt t n k f = -6 ∨ (k ≤ unt t n k f ∧ unt t n k f < k + n)
  | 0, _, _ => Or.inl rfl
  | n + 1, k, f => by
    unfold unt
    by_cases e : f (90 + 9 * t) = 0
    · rw [if_pos e]
      have := unt_bd (t := t) n (k + 1) (tn1 f)
      omega
    · rw [if_neg e]
      omega
abbrev C_X7_untilGone : Ct := (2, true, fun as M => ∃ (o : Nat) (t : Int), as = [wR o, wI t] ∧ (o = 11 ∧ inr t ∧ Inv (M 12)), fun as M x M' => ∀ (o : Nat) (t : Int), as = [wR o, wI t] → ((¬ hasT (M 12) t ∧ x = -1 ∧ Tr M M') ∨ (hasT (M 12) t ∧ x = unt t 201 0 (tau M) ∧ Tr M M')))
noncomputable def ftV (t : Int) (f : Int → Int) : Int := if unt t 201 0 f = -6 then -6 else unf t 201 f (90 + 9 * t)
abbrev C_X7_fate : Ct := (2, true, fun as M => ∃ (o : Nat) (t : Int), as = [wR o, wI t] ∧ (o = 11 ∧ inr t ∧ Inv (M 12)), fun as M x M' => ∀ (o : Nat) (t : Int), as = [wR o, wI t] → ((¬ hasT (M 12) t ∧ x = -1 ∧ Tr M M') ∨ (hasT (M 12) t ∧ x = ftV t (tau M) ∧ Tr M M')))
def mdb (f : Int → Int) : Nat → Int
  | 0 => -6
  | n + 1 => if f (90 + 9 * (n : Int)) = 0 ∧ (mdb f n = -6 ∨ dbt f (mdb f n) < dbt f (n : Int)) then (n : Int) else mdb f n
theorem mdb_bd {f : Int → Int} : ∀ n : Nat, mdb f n = -6 ∨ (0 ≤ mdb f n ∧ mdb f n < n)
  | 0 => Or.inl rfl
  | n + 1 => by
    unfold mdb
    have := mdb_bd (f := f) n
    split <;> omega
abbrev C_X7_mostDoubted : Ct := (1, true, fun as M => ∃ (o : Nat), as = [wR o] ∧ (o = 11 ∧ Inv (M 12)), fun as M x M' => ∀ (o : Nat), as = [wR o] → ((mdb (M 12) (M 12 7).toNat) = x ∧ (M) = M'))
noncomputable def psn (n : Nat) (f : Int → Int) : Int := tnN n f 8 + tnN n f 9 - (f 8 + f 9)
def tkn (f : Int → Int) : Int := f 11 + f 12 + f 13
noncomputable def itV (n w : Int) (f : Int → Int) : Int := if w = 0 then psn n.toNat f else if w = 1 then tnN n.toNat f 9 - f 9 else tkn (tnN n.toNat f) - tkn f
def itOK (n w : Int) : Prop := (1 ≤ n ∧ n ≤ 200) ∧ (0 ≤ w ∧ w ≤ 2)
abbrev C_X7_ifTurned : Ct := (3, true, fun as M => ∃ (o : Nat) (n : Int) (w : Int), as = [wR o, wI n, wI w] ∧ (o = 11 ∧ inr n ∧ inr w ∧ Inv (M 12)), fun as M x M' => ∀ (o : Nat) (n : Int) (w : Int), as = [wR o, wI n, wI w] → ((¬ itOK n w ∧ x = -2 ∧ Tr M M') ∨ (itOK n w ∧ x = itV n w (tau M) ∧ Tr M M')))
end
section
def bhU (f : Int → Int) (d : Int) : Int → Int := us f (26 + 4 * d) (f (26 + 4 * d) + 1)
/-- the best desk so far, and how many pass with a hand more there -/
noncomputable def bhP (f : Int → Int) : Nat → Int × Int
  | 0 => (-6, psn 5 f)
  | n + 1 => if f (26 + 4 * (n : Int)) < 3 ∧ (bhP f n).2 < psn 5 (bhU f (n : Int)) then ((n : Int), psn 5 (bhU f (n : Int))) else bhP f n
theorem gone_bd {f : Int → Int} (I : Inv f) : (0 ≤ f 8 ∧ f 8 ≤ 64) ∧ (0 ≤ f 9 ∧ f 9 ≤ 64) := by
  have i7 := I.2.1
  have a := cF_bd f 1 (f 7).toNat
  have b := cF_bd f 2 (f 7).toNat
  have c := I.2.2.2.2.2.2.2.1
  have d := I.2.2.2.2.2.2.2.2.1
  omega
theorem psn_bd {f : Int → Int} (n : Nat) (I : Inv f) : -200 ≤ psn n f ∧ psn n f ≤ 200 := by
  have a := gone_bd I
  have b := gone_bd (tnN_Inv n f I).1
  unfold psn
  omega
theorem bhU_Inv {f : Int → Int} {d : Int} (hd : 0 ≤ d ∧ d < 3) (I : Inv f) (h : f (26 + 4 * d) < 3) : Inv (bhU f d) := by
  obtain ⟨iB, i7, iC, i16, iD, iE, iF, g8, g9, g10, g14⟩ := I
  have o : ∀ j, j ≠ 26 + 4 * d → bhU f d j = f j := fun j h => us_n h
  have s : bhU f d (26 + 4 * d) = f (26 + 4 * d) + 1 := us_s
  have c := iC d hd.1 hd.2
  have e7 := o 7 (by omega)
  refine ⟨Bd_keep iB (fun j _ _ => o j (by omega)) (fun j _ _ => o j (by omega)) (fun t _ _ => ⟨o _ (by omega), o _ (by omega), o _ (by omega), o _ (by omega)⟩), by rw [o 6 (by omega), e7]; exact i7, fun e a b => ?_, by rw [o 27 (by omega), o 31 (by omega), o 35 (by omega)]; exact i16, fun e p q => ?_, fun e p e' p' q q' hh => ?_, fun t a b => ?_, ?_, ?_, ?_, ?_⟩
  · rw [o (27 + 4 * e) (by omega)]
    by_cases z : e = d
    · subst z
      rw [s]
      omega
    · rw [o _ (by omega)]
      exact iC e a b
  · obtain ⟨a, b, x, y⟩ := q
    rw [o _ (by omega)] at y
    have := iD e p ⟨a, b, x, y⟩
    rw [o (38 + 16 * e + p) (by omega), e7, o (90 + 9 * f (38 + 16 * e + p)) (by omega)]
    exact this
  · obtain ⟨a, b, x, y⟩ := q
    obtain ⟨a', b', x', y'⟩ := q'
    rw [o _ (by omega)] at y y'
    rw [o _ (by omega), o _ (by omega)] at hh
    exact iE e p e' p' ⟨a, b, x, y⟩ ⟨a', b', x', y'⟩ hh
  · rw [e7] at b
    rw [o _ (by omega), o _ (by omega)]
    obtain ⟨r1, r2, r3⟩ := iF t a b
    refine ⟨r1, r2, fun z => ⟨(r3 z).1, ?_⟩⟩
    obtain ⟨e, p, ⟨x1, x2, x3, x4⟩, h2⟩ := (r3 z).2
    exact ⟨e, p, ⟨x1, x2, x3, by rw [o _ (by omega)]; exact x4⟩, by rw [o _ (by omega)]; exact h2⟩
  · rw [o 8 (by omega), e7, g8]
    exact (cF_same _ (fun t a b => o _ (by omega))).symm
  · rw [o 9 (by omega), e7, g9]
    exact (cF_same _ (fun t a b => o _ (by omega))).symm
  · rw [o 10 (by omega), e7, g10]
    exact (cF_same _ (fun t a b => o _ (by omega))).symm
  · rw [o 14 (by omega), e7, g14]
    exact (cU_same _ (fun t a b => ⟨o _ (by omega), o _ (by omega)⟩)).symm
theorem bhP_bd {f : Int → Int} (I : Inv f) : ∀ n : Nat, n ≤ 3 → -200 ≤ (bhP f n).2 ∧ (bhP f n).2 ≤ 200
  | 0, _ => psn_bd 5 I
  | n + 1, h => by
    unfold bhP
    by_cases e : f (26 + 4 * (n : Int)) < 3 ∧ (bhP f n).2 < psn 5 (bhU f (n : Int))
    · rw [if_pos e]
      exact psn_bd 5 (bhU_Inv (by omega) I e.1)
    · rw [if_neg e]
      exact bhP_bd I n (by omega)
abbrev C_X7_bestHand : Ct := (1, true, fun as M => ∃ (o : Nat), as = [wR o] ∧ (o = 11 ∧ Inv (M 12)), fun as M x M' => ∀ (o : Nat), as = [wR o] → (x = (bhP (tau M) 3).1 ∧ Tr M M'))
end
section
noncomputable def lsm (f : Int → Int) : Nat → Int → Int
  | 0, _ => -6
  | n + 1, k => if tnN N200 (us f 0 k) 9 = f 9 then k else lsm f n (k + 1)
theorem us0_Inv {f : Int → Int} {k : Int} (hk : 0 ≤ k ∧ k ≤ 200) (I : Inv f) : Inv (us f 0 k) := by
  obtain ⟨iB, i7, iC, i16, iD, iE, iF, g8, g9, g10, g14⟩ := I
  have o : ∀ j, j ≠ 0 → us f 0 k j = f j := fun j h => us_n h
  refine ⟨?_, by rw [o 6 (by omega), o 7 (by omega)]; exact i7, fun e a b => by rw [o _ (by omega), o _ (by omega)]; exact iC e a b, by rw [o 27 (by omega), o 31 (by omega), o 35 (by omega)]; exact i16, fun e p q => ?_, fun e p e' p' q q' hh => ?_, fun t a b => ?_, ?_, ?_, ?_, ?_⟩
  · obtain ⟨a, b, c, d⟩ := iB
    refine ⟨?_, fun k k0 k1 => ?_, fun k k0 k1 => ?_, fun t t0 t1 => ?_⟩
    · rw [us_s, o 1 (by omega), o 2 (by omega), o 3 (by omega), o 4 (by omega), o 5 (by omega)]
      exact ⟨hk, a.2⟩
    · rw [o _ (by omega)]
      exact b k k0 k1
    · rw [o _ (by omega)]
      exact c k k0 k1
    · rw [o _ (by omega), o _ (by omega), o _ (by omega), o _ (by omega)]
      exact d t t0 t1
  · obtain ⟨a, b, x, y⟩ := q
    rw [o _ (by omega)] at y
    have := iD e p ⟨a, b, x, y⟩
    rw [o (38 + 16 * e + p) (by omega), o 7 (by omega), o (90 + 9 * f (38 + 16 * e + p)) (by omega)]
    exact this
  · obtain ⟨a, b, x, y⟩ := q
    obtain ⟨a', b', x', y'⟩ := q'
    rw [o _ (by omega)] at y y'
    rw [o _ (by omega), o _ (by omega)] at hh
    exact iE e p e' p' ⟨a, b, x, y⟩ ⟨a', b', x', y'⟩ hh
  · rw [o 7 (by omega)] at b
    rw [o _ (by omega), o _ (by omega)]
    obtain ⟨r1, r2, r3⟩ := iF t a b
    refine ⟨r1, r2, fun z => ⟨(r3 z).1, ?_⟩⟩
    obtain ⟨e, p, ⟨x1, x2, x3, x4⟩, h2⟩ := (r3 z).2
    exact ⟨e, p, ⟨x1, x2, x3, by rw [o _ (by omega)]; exact x4⟩, by rw [o _ (by omega)]; exact h2⟩
  · rw [o 8 (by omega), o 7 (by omega), g8]
    exact (cF_same _ (fun t a b => o _ (by omega))).symm
  · rw [o 9 (by omega), o 7 (by omega), g9]
    exact (cF_same _ (fun t a b => o _ (by omega))).symm
  · rw [o 10 (by omega), o 7 (by omega), g10]
    exact (cF_same _ (fun t a b => o _ (by omega))).symm
  · rw [o 14 (by omega), o 7 (by omega), g14]
    exact (cU_same _ (fun t a b => ⟨o _ (by omega), o _ (by omega)⟩)).symm
abbrev C_X7_leastSmall : Ct := (1, true, fun as M => ∃ (o : Nat), as = [wR o] ∧ (o = 11 ∧ Inv (M 12)), fun as M x M' => ∀ (o : Nat), as = [wR o] → (x = lsm (tau M) 201 0 ∧ Tr M M'))
end
section
def Wn (g f : Int → Int) : Prop := ∀ i, 0 ≤ i → i < 662 → g i = f i
def mnd (f : Int → Int) (t w k v : Int) : Int → Int := us f (87 + 9 * t + w) (f (87 + 9 * t + w) + (v - dig (f (87 + 9 * t + w)) k) * pw k)
theorem pw0 : pw 0 = 100000 := rfl
theorem pw1 : pw 1 = 10000 := rfl
theorem pw2 : pw 2 = 1000 := rfl
theorem pw3 : pw 3 = 100 := rfl
theorem pw4 : pw 4 = 10 := rfl
theorem pw5 : pw 5 = 1 := rfl
theorem dig_set {d v k : Int} (hd : 0 ≤ d ∧ d < 1000000) (hv : 0 ≤ v ∧ v ≤ 9) (hk : 0 ≤ k ∧ k < 6) : (0 ≤ d + (v - dig d k) * pw k ∧ d + (v - dig d k) * pw k < 1000000) ∧ ∀ j, 0 ≤ j ∧ j < 6 → dig (d + (v - dig d k) * pw k) j = if j = k then v else dig d j := by
  refine k6 (P := fun k => (0 ≤ d + (v - dig d k) * pw k ∧ d + (v - dig d k) * pw k < 1000000) ∧ ∀ j, 0 ≤ j ∧ j < 6 → dig (d + (v - dig d k) * pw k) j = if j = k then v else dig d j) hk ?_ ?_ ?_ ?_ ?_ ?_
  all_goals
    refine ⟨?_, fun j hj => ?_⟩
    · simp only [dig, pw0, pw1, pw2, pw3, pw4, pw5]
      omega
    · have : j = 0 ∨ j = 1 ∨ j = 2 ∨ j = 3 ∨ j = 4 ∨ j = 5 := by omega
      rcases this with rfl | rfl | rfl | rfl | rfl | rfl <;> (simp only [dig, pw0, pw1, pw2, pw3, pw4, pw5]; first | (rw [if_pos rfl]; omega) | (rw [if_pos trivial]; omega) | (rw [if_neg (by omega)]; omega) | (simp only [if_true]; omega) | omega)
theorem mnd_Inv {f : Int → Int} {t w k v : Int} (I : Inv f) (ht : 0 ≤ t ∧ t < 64) (hw : w = 0 ∨ w = 1) (hk : 0 ≤ k ∧ k < 6) (hv : 0 ≤ v ∧ v ≤ 9) : Inv (mnd f t w k v) := by
  obtain ⟨iB, i7, iC, i16, iD, iE, iF, g8, g9, g10, g14⟩ := I
  have o : ∀ j, j ≠ 87 + 9 * t + w → mnd f t w k v j = f j := fun j h => us_n h
  refine ⟨?_, by rw [o 6 (by omega), o 7 (by omega)]; exact i7, fun e a b => by rw [o _ (by omega), o _ (by omega)]; exact iC e a b, by rw [o 27 (by omega), o 31 (by omega), o 35 (by omega)]; exact i16, fun e p q => ?_, fun e p e' p' q q' hh => ?_, fun t a b => ?_, ?_, ?_, ?_, ?_⟩
  · obtain ⟨a, b, c, d⟩ := iB
    refine ⟨?_, fun k k0 k1 => ?_, fun k k0 k1 => ?_, fun s s0 s1 => ?_⟩
    · rw [o 0 (by omega), o 1 (by omega), o 2 (by omega), o 3 (by omega), o 4 (by omega), o 5 (by omega)]
      exact a
    · rw [o _ (by omega)]
      exact b k k0 k1
    · rw [o _ (by omega)]
      exact c k k0 k1
    · obtain ⟨d0, d1, d2, d3⟩ := d s s0 s1
      refine ⟨by rw [o _ (by omega)]; exact d0, ?_, ?_, by rw [o _ (by omega)]; exact d3⟩
      · by_cases e : 87 + 9 * s = 87 + 9 * t + w
        · rw [e] at d1 ⊢
          unfold mnd
          rw [us_s]
          exact (dig_set d1 hv hk).1
        · rw [o _ e]
          exact d1
      · by_cases e : 88 + 9 * s = 87 + 9 * t + w
        · rw [e] at d2 ⊢
          unfold mnd
          rw [us_s]
          exact (dig_set d2 hv hk).1
        · rw [o _ e]
          exact d2
  · obtain ⟨a, b, x, y⟩ := q
    have c16 : f (27 + 4 * e) ≤ 16 := by
      have c0 := (iC 0 (by omega) (by omega)).2.2
      have c1 := (iC 1 (by omega) (by omega)).2.2
      have c2 := (iC 2 (by omega) (by omega)).2.2
      have m0 : f (27 + 4 * 0) = f 27 := rfl
      have m1 : f (27 + 4 * 1) = f 31 := rfl
      have m2 : f (27 + 4 * 2) = f 35 := rfl
      have : e = 0 ∨ e = 1 ∨ e = 2 := by omega
      rcases this with rfl | rfl | rfl <;> omega
    rw [o (27 + 4 * e) (by omega)] at y
    have := iD e p ⟨a, b, x, y⟩
    rw [o (38 + 16 * e + p) (by omega), o 7 (by omega), o (90 + 9 * f (38 + 16 * e + p)) (by omega)]
    exact this
  · obtain ⟨a, b, x, y⟩ := q
    obtain ⟨a', b', x', y'⟩ := q'
    have c16 : ∀ e, 0 ≤ e → e < 3 → f (27 + 4 * e) ≤ 16 := by
      intro e _ _
      have c0 := (iC 0 (by omega) (by omega)).2.2
      have c1 := (iC 1 (by omega) (by omega)).2.2
      have c2 := (iC 2 (by omega) (by omega)).2.2
      have m0 : f (27 + 4 * 0) = f 27 := rfl
      have m1 : f (27 + 4 * 1) = f 31 := rfl
      have m2 : f (27 + 4 * 2) = f 35 := rfl
      have : e = 0 ∨ e = 1 ∨ e = 2 := by omega
      rcases this with rfl | rfl | rfl <;> omega
    have z1 := c16 e a b
    have z2 := c16 e' a' b'
    rw [o (27 + 4 * e) (by omega)] at y
    rw [o (27 + 4 * e') (by omega)] at y'
    rw [o (38 + 16 * e + p) (by omega), o (38 + 16 * e' + p') (by omega)] at hh
    exact iE e p e' p' ⟨a, b, x, y⟩ ⟨a', b', x', y'⟩ hh
  · rw [o 7 (by omega)] at b
    rw [o _ (by omega), o _ (by omega)]
    obtain ⟨r1, r2, r3⟩ := iF t a b
    refine ⟨r1, r2, fun z => ⟨(r3 z).1, ?_⟩⟩
    obtain ⟨e, p, ⟨x1, x2, x3, x4⟩, h2⟩ := (r3 z).2
    have c16 : f (27 + 4 * e) ≤ 16 := by
      have c0 := (iC 0 (by omega) (by omega)).2.2
      have c1 := (iC 1 (by omega) (by omega)).2.2
      have c2 := (iC 2 (by omega) (by omega)).2.2
      have m0 : f (27 + 4 * 0) = f 27 := rfl
      have m1 : f (27 + 4 * 1) = f 31 := rfl
      have m2 : f (27 + 4 * 2) = f 35 := rfl
      have : e = 0 ∨ e = 1 ∨ e = 2 := by omega
      rcases this with rfl | rfl | rfl <;> omega
    exact ⟨e, p, ⟨x1, x2, x3, by rw [o (27 + 4 * e) (by omega)]; exact x4⟩, by rw [o _ (by omega)]; exact h2⟩
  · rw [o 8 (by omega), o 7 (by omega), g8]
    exact (cF_same _ (fun t a b => o _ (by omega))).symm
  · rw [o 9 (by omega), o 7 (by omega), g9]
    exact (cF_same _ (fun t a b => o _ (by omega))).symm
  · rw [o 10 (by omega), o 7 (by omega), g10]
    exact (cF_same _ (fun t a b => o _ (by omega))).symm
  · rw [o 14 (by omega), o 7 (by omega), g14]
    exact (cU_same _ (fun t a b => ⟨o _ (by omega), o _ (by omega)⟩)).symm
def wtT (f : Int → Int) (t : Int) : Prop := (0 ≤ t ∧ t < f 7) ∧ f (90 + 9 * t) = 0
theorem wt_dec (f : Int → Int) (t : Int) : wtT f t ∨ ¬ wtT f t := Classical.em _
abbrev C_X7_mend : Ct := (5, true, fun as M => ∃ (o : Nat) (t : Int) (w : Int) (k : Int) (v : Int), as = [wR o, wI t, wI w, wI k, wI v] ∧ (o = 11 ∧ (inr t ∧ inr w ∧ inr k ∧ inr v) ∧ Inv (M 12) ∧ 0 ≤ M 11 1 ∧ M 11 1 ≤ 4), fun as M x M' => ∀ (o : Nat) (t : Int) (w : Int) (k : Int) (v : Int), as = [wR o, wI t, wI w, wI k, wI v] → ((¬ (wtT (M 12) t ∧ 0 ≤ k ∧ k < 6) ∧ x = -1 ∧ M = M') ∨ ((wtT (M 12) t ∧ 0 ≤ k ∧ k < 6) ∧ ¬ ((w = 0 ∨ w = 1) ∧ 0 ≤ v ∧ v ≤ 9) ∧ x = -2 ∧ M = M') ∨ ((wtT (M 12) t ∧ 0 ≤ k ∧ k < 6) ∧ ((w = 0 ∨ w = 1) ∧ 0 ≤ v ∧ v ≤ 9) ∧ ∃ g, Wn g (M 12) ∧ x = dbt (mnd g t w k v) t ∧ Chg M M' (mnd g t w k v) ∧ Fr M M' ∧ ∀ k, k ≠ 1 → M' 11 k = M 11 k)))
def sbk (f : Int → Int) (t : Int) : Int → Int := us (us (rmv f (dko f t 3) (plD f (dko f t 3) t)) (90 + 9 * t) 3) 10 (f 10 + 1)
theorem sbk_o {f : Int → Int} {t d p j : Int} (hd : 0 ≤ d ∧ d < 3) (hp : 0 ≤ p) (hm : f (27 + 4 * d) ≤ 16) (h1 : j ≠ 27 + 4 * d) (h2 : j < 38 ∨ 86 ≤ j) (h3 : j ≠ 90 + 9 * t) (h4 : j ≠ 10) : us (us (rmv f d p) (90 + 9 * t) 3) 10 (f 10 + 1) j = f j := by
  rw [us_n h4, us_n h3, rmv_o hd hp hm h1 h2]
theorem sbk_Inv {f : Int → Int} {t : Int} (I : Inv f) (hw : wtT f t) : Inv (sbk f t) := by
  obtain ⟨d, p, q, hq⟩ := ((I.2.2.2.2.2.2.1 t hw.1.1 hw.1.2).2.2 hw.2).2
  obtain ⟨e1, e2⟩ := I.at q hq
  have e3 := e1 d q.1 q.2.1
  rw [if_pos rfl] at e3
  unfold sbk
  rw [e2, e3]
  have hle := fun e a b => I.le (d := e) a b
  have m16 := (hle d q.1 q.2.1).2
  have hd : 0 ≤ d ∧ d < 3 := ⟨q.1, q.2.1⟩
  have q3 := q.2.2.1
  have q4 := q.2.2.2
  have i7 := I.2.1
  have hw1 := hw.1
  have o : ∀ j, j ≠ 27 + 4 * d → (j < 38 ∨ 86 ≤ j) → j ≠ 90 + 9 * t → j ≠ 10 → us (us (rmv f d p) (90 + 9 * t) 3) 10 (f 10 + 1) j = f j := fun j a b c e => sbk_o hd q3 m16 a b c e
  refine Inv_pass (w := 3) (m := 0) I hd (by omega) (by omega) (by omega) p ⟨q3, q4⟩ ?_ (o 6 (by omega) (by omega) (by omega) (by omega)) (o 7 (by omega) (by omega) (by omega) (by omega)) (fun e a b => o _ (by omega) (by omega) (by omega) (by omega)) (fun e a b => ?_) (fun e p' a b c z => ?_) (fun s a b => ?_) (fun s a b => ?_) ?_ ?_ ?_ ?_
  · exact Bd_keep I.1 (fun j _ _ => o j (by omega) (by omega) (by omega) (by omega)) (fun j _ _ => o j (by omega) (by omega) (by omega) (by omega)) (fun s _ _ => ⟨o _ (by omega) (by omega) (by omega) (by omega), o _ (by omega) (by omega) (by omega) (by omega), o _ (by omega) (by omega) (by omega) (by omega), o _ (by omega) (by omega) (by omega) (by omega)⟩)
  · rw [us_n (by omega), us_n (by omega), rmv_l hd ⟨a, b⟩ q3]
  · have y := hle e a b
    have y2 := bt_01 (e = d)
    rw [us_n (by omega), us_n (by omega), rmv_q hd ⟨a, b⟩ c q3 hle z]
  · rw [us_n (by omega), hq]
    by_cases e : s = t
    · subst e
      rw [us_s, if_pos rfl]
    · rw [us_n (by omega), if_neg e, rmv_o hd q3 m16 (by omega) (by omega)]
  · rw [o _ (by omega) (by omega) (by omega) (by omega), hq]
    by_cases e : s = t
    · rw [if_pos e, e]
      exact ((I.2.2.2.2.2.2.1 t hw.1.1 hw.1.2).2.2 hw.2).1
    · rw [if_neg e]
  · rw [o 8 (by omega) (by omega) (by omega) (by omega), bt_f (by omega)]
    omega
  · rw [o 9 (by omega) (by omega) (by omega) (by omega), bt_f (by omega)]
    omega
  · rw [us_s, bt_t rfl]
  · rw [o 14 (by omega) (by omega) (by omega) (by omega), bt_f (by omega)]
    omega
abbrev C_X7_sendBack : Ct := (2, true, fun as M => ∃ (o : Nat) (t : Int), as = [wR o, wI t] ∧ (o = 11 ∧ inr t ∧ Inv (M 12) ∧ 0 ≤ M 11 1 ∧ M 11 1 ≤ 4), fun as M x M' => ∀ (o : Nat) (t : Int), as = [wR o, wI t] → ((¬ wtT (M 12) t ∧ x = -1 ∧ M = M') ∨ (wtT (M 12) t ∧ ∃ g, Wn g (M 12) ∧ x = g (91 + 9 * t) ∧ Chg M M' (sbk g t) ∧ Fr M M' ∧ ∀ k, k ≠ 1 → M' 11 k = M 11 k)))
abbrev C_X7_turn : Ct := (2, true, fun as M => ∃ (o : Nat) (n : Int), as = [wR o, wI n] ∧ (o = 11 ∧ inr n ∧ Inv (M 12) ∧ M 12 6 ≤ 9999 ∧ 0 ≤ M 11 1 ∧ M 11 1 ≤ 4), fun as M x M' => ∀ (o : Nat) (n : Int), as = [wR o, wI n] → ((¬ (1 ≤ n ∧ n ≤ 99) ∧ x = -2 ∧ M = M') ∨ ((1 ≤ n ∧ n ≤ 99) ∧ 9999 < M 12 6 + n ∧ x = -4 ∧ M = M') ∨ ((1 ≤ n ∧ n ≤ 99) ∧ M 12 6 + n ≤ 9999 ∧ ∃ g, Wn g (M 12) ∧ x = psn n.toNat g ∧ Chg M M' (tnN n.toNat g) ∧ Fr M M' ∧ ∀ k, k ≠ 1 → M' 11 k = M 11 k)))
end
section
def cnV (M : Mem) (f : Int → Int) (w : Int) : Int :=
  if 0 ≤ w ∧ w ≤ 7 then f w else if w = 8 then f 27 + f 31 + f 35 else if 9 ≤ w ∧ w ≤ 14 then f (w - 1) else if w = 15 then tkn f else if w = 16 then f 14 else if w = 17 then M 11 4 else if w = 18 then M 11 1 else -2
abbrev C_X7_count : Ct := (2, true, fun as M => ∃ (o : Nat) (w : Int), as = [wR o, wI w] ∧ (o = 11 ∧ inr w), fun as M x M' => ∀ (o : Nat) (w : Int), as = [wR o, wI w] → ((cnV M (M 12) w) = x ∧ (M) = M'))
abbrev C_X7_wipe : Ct := (1, true, fun as M => ∃ (o : Nat), as = [wR o] ∧ (o = 11), fun as M x M' => ∀ (o : Nat), as = [wR o] → ((M 11 4) = x ∧ (upM M 11 4 0) = M'))
def unM (M : Mem) : Mem := fun r => if r = 12 then hs M (M 11 1) else if r = 11 then us (M 11) 1 (M 11 1 - 1) else M r
abbrev C_X7_undo : Ct := (1, true, fun as M => ∃ (o : Nat), as = [wR o] ∧ (o = 11 ∧ 0 ≤ M 11 1 ∧ M 11 1 ≤ 4), fun as M x M' => ∀ (o : Nat), as = [wR o] → ((M 11 1 = 0 ∧ x = -5 ∧ M = M') ∨ (M 11 1 ≠ 0 ∧ x = M 11 1 - 1 ∧ M' = unM M)))
end
section
/-! the pad -/
def rdp (c : Int → Int) (n : Int) : Nat → Int → Int → Int → Int × Int × Int
  | 0, s, _, p => (1, s, p)
  | m + 1, s, l, p => if s < n ∧ l ≤ c s ∧ c s ≤ 102 then (if s + 1 < n ∧ 49 ≤ c (s + 1) ∧ c (s + 1) ≤ 57 then rdp c n m (s + 2) (c s + 1) (p + (c (s + 1) - 48) * pw (c s - 97)) else (0, s + 1, p)) else (1, s, p)
theorem rdp_bd {c : Int → Int} {n : Int} : ∀ (m : Nat) (s l p : Int), s ≤ n → s ≤ (rdp c n m s l p).2.1 ∧ (rdp c n m s l p).2.1 ≤ n ∧ ((rdp c n m s l p).1 = 0 ∨ (rdp c n m s l p).1 = 1)
  | 0, s, l, p, h => ⟨Int.le_refl _, h, Or.inr rfl⟩
  | m + 1, s, l, p, h => by
    unfold rdp
    by_cases e : s < n ∧ l ≤ c s ∧ c s ≤ 102
    · rw [if_pos e]
      by_cases e2 : s + 1 < n ∧ 49 ≤ c (s + 1) ∧ c (s + 1) ≤ 57
      · rw [if_pos e2]
        obtain ⟨a, b, d⟩ := rdp_bd (c := c) (n := n) m (s + 2) (c s + 1) (p + (c (s + 1) - 48) * pw (c s - 97)) (by omega)
        exact ⟨by omega, b, d⟩
      · rw [if_neg e2]
        exact ⟨by show s ≤ s + 1; omega, by show s + 1 ≤ n; omega, Or.inl rfl⟩
    · rw [if_neg e]
      exact ⟨Int.le_refl _, h, Or.inr rfl⟩
/-- the kinds from l on aren't told yet -/
def Pz (l p : Int) : Prop := (0 ≤ p ∧ p < 1000000) ∧ ∀ k, 0 ≤ k → k < 6 → l - 97 ≤ k → dig p k = 0
theorem Pz_s {l p x v : Int} (h : Pz l p) (hl : 97 ≤ l) (h1 : l ≤ x) (h2 : x ≤ 102) (hv : 0 ≤ v ∧ v ≤ 9) : Pz (x + 1) (p + v * pw (x - 97)) := by
  have hz := h.2 (x - 97) (by omega) (by omega) (by omega)
  have := dig_set (d := p) (v := v) (k := x - 97) h.1 hv (by omega)
  rw [hz, Int.sub_zero] at this
  refine ⟨this.1, fun k a b c => ?_⟩
  rw [this.2 k ⟨a, b⟩, if_neg (by omega)]
  exact h.2 k a b (by omega)
theorem rdp_pz {c : Int → Int} {n : Int} : ∀ (m : Nat) (s l p : Int), 97 ≤ l → Pz l p → 0 ≤ (rdp c n m s l p).2.2 ∧ (rdp c n m s l p).2.2 < 1000000
  | 0, s, l, p, _, h => h.1
  | m + 1, s, l, p, hl, h => by
    unfold rdp
    by_cases e : s < n ∧ l ≤ c s ∧ c s ≤ 102
    · rw [if_pos e]
      by_cases e2 : s + 1 < n ∧ 49 ≤ c (s + 1) ∧ c (s + 1) ≤ 57
      · rw [if_pos e2]
        exact rdp_pz m _ _ _ (by omega) (Pz_s h hl e.2.1 e.2.2 (by omega))
      · rw [if_neg e2]
        exact h.1
    · rw [if_neg e]
      exact h.1
theorem Pz_0 : Pz 97 0 := ⟨by omega, fun k a b _ => by
  refine k6 (P := fun k => dig 0 k = 0) ⟨a, b⟩ ?_ ?_ ?_ ?_ ?_ ?_ <;> decide +kernel⟩
theorem r1_ex : ∃ g : (Int → Int) → Int → Int × Int × Int, ∀ c n, g c n = rdp c n 6 2 97 0 := ⟨fun c n => rdp c n 6 2 97 0, fun _ _ => rfl⟩
noncomputable def r1 : (Int → Int) → Int → Int × Int × Int := Classical.choose r1_ex
theorem r1_eq (c : Int → Int) (n : Int) : rdp c n 6 2 97 0 = r1 c n := (Classical.choose_spec r1_ex c n).symm
theorem r2_ex : ∃ g : (Int → Int) → Int → Int × Int × Int, ∀ c n, g c n = rdp c n 6 ((r1 c n).2.1 + 1) 97 0 := ⟨fun c n => rdp c n 6 ((r1 c n).2.1 + 1) 97 0, fun _ _ => rfl⟩
noncomputable def r2 : (Int → Int) → Int → Int × Int × Int := Classical.choose r2_ex
theorem r2_eq (c : Int → Int) (n : Int) : rdp c n 6 ((r1 c n).2.1 + 1) 97 0 = r2 c n := (Classical.choose_spec r2_ex c n).symm
theorem r3_ex : ∃ g : (Int → Int) → Int → Int × Int × Int, ∀ c n, g c n = rdp c n 6 ((r2 c n).2.1 + 1) 97 0 := ⟨fun c n => rdp c n 6 ((r2 c n).2.1 + 1) 97 0, fun _ _ => rfl⟩
noncomputable def r3 : (Int → Int) → Int → Int × Int × Int := Classical.choose r3_ex
theorem r3_eq (c : Int → Int) (n : Int) : rdp c n 6 ((r2 c n).2.1 + 1) 97 0 = r3 c n := (Classical.choose_spec r3_ex c n).symm
noncomputable def flt (c : Int → Int) (n : Int) : Int :=
  if ¬ (0 < n ∧ 48 ≤ c 0 ∧ c 0 ≤ 52) then 0
  else if ¬ (1 < n ∧ c 1 = 58) then 1
  else if (r1 c n).1 = 0 then (r1 c n).2.1
  else if ¬ ((r1 c n).2.1 < n ∧ c (r1 c n).2.1 = 47) then (r1 c n).2.1
  else if (r2 c n).1 = 0 then (r2 c n).2.1
  else if (r2 c n).2.1 < n ∧ c (r2 c n).2.1 = 61 then (if (r3 c n).1 = 0 then (r3 c n).2.1 else if (r3 c n).2.1 = n then -6 else (r3 c n).2.1)
  else if (r2 c n).2.1 = n then -6 else (r2 c n).2.1
noncomputable def pTr (c : Int → Int) (n : Int) : Int := if (r2 c n).2.1 < n then (r3 c n).2.2 else (r1 c n).2.2
/-- only the spot and the paper that is read have changed -/
def Sp (M M' : Mem) : Prop := (∀ k, k ≠ 5 → k ≠ 6 → M' 11 k = M 11 k) ∧ ∀ r, r ≠ 11 → M' r = M r
def PdM (M : Mem) : Prop := (0 ≤ M 11 4 ∧ M 11 4 ≤ 60) ∧ ∀ i, 0 ≤ i → i < 60 → 0 ≤ M 14 i ∧ M 14 i ≤ 255
theorem Sp.rf {M : Mem} : Sp M M := ⟨fun _ _ _ => rfl, fun _ _ => rfl⟩
theorem Sp.tr {M M1 M2 : Mem} (h : Sp M M1) (k : Sp M1 M2) : Sp M M2 := ⟨fun i a b => (k.1 i a b).trans (h.1 i a b), fun r a => (k.2 r a).trans (h.2 r a)⟩
theorem Sp.u5 {M : Mem} {x : Int} : Sp M (upM M 11 5 x) := ⟨fun k a _ => upM_k a, fun r a => upM_r a⟩
theorem Sp.u6 {M : Mem} {x : Int} : Sp M (upM M 11 6 x) := ⟨fun k _ a => upM_k a, fun r a => upM_r a⟩
theorem Sp.pd {M M1 : Mem} (h : Sp M M1) (p : PdM M) : PdM M1 := by
  unfold PdM
  rw [h.1 4 (by omega) (by omega), h.2 14 (by decide)]
  exact p
def isH (M : Mem) (lo hi : Int) : Prop := M 11 5 < M 11 4 ∧ lo ≤ M 14 (M 11 5) ∧ M 14 (M 11 5) ≤ hi
abbrev C_X7_isHere : Ct := (3, true, fun as M => ∃ (o : Nat) (lo : Int) (hi : Int), as = [wR o, wI lo, wI hi] ∧ (o = 11 ∧ PdM M ∧ (0 ≤ M 11 5 ∧ M 11 5 ≤ 60) ∧ inr lo ∧ inr hi), fun as M x M' => ∀ (o : Nat) (lo : Int) (hi : Int), as = [wR o, wI lo, wI hi] → (((x = 1 ∧ isH M lo hi) ∨ (x = 0 ∧ ¬ isH M lo hi)) ∧ M = M'))
abbrev C_X7_takesSign : Ct := (2, true, fun as M => ∃ (o : Nat) (ch : Int), as = [wR o, wI ch] ∧ (o = 11 ∧ PdM M ∧ (0 ≤ M 11 5 ∧ M 11 5 ≤ 60) ∧ inr ch), fun as M x M' => ∀ (o : Nat) (ch : Int), as = [wR o, wI ch] → (((x = 1 ∧ M 11 5 < M 11 4 ∧ M 14 (M 11 5) = ch) ∨ (x = 0 ∧ ¬ (M 11 5 < M 11 4 ∧ M 14 (M 11 5) = ch))) ∧ M' = upM M 11 5 (M 11 5 + x)))
abbrev C_X7_readsPaper : Ct := (1, true, fun as M => ∃ (o : Nat), as = [wR o] ∧ (o = 11 ∧ PdM M ∧ 0 ≤ M 11 5 ∧ M 11 5 ≤ M 11 4), fun as M x M' => ∀ (o : Nat), as = [wR o] → (x = (rdp (M 14) (M 11 4) 6 (M 11 5) 97 0).1 ∧ M' 11 5 = (rdp (M 14) (M 11 4) 6 (M 11 5) 97 0).2.1 ∧ M' 11 6 = (rdp (M 14) (M 11 4) 6 (M 11 5) 97 0).2.2 ∧ Sp M M'))
end
section
abbrev C_X7_fault : Ct := (1, true, fun as M => ∃ (o : Nat), as = [wR o] ∧ (o = 11 ∧ PdM M), fun as M x M' => ∀ (o : Nat), as = [wR o] → (x = flt (M 14) (M 11 4) ∧ Sp M M'))
end
section
/-- the trunk that comes -/
def adF (f : Int → Int) (ct up lo tr : Int) : Int → Int := fun j =>
  if j = 7 then f 7 + 1 else if j = 86 + 9 * f 7 then ct else if j = 87 + 9 * f 7 then up else if j = 88 + 9 * f 7 then lo else if j = 89 + 9 * f 7 then tr else if j = 92 + 9 * f 7 then f 6 else if 90 + 9 * f 7 ≤ j ∧ j ≤ 94 + 9 * f 7 then 0 else f j
def adm (f : Int → Int) (ct up lo tr : Int) : Int → Int := jn (adF f ct up lo tr) 0 (f 7)
theorem flt_ok {c : Int → Int} {n : Int} (h : flt c n = -6) : (0 < n ∧ 48 ≤ c 0 ∧ c 0 ≤ 52) ∧ (1 < n ∧ c 1 = 58) ∧ (r1 c n).1 = 1 ∧ ((r1 c n).2.1 < n ∧ c (r1 c n).2.1 = 47) ∧ (r2 c n).1 = 1 ∧ (((r2 c n).2.1 < n ∧ c (r2 c n).2.1 = 61 ∧ (r3 c n).1 = 1 ∧ (r3 c n).2.1 = n) ∨ (r2 c n).2.1 = n) := by
  unfold flt at h
  by_cases HA : 0 < n ∧ 48 ≤ c 0 ∧ c 0 ≤ 52
  · rw [if_neg (not_not_intro HA)] at h
    by_cases HB : 1 < n ∧ c 1 = 58
    · rw [if_neg (not_not_intro HB)] at h
      have b1 := rdp_bd (c := c) (n := n) 6 2 97 0 (by omega)
      rw [r1_eq] at b1
      by_cases HR : (r1 c n).1 = 0
      · rw [if_pos HR] at h
        omega
      · rw [if_neg HR] at h
        by_cases HC : (r1 c n).2.1 < n ∧ c (r1 c n).2.1 = 47
        · rw [if_neg (not_not_intro HC)] at h
          have b2 := rdp_bd (c := c) (n := n) 6 ((r1 c n).2.1 + 1) 97 0 (by omega)
          rw [r2_eq] at b2
          by_cases HS : (r2 c n).1 = 0
          · rw [if_pos HS] at h
            omega
          · rw [if_neg HS] at h
            refine ⟨HA, HB, by omega, HC, by omega, ?_⟩
            by_cases HE : (r2 c n).2.1 < n ∧ c (r2 c n).2.1 = 61
            · rw [if_pos HE] at h
              have b3 := rdp_bd (c := c) (n := n) 6 ((r2 c n).2.1 + 1) 97 0 (by omega)
              rw [r3_eq] at b3
              by_cases HT : (r3 c n).1 = 0
              · rw [if_pos HT] at h
                omega
              · rw [if_neg HT] at h
                by_cases HN : (r3 c n).2.1 = n
                · exact Or.inl ⟨HE.1, HE.2, by omega, HN⟩
                · rw [if_neg HN] at h
                  omega
            · rw [if_neg HE] at h
              by_cases HN : (r2 c n).2.1 = n
              · exact Or.inr HN
              · rw [if_neg HN] at h
                omega
        · rw [if_pos HC] at h
          omega
    · rw [if_pos HB] at h
      omega
  · rw [if_pos HA] at h
    omega
def zr (g : Int → Int) (p k : Int) : Int → Int := fun j => if p ≤ j ∧ j < p + k then 0 else g j
theorem zr_s {g : Int → Int} {p k : Int} (hk : 0 ≤ k) : us (zr g p k) (p + k) 0 = zr g p (k + 1) := by
  funext j
  unfold us zr
  by_cases e : j = p + k
  · rw [if_pos e, if_pos (by omega)]
  · rw [if_neg e]
    by_cases z : p ≤ j ∧ j < p + k
    · rw [if_pos z, if_pos (by omega)]
    · rw [if_neg z, if_neg (by omega)]
theorem zr_0 {g : Int → Int} {p : Int} : zr g p 0 = g := by
  funext j
  unfold zr
  rw [if_neg (by omega)]
def adC (g : Int → Int) (t ct up lo tr : Int) : Int → Int := us (us (us (us (us (us (zr g (86 + 9 * t) 9) (86 + 9 * t) ct) (87 + 9 * t) up) (89 + 9 * t) tr) (88 + 9 * t) lo) (92 + 9 * t) (g 6)) 7 (t + 1)
theorem adC_eq {g : Int → Int} {t ct up lo tr : Int} (ht : 0 ≤ t) (h7 : g 7 = t) : adC g t ct up lo tr = adF g ct up lo tr := by
  funext j
  unfold adC adF us zr
  rw [h7]
  repeat' split
  all_goals first | rfl | omega
theorem sp_up {M2 : Mem} {h : Int → Int} {i j v : Int} (e : M2 12 = h) (hi : i = j) : upM M2 12 i v = mr 0 M2 (us h j v) := by
  rw [up_sta, ← mr_0, e, hi]
theorem mr_Sp {M M' : Mem} {g : Int → Int} (h : Sp (mr 0 M g) M') : M' 12 = g := by
  rw [h.2 12 (by decide), mr_0, sta_12]
abbrev C_X7_read : Ct := (1, true, fun as M => ∃ (o : Nat), as = [wR o] ∧ (o = 11 ∧ PdM M ∧ Inv (M 12) ∧ 0 ≤ M 11 1 ∧ M 11 1 ≤ 4), fun as M x M' => ∀ (o : Nat), as = [wR o] → ((flt (M 14) (M 11 4) ≠ -6 ∧ x = -3 ∧ Sp M M') ∨ (flt (M 14) (M 11 4) = -6 ∧ (M 12 27 + M 12 31 + M 12 35 = 16 ∨ M 12 7 = 64) ∧ x = -4 ∧ Sp M M') ∨ (flt (M 14) (M 11 4) = -6 ∧ ¬ (M 12 27 + M 12 31 + M 12 35 = 16 ∨ M 12 7 = 64) ∧ x = M 12 7 ∧ (∃ g, Wn g (M 12) ∧ Chg M M' (adm g (M 14 0 - 48) (r1 (M 14) (M 11 4)).2.2 (r2 (M 14) (M 11 4)).2.2 (pTr (M 14) (M 11 4)))) ∧ Fr M M' ∧ M' 11 4 = 0)))
end
section
theorem inl64_toInt (x : Int64) : inl64 x.toInt := by
  have h1 := Int64.le_toInt x
  have h2 := Int64.toInt_lt x
  exact ⟨by simpa using h1, by simpa using h2⟩
theorem xland_bd (l : Int) : 0 ≤ xland l 255 ∧ xland l 255 ≤ 255 := by
  unfold xland
  have h1 : ((Int64.ofInt l &&& Int64.ofInt 255).toBitVec).toNat ≤ 255 := by
    rw [Int64.toBitVec_and, BitVec.toNat_and]
    exact Nat.le_trans Nat.and_le_right (by decide +kernel)
  have h2 : (Int64.ofInt l &&& Int64.ofInt 255).toInt = (((Int64.ofInt l &&& Int64.ofInt 255).toBitVec).toNat : Int) := BitVec.toInt_eq_toNat_of_lt (by omega)
  rw [h2]
  omega
theorem xland_0 : xland 0 255 = 0 := by decide +kernel
theorem xlushr_in (l s : Int) : inl64 (xlushr l s) := inl64_toInt _
def chn : Nat → Int → Int → Int
  | 0, k, l => if l = 0 then k else 0
  | m + 1, k, l => if 33 ≤ xland l 255 ∧ xland l 255 ≤ 126 then chn m (k + 1) (xlushr l 8) else if l = 0 then k else 0
theorem chn_bd : ∀ (m : Nat) (k l : Int), 0 ≤ k → 0 ≤ chn m k l ∧ chn m k l ≤ k + m
  | 0, k, l, h => by
    unfold chn
    split <;> omega
  | m + 1, k, l, h => by
    unfold chn
    have := chn_bd m (k + 1) (xlushr l 8) (by omega)
    split
    · omega
    · split <;> omega
abbrev C_X7_charactersOf : Ct := (1, true, fun as M => ∃ (ch : Int), as = [wL ch] ∧ (inl64 ch), fun as M x M' => ∀ (ch : Int), as = [wL ch] → ((chn 8 0 ch) = x ∧ (M) = M'))
def chb (ch j : Int) : Int := xland (xlushr ch (8 * j)) 255
def ptP (M : Mem) (ch n k : Int) : Mem := fun r j => if r = 14 ∧ M 11 4 ≤ j ∧ j < M 11 4 + k then chb ch (n - 1 - (j - M 11 4)) else M r j
theorem ptP_0 {M : Mem} {ch n : Int} : ptP M ch n 0 = M := by
  funext r j
  unfold ptP
  rw [if_neg (by omega)]
theorem ptP_r {M : Mem} {ch n k : Int} {r : Nat} (h : r ≠ 14) : ptP M ch n k r = M r := by
  funext j
  unfold ptP
  rw [if_neg (fun z => h z.1)]
theorem ptP_s {M : Mem} {ch n k : Int} (hk : 0 ≤ k) : upM (ptP M ch n k) 14 (M 11 4 + k) (chb ch (n - 1 - k)) = ptP M ch n (k + 1) := by
  funext r j
  unfold upM ptP
  by_cases hr : r = 14
  · subst hr
    by_cases e : j = M 11 4 + k
    · subst e
      rw [if_pos ⟨rfl, rfl⟩, if_pos ⟨rfl, by omega⟩]
      congr 1
      omega
    · rw [if_neg (fun z => e z.2)]
      by_cases z : M 11 4 ≤ j ∧ j < M 11 4 + k
      · rw [if_pos ⟨rfl, z⟩, if_pos ⟨rfl, by omega⟩]
      · rw [if_neg (fun y => z y.2), if_neg (fun y => z (by omega))]
  · rw [if_neg (fun z => hr z.1), if_neg (fun z => hr z.1), if_neg (fun z => hr z.1)]
abbrev C_X7_put : Ct := (2, true, fun as M => ∃ (o : Nat) (ch : Int), as = [wR o, wL ch] ∧ (o = 11 ∧ inl64 ch ∧ PdM M), fun as M x M' => ∀ (o : Nat) (ch : Int), as = [wR o, wL ch] → ((chn 8 0 ch = 0 ∧ x = -2 ∧ M = M') ∨ (chn 8 0 ch ≠ 0 ∧ 60 < M 11 4 + chn 8 0 ch ∧ x = -4 ∧ M = M') ∨ (chn 8 0 ch ≠ 0 ∧ M 11 4 + chn 8 0 ch ≤ 60 ∧ x = M 11 4 + chn 8 0 ch ∧ M' = upM (ptP M ch (chn 8 0 ch) (chn 8 0 ch)) 11 4 (M 11 4 + chn 8 0 ch))))
end
