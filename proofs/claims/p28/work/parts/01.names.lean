-- ===== PART A: goes FIRST, ahead of the names: the tables' words, and 'selects' of the private methods out of them =====
/-- a private method of a class that the tables say can be made, by its rows of tables_1 -/
def lw_okq (q : MethodName × Nat) : Prop := (q.1.cls ≠ "java/lang/invoke/MethodHandle" ∧ q.1.cls ≠ "java/lang/invoke/VarHandle") ∧ Cond.instantiable q.1.cls q.2 ∈ tables_1 ∧ Cond.privateMethod q.1 ∈ tables_1 ∧ Cond.instanceMethod q.1 ∈ tables_1
theorem lw_p0 : lw_okq (⟨"DoubtfulTrunks$Pad", "isNext", "(CC)Z"⟩, 5) := ⟨⟨by decide +kernel, by decide +kernel⟩, List.mem_of_getElem? (i := 163) (by decide +kernel), List.mem_of_getElem? (i := 217) (by decide +kernel), List.mem_of_getElem? (i := 218) (by decide +kernel)⟩
theorem lw_p1 : lw_okq (⟨"DoubtfulTrunks$Pad", "skips", "(C)Z"⟩, 5) := ⟨⟨by decide +kernel, by decide +kernel⟩, List.mem_of_getElem? (i := 163) (by decide +kernel), List.mem_of_getElem? (i := 221) (by decide +kernel), List.mem_of_getElem? (i := 222) (by decide +kernel)⟩
theorem lw_p2 : lw_okq (⟨"DoubtfulTrunks$Pad", "readPaper", "(I)Z"⟩, 5) := ⟨⟨by decide +kernel, by decide +kernel⟩, List.mem_of_getElem? (i := 163) (by decide +kernel), List.mem_of_getElem? (i := 225) (by decide +kernel), List.mem_of_getElem? (i := 226) (by decide +kernel)⟩
theorem lw_p3 : lw_okq (⟨"DoubtfulTrunks$State", "actAtTop", "()V"⟩, 9) := ⟨⟨by decide +kernel, by decide +kernel⟩, List.mem_of_getElem? (i := 20) (by decide +kernel), List.mem_of_getElem? (i := 404) (by decide +kernel), List.mem_of_getElem? (i := 405) (by decide +kernel)⟩
theorem lw_p4 : lw_okq (⟨"DoubtfulTrunks$State", "letPass", "(ILDoubtfulTrunks$Desk;I)V"⟩, 9) := ⟨⟨by decide +kernel, by decide +kernel⟩, List.mem_of_getElem? (i := 20) (by decide +kernel), List.mem_of_getElem? (i := 409) (by decide +kernel), List.mem_of_getElem? (i := 410) (by decide +kernel)⟩
theorem lw_p5 : lw_okq (⟨"DoubtfulTrunks$State", "fine", "(I)V"⟩, 9) := ⟨⟨by decide +kernel, by decide +kernel⟩, List.mem_of_getElem? (i := 20) (by decide +kernel), List.mem_of_getElem? (i := 414) (by decide +kernel), List.mem_of_getElem? (i := 415) (by decide +kernel)⟩
theorem lw_p6 : lw_okq (⟨"DoubtfulTrunks$State", "actBelowTop", "(I)V"⟩, 9) := ⟨⟨by decide +kernel, by decide +kernel⟩, List.mem_of_getElem? (i := 20) (by decide +kernel), List.mem_of_getElem? (i := 431) (by decide +kernel), List.mem_of_getElem? (i := 432) (by decide +kernel)⟩
theorem lw_p7 : lw_okq (⟨"DoubtfulTrunks$State", "takeFee", "(I)V"⟩, 9) := ⟨⟨by decide +kernel, by decide +kernel⟩, List.mem_of_getElem? (i := 20) (by decide +kernel), List.mem_of_getElem? (i := 435) (by decide +kernel), List.mem_of_getElem? (i := 436) (by decide +kernel)⟩
theorem lw_p8 : lw_okq (⟨"DoubtfulTrunks$State", "takeDelays", "()V"⟩, 9) := ⟨⟨by decide +kernel, by decide +kernel⟩, List.mem_of_getElem? (i := 20) (by decide +kernel), List.mem_of_getElem? (i := 439) (by decide +kernel), List.mem_of_getElem? (i := 440) (by decide +kernel)⟩
theorem lw_p9 : lw_okq (⟨"DoubtfulTrunks", "turnsUntilGone", "(I)I"⟩, 6) := ⟨⟨by decide +kernel, by decide +kernel⟩, List.mem_of_getElem? (i := 12) (by decide +kernel), List.mem_of_getElem? (i := 503) (by decide +kernel), List.mem_of_getElem? (i := 504) (by decide +kernel)⟩
def lw_privs_1 : List (MethodName × Nat) := [(⟨"DoubtfulTrunks$Pad", "isNext", "(CC)Z"⟩, 5), (⟨"DoubtfulTrunks$Pad", "skips", "(C)Z"⟩, 5), (⟨"DoubtfulTrunks$Pad", "readPaper", "(I)Z"⟩, 5), (⟨"DoubtfulTrunks$State", "actAtTop", "()V"⟩, 9), (⟨"DoubtfulTrunks$State", "letPass", "(ILDoubtfulTrunks$Desk;I)V"⟩, 9), (⟨"DoubtfulTrunks$State", "fine", "(I)V"⟩, 9), (⟨"DoubtfulTrunks$State", "actBelowTop", "(I)V"⟩, 9), (⟨"DoubtfulTrunks$State", "takeFee", "(I)V"⟩, 9), (⟨"DoubtfulTrunks$State", "takeDelays", "()V"⟩, 9), (⟨"DoubtfulTrunks", "turnsUntilGone", "(I)I"⟩, 6)]
theorem lw_r1 : ∀ q ∈ lw_privs_1, lw_okq q := List.forall_mem_cons.mpr ⟨lw_p0, List.forall_mem_cons.mpr ⟨lw_p1, List.forall_mem_cons.mpr ⟨lw_p2, List.forall_mem_cons.mpr ⟨lw_p3, List.forall_mem_cons.mpr ⟨lw_p4, List.forall_mem_cons.mpr ⟨lw_p5, List.forall_mem_cons.mpr ⟨lw_p6, List.forall_mem_cons.mpr ⟨lw_p7, List.forall_mem_cons.mpr ⟨lw_p8, List.forall_mem_cons.mpr ⟨lw_p9, fun _ h => absurd h List.not_mem_nil⟩⟩⟩⟩⟩⟩⟩⟩⟩⟩
def lw_privs : List (MethodName × Nat) := lw_privs_1
def lw_tbl : List Cond := k2_sels lw_privs ++ tables_1
theorem lw_privs_ok : ∀ q ∈ lw_privs, lw_okq q := lw_r1

def RX0 : String := "DoubtfulTrunks$Desk"
def TX0 : u_T := fun k => match k with
  | 0 => ("DoubtfulTrunks$Desk", "queue", "[I", true)
  | 1 => ("DoubtfulTrunks$Desk", "waiting", "I", false)
  | 2 => ("DoubtfulTrunks$Desk", "handCount", "I", false)
  | 3 => ("DoubtfulTrunks$Desk", "looks", "I", false)
  | _ => ("DoubtfulTrunks$Desk", "passes", "I", false)
def tyX0 : Nat → FieldType := fun k => match k with
  | 0 => .array .int
  | 1 => .int
  | 2 => .int
  | 3 => .int
  | _ => .int
abbrev wsX00 : List Cond := u_ws RX0 TX0 5
theorem nmX0 : ∀ a, a < 5 → ∀ b, b < 5 → a ≠ b → (TX0 a).2.1 ≠ (TX0 b).2.1 := by decide +kernel
theorem tyX0_ok : ∀ k, k < 5 → parseFieldDescriptor (TX0 k).2.2.1 = some (tyX0 k) := by decide +kernel
abbrev cX0_init : ByteArray := prog_2_method_1_code
def yX0_init : MethodName := ⟨RX0, "<init>", "()V"⟩
abbrev cX0_append : ByteArray := prog_2_method_2_code
def yX0_append : MethodName := ⟨RX0, "append", "(I)V"⟩
abbrev cX0_placeOf : ByteArray := prog_2_method_3_code
def yX0_placeOf : MethodName := ⟨RX0, "placeOf", "(I)I"⟩
abbrev cX0_dismiss : ByteArray := prog_2_method_4_code
def yX0_dismiss : MethodName := ⟨RX0, "dismiss", "(I)V"⟩
abbrev cX0_copyFrom : ByteArray := prog_2_method_5_code
def yX0_copyFrom : MethodName := ⟨RX0, "copyFrom", "(LDoubtfulTrunks$Desk;)V"⟩
def RX1 : String := "DoubtfulTrunks$History"
def TX1 : u_T := fun k => match k with
  | 0 => ("DoubtfulTrunks$History", "rows", "[LDoubtfulTrunks$State;", true)
  | 1 => ("DoubtfulTrunks$History", "oldest", "I", false)
  | _ => ("DoubtfulTrunks$History", "size", "I", false)
def tyX1 : Nat → FieldType := fun k => match k with
  | 0 => .array (.object "DoubtfulTrunks$State")
  | 1 => .int
  | _ => .int
abbrev wsX10 : List Cond := u_ws RX1 TX1 3
theorem nmX1 : ∀ a, a < 3 → ∀ b, b < 3 → a ≠ b → (TX1 a).2.1 ≠ (TX1 b).2.1 := by decide +kernel
theorem tyX1_ok : ∀ k, k < 3 → parseFieldDescriptor (TX1 k).2.2.1 = some (tyX1 k) := by decide +kernel
abbrev cX1_init : ByteArray := prog_3_method_1_code
def yX1_init : MethodName := ⟨RX1, "<init>", "()V"⟩
abbrev cX1_keep : ByteArray := prog_3_method_2_code
def yX1_keep : MethodName := ⟨RX1, "keep", "(LDoubtfulTrunks$State;)V"⟩
abbrev cX1_takeBack : ByteArray := prog_3_method_3_code
def yX1_takeBack : MethodName := ⟨RX1, "takeBack", "(LDoubtfulTrunks$State;)V"⟩
def RX2 : String := "DoubtfulTrunks$Pad"
def TX2 : u_T := fun k => match k with
  | 0 => ("DoubtfulTrunks$Pad", "signs", "[C", true)
  | 1 => ("DoubtfulTrunks$Pad", "length", "I", false)
  | 2 => ("DoubtfulTrunks$Pad", "country", "I", false)
  | 3 => ("DoubtfulTrunks$Pad", "papers", "[I", true)
  | _ => ("DoubtfulTrunks$Pad", "at", "I", false)
def tyX2 : Nat → FieldType := fun k => match k with
  | 0 => .array .char
  | 1 => .int
  | 2 => .int
  | 3 => .array .int
  | _ => .int
abbrev wsX20 : List Cond := u_ws RX2 TX2 5
theorem nmX2 : ∀ a, a < 5 → ∀ b, b < 5 → a ≠ b → (TX2 a).2.1 ≠ (TX2 b).2.1 := by decide +kernel
theorem tyX2_ok : ∀ k, k < 5 → parseFieldDescriptor (TX2 k).2.2.1 = some (tyX2 k) := by decide +kernel
abbrev cX2_init : ByteArray := prog_4_method_1_code
def yX2_init : MethodName := ⟨RX2, "<init>", "()V"⟩
abbrev cX2_append : ByteArray := prog_4_method_2_code
def yX2_append : MethodName := ⟨RX2, "append", "(C)V"⟩
abbrev cX2_findFault : ByteArray := prog_4_method_3_code
def yX2_findFault : MethodName := ⟨RX2, "findFault", "()I"⟩
abbrev cX2_isNext : ByteArray := prog_4_method_4_code
def yX2_isNext : MethodName := ⟨RX2, "isNext", "(CC)Z"⟩
abbrev cX2_skips : ByteArray := prog_4_method_5_code
def yX2_skips : MethodName := ⟨RX2, "skips", "(C)Z"⟩
abbrev cX2_readPaper : ByteArray := prog_4_method_6_code
def yX2_readPaper : MethodName := ⟨RX2, "readPaper", "(I)Z"⟩
def RX3 : String := "DoubtfulTrunks$Sheet"
def TX3 : u_T := fun k => match k with
  | _ => ("", "", "", false)
def tyX3 : Nat → FieldType := fun k => match k with
  | _ => .int
abbrev wsX30 : List Cond := u_ws RX3 TX3 0
theorem nmX3 : ∀ a, a < 0 → ∀ b, b < 0 → a ≠ b → (TX3 a).2.1 ≠ (TX3 b).2.1 := by decide +kernel
theorem tyX3_ok : ∀ k, k < 0 → parseFieldDescriptor (TX3 k).2.2.1 = some (tyX3 k) := by decide +kernel
abbrev cX3_piecesOf : ByteArray := prog_5_method_2_code
def yX3_piecesOf : MethodName := ⟨RX3, "piecesOf", "(II)I"⟩
abbrev cX3_withPieces : ByteArray := prog_5_method_3_code
def yX3_withPieces : MethodName := ⟨RX3, "withPieces", "(III)I"⟩
def RX4 : String := "DoubtfulTrunks$State"
def TX4 : u_T := fun k => match k with
  | 0 => ("DoubtfulTrunks$State", "settings", "[I", true)
  | 1 => ("DoubtfulTrunks$State", "weights", "[I", true)
  | 2 => ("DoubtfulTrunks$State", "trusts", "[I", true)
  | 3 => ("DoubtfulTrunks$State", "desks", "[LDoubtfulTrunks$Desk;", true)
  | 4 => ("DoubtfulTrunks$State", "trunks", "LDoubtfulTrunks$Trunks;", true)
  | 5 => ("DoubtfulTrunks$State", "turnsMade", "I", false)
  | 6 => ("DoubtfulTrunks$State", "fees", "I", false)
  | 7 => ("DoubtfulTrunks$State", "fines", "I", false)
  | _ => ("DoubtfulTrunks$State", "delays", "I", false)
def tyX4 : Nat → FieldType := fun k => match k with
  | 0 => .array .int
  | 1 => .array .int
  | 2 => .array .int
  | 3 => .array (.object "DoubtfulTrunks$Desk")
  | 4 => .object "DoubtfulTrunks$Trunks"
  | 5 => .int
  | 6 => .int
  | 7 => .int
  | _ => .int
abbrev wsX40 : List Cond := u_ws RX4 TX4 9
theorem nmX4 : ∀ a, a < 9 → ∀ b, b < 9 → a ≠ b → (TX4 a).2.1 ≠ (TX4 b).2.1 := by decide +kernel
theorem tyX4_ok : ∀ k, k < 9 → parseFieldDescriptor (TX4 k).2.2.1 = some (tyX4 k) := by decide +kernel
abbrev cX4_init : ByteArray := prog_6_method_1_code
def yX4_init : MethodName := ⟨RX4, "<init>", "()V"⟩
abbrev cX4_hasCome : ByteArray := prog_6_method_2_code
def yX4_hasCome : MethodName := ⟨RX4, "hasCome", "(I)Z"⟩
abbrev cX4_isWaiting : ByteArray := prog_6_method_3_code
def yX4_isWaiting : MethodName := ⟨RX4, "isWaiting", "(I)Z"⟩
abbrev cX4_waitingTrunks : ByteArray := prog_6_method_4_code
def yX4_waitingTrunks : MethodName := ⟨RX4, "waitingTrunks", "()I"⟩
abbrev cX4_taken : ByteArray := prog_6_method_5_code
def yX4_taken : MethodName := ⟨RX4, "taken", "()I"⟩
abbrev cX4_deskOf : ByteArray := prog_6_method_6_code
def yX4_deskOf : MethodName := ⟨RX4, "deskOf", "(I)I"⟩
abbrev cX4_placeOf : ByteArray := prog_6_method_7_code
def yX4_placeOf : MethodName := ⟨RX4, "placeOf", "(I)I"⟩
abbrev cX4_doubtOf : ByteArray := prog_6_method_8_code
def yX4_doubtOf : MethodName := ⟨RX4, "doubtOf", "(I)I"⟩
abbrev cX4_doubtsAt : ByteArray := prog_6_method_9_code
def yX4_doubtsAt : MethodName := ⟨RX4, "doubtsAt", "(I)I"⟩
abbrev cX4_greatestDoubtAt : ByteArray := prog_6_method_10_code
def yX4_greatestDoubtAt : MethodName := ⟨RX4, "greatestDoubtAt", "(I)I"⟩
abbrev cX4_admit : ByteArray := prog_6_method_11_code
def yX4_admit : MethodName := ⟨RX4, "ad" ++ "mit", "(I[I)I"⟩
abbrev cX4_makeTurns : ByteArray := prog_6_method_12_code
def yX4_makeTurns : MethodName := ⟨RX4, "makeTurns", "(I)I"⟩
abbrev cX4_makeTurn : ByteArray := prog_6_method_13_code
def yX4_makeTurn : MethodName := ⟨RX4, "makeTurn", "()I"⟩
abbrev cX4_actAtTop : ByteArray := prog_6_method_14_code
def yX4_actAtTop : MethodName := ⟨RX4, "actAtTop", "()V"⟩
abbrev cX4_actBelowTop : ByteArray := prog_6_method_15_code
def yX4_actBelowTop : MethodName := ⟨RX4, "actBelowTop", "(I)V"⟩
abbrev cX4_letPass : ByteArray := prog_6_method_16_code
def yX4_letPass : MethodName := ⟨RX4, "letPass", "(ILDoubtfulTrunks$Desk;I)V"⟩
abbrev cX4_takeFee : ByteArray := prog_6_method_17_code
def yX4_takeFee : MethodName := ⟨RX4, "takeFee", "(I)V"⟩
abbrev cX4_fine : ByteArray := prog_6_method_18_code
def yX4_fine : MethodName := ⟨RX4, "fine", "(I)V"⟩
abbrev cX4_takeDelays : ByteArray := prog_6_method_19_code
def yX4_takeDelays : MethodName := ⟨RX4, "takeDelays", "()V"⟩
abbrev cX4_copyFrom : ByteArray := prog_6_method_20_code
def yX4_copyFrom : MethodName := ⟨RX4, "copyFrom", "(LDoubtfulTrunks$State;)V"⟩
def RX5 : String := "DoubtfulTrunks$Trunks"
def TX5 : u_T := fun k => match k with
  | 0 => ("DoubtfulTrunks$Trunks", "came", "I", false)
  | 1 => ("DoubtfulTrunks$Trunks", "countries", "[I", true)
  | 2 => ("DoubtfulTrunks$Trunks", "papers", "[[I", true)
  | 3 => ("DoubtfulTrunks$Trunks", "accounts", "[I", true)
  | 4 => ("DoubtfulTrunks$Trunks", "arrivals", "[I", true)
  | 5 => ("DoubtfulTrunks$Trunks", "fates", "[I", true)
  | 6 => ("DoubtfulTrunks$Trunks", "finedKinds", "[I", true)
  | _ => ("DoubtfulTrunks$Trunks", "handOns", "[I", true)
def tyX5 : Nat → FieldType := fun k => match k with
  | 0 => .int
  | 1 => .array .int
  | 2 => .array (.array .int)
  | 3 => .array .int
  | 4 => .array .int
  | 5 => .array .int
  | 6 => .array .int
  | _ => .array .int
abbrev wsX50 : List Cond := u_ws RX5 TX5 8
theorem nmX5 : ∀ a, a < 8 → ∀ b, b < 8 → a ≠ b → (TX5 a).2.1 ≠ (TX5 b).2.1 := by decide +kernel
theorem tyX5_ok : ∀ k, k < 8 → parseFieldDescriptor (TX5 k).2.2.1 = some (tyX5 k) := by decide +kernel
abbrev cX5_init : ByteArray := prog_7_method_1_code
def yX5_init : MethodName := ⟨RX5, "<init>", "()V"⟩
abbrev cX5_add : ByteArray := prog_7_method_2_code
def yX5_add : MethodName := ⟨RX5, "add", "(I[II)V"⟩
abbrev cX5_difference : ByteArray := prog_7_method_3_code
def yX5_difference : MethodName := ⟨RX5, "difference", "(II)I"⟩
abbrev cX5_disagreements : ByteArray := prog_7_method_4_code
def yX5_disagreements : MethodName := ⟨RX5, "disagreements", "(II)I"⟩
abbrev cX5_sumBeyond : ByteArray := prog_7_method_5_code
def yX5_sumBeyond : MethodName := ⟨RX5, "sumBeyond", "(II)I"⟩
abbrev cX5_hiddenKinds : ByteArray := prog_7_method_6_code
def yX5_hiddenKinds : MethodName := ⟨RX5, "hiddenKinds", "(I)I"⟩
abbrev cX5_countWithFate : ByteArray := prog_7_method_7_code
def yX5_countWithFate : MethodName := ⟨RX5, "countWithFate", "(I)I"⟩
abbrev cX5_countOpenedUnfined : ByteArray := prog_7_method_8_code
def yX5_countOpenedUnfined : MethodName := ⟨RX5, "countOpenedUnfined", "()I"⟩
abbrev cX5_copyFrom : ByteArray := prog_7_method_9_code
def yX5_copyFrom : MethodName := ⟨RX5, "copyFrom", "(LDoubtfulTrunks$Trunks;)V"⟩
def RX6 : String := "DoubtfulTrunks"
def TX6 : u_T := fun k => match k with
  | 0 => ("DoubtfulTrunks", "now", "LDoubtfulTrunks$State;", true)
  | 1 => ("DoubtfulTrunks", "trial", "LDoubtfulTrunks$State;", true)
  | 2 => ("DoubtfulTrunks", "history", "LDoubtfulTrunks$History;", true)
  | 3 => ("DoubtfulTrunks", "slots", "[LDoubtfulTrunks$State;", true)
  | 4 => ("DoubtfulTrunks", "filled", "[Z", true)
  | _ => ("DoubtfulTrunks", "pad", "LDoubtfulTrunks$Pad;", true)
def tyX6 : Nat → FieldType := fun k => match k with
  | 0 => .object "DoubtfulTrunks$State"
  | 1 => .object "DoubtfulTrunks$State"
  | 2 => .object "DoubtfulTrunks$History"
  | 3 => .array (.object "DoubtfulTrunks$State")
  | 4 => .array .boolean
  | _ => .object "DoubtfulTrunks$Pad"
abbrev wsX60 : List Cond := u_ws RX6 TX6 6
theorem nmX6 : ∀ a, a < 6 → ∀ b, b < 6 → a ≠ b → (TX6 a).2.1 ≠ (TX6 b).2.1 := by decide +kernel
theorem tyX6_ok : ∀ k, k < 6 → parseFieldDescriptor (TX6 k).2.2.1 = some (tyX6 k) := by decide +kernel
abbrev cX6_init : ByteArray := prog_1_method_1_code
def yX6_init : MethodName := ⟨RX6, "<init>", "()V"⟩
abbrev cX6_set : ByteArray := prog_1_method_2_code
def yX6_set : MethodName := ⟨RX6, "set", "(II)I"⟩
abbrev cX6_weight : ByteArray := prog_1_method_3_code
def yX6_weight : MethodName := ⟨RX6, "weight", "(II)I"⟩
abbrev cX6_trust : ByteArray := prog_1_method_4_code
def yX6_trust : MethodName := ⟨RX6, "trust", "(II)I"⟩
abbrev cX6_hands : ByteArray := prog_1_method_5_code
def yX6_hands : MethodName := ⟨RX6, "hands", "(II)I"⟩
abbrev cX6_read : ByteArray := prog_1_method_6_code
def yX6_read : MethodName := ⟨RX6, "read", "()I"⟩
abbrev cX6_mend : ByteArray := prog_1_method_7_code
def yX6_mend : MethodName := ⟨RX6, "mend", "(IIII)I"⟩
abbrev cX6_sendBack : ByteArray := prog_1_method_8_code
def yX6_sendBack : MethodName := ⟨RX6, "sendBack", "(I)I"⟩
abbrev cX6_turn : ByteArray := prog_1_method_9_code
def yX6_turn : MethodName := ⟨RX6, "turn", "(I)I"⟩
abbrev cX6_trunk : ByteArray := prog_1_method_10_code
def yX6_trunk : MethodName := ⟨RX6, "trunk", "(II)I"⟩
abbrev cX6_pieces : ByteArray := prog_1_method_11_code
def yX6_pieces : MethodName := ⟨RX6, "pieces", "(III)I"⟩
abbrev cX6_alike : ByteArray := prog_1_method_12_code
def yX6_alike : MethodName := ⟨RX6, "alike", "(II)I"⟩
abbrev cX6_desk : ByteArray := prog_1_method_13_code
def yX6_desk : MethodName := ⟨RX6, "desk", "(II)I"⟩
abbrev cX6_count : ByteArray := prog_1_method_14_code
def yX6_count : MethodName := ⟨RX6, "count", "(I)I"⟩
abbrev cX6_untilGone : ByteArray := prog_1_method_15_code
def yX6_untilGone : MethodName := ⟨RX6, "untilGone", "(I)I"⟩
abbrev cX6_fate : ByteArray := prog_1_method_16_code
def yX6_fate : MethodName := ⟨RX6, "fate", "(I)I"⟩
abbrev cX6_mostDoubted : ByteArray := prog_1_method_17_code
def yX6_mostDoubted : MethodName := ⟨RX6, "mostDoubted", "()I"⟩
abbrev cX6_ifTurned : ByteArray := prog_1_method_18_code
def yX6_ifTurned : MethodName := ⟨RX6, "ifTurned", "(II)I"⟩
abbrev cX6_bestHand : ByteArray := prog_1_method_19_code
def yX6_bestHand : MethodName := ⟨RX6, "bestHand", "()I"⟩
abbrev cX6_leastSmall : ByteArray := prog_1_method_20_code
def yX6_leastSmall : MethodName := ⟨RX6, "leastSmall", "()I"⟩
abbrev cX6_put : ByteArray := prog_1_method_21_code
def yX6_put : MethodName := ⟨RX6, "put", "(J)I"⟩
abbrev cX6_wipe : ByteArray := prog_1_method_22_code
def yX6_wipe : MethodName := ⟨RX6, "wipe", "()I"⟩
abbrev cX6_undo : ByteArray := prog_1_method_24_code
def yX6_undo : MethodName := ⟨RX6, "undo", "()I"⟩
abbrev cX6_isWithin : ByteArray := prog_1_method_27_code
def yX6_isWithin : MethodName := ⟨RX6, "isWithin", "(III)Z"⟩
abbrev cX6_turnsUntilGone : ByteArray := prog_1_method_28_code
def yX6_turnsUntilGone : MethodName := ⟨RX6, "turnsUntilGone", "(I)I"⟩
def RX7 : String := "DoubtfulTrunksModel"
def TX7 : u_T := fun k => match k with
  | _ => ("", "", "", false)
def tyX7 : Nat → FieldType := fun k => match k with
  | _ => .int
abbrev wsX70 : List Cond := u_ws RX7 TX7 0
theorem nmX7 : ∀ a, a < 0 → ∀ b, b < 0 → a ≠ b → (TX7 a).2.1 ≠ (TX7 b).2.1 := by decide +kernel
theorem tyX7_ok : ∀ k, k < 0 → parseFieldDescriptor (TX7 k).2.2.1 = some (tyX7 k) := by decide +kernel
def RJ6 : String := "java/lang/Integer"
def TJ6 : u_T := fun k => match k with
  | _ => ("", "", "", false)
def tyJ6 : Nat → FieldType := fun k => match k with
  | _ => .int
abbrev wsJ60 : List Cond := u_ws RJ6 TJ6 0
theorem nmJ6 : ∀ a, a < 0 → ∀ b, b < 0 → a ≠ b → (TJ6 a).2.1 ≠ (TJ6 b).2.1 := by decide +kernel
theorem tyJ6_ok : ∀ k, k < 0 → parseFieldDescriptor (TJ6 k).2.2.1 = some (tyJ6 k) := by decide +kernel
abbrev cJ6_bitCount_0f7a4 : ByteArray := prog_10_method_49_code
def yJ6_bitCount_0f7a4 : MethodName := ⟨RJ6, "bitCount", "(I)I"⟩
def RJ9 : String := "java/lang/Math"
def TJ9 : u_T := fun k => match k with
  | _ => ("", "", "", false)
def tyJ9 : Nat → FieldType := fun k => match k with
  | _ => .int
abbrev wsJ90 : List Cond := u_ws RJ9 TJ9 0
theorem nmJ9 : ∀ a, a < 0 → ∀ b, b < 0 → a ≠ b → (TJ9 a).2.1 ≠ (TJ9 b).2.1 := by decide +kernel
theorem tyJ9_ok : ∀ k, k < 0 → parseFieldDescriptor (TJ9 k).2.2.1 = some (tyJ9 k) := by decide +kernel
abbrev cJ9_abs_0f7a4 : ByteArray := prog_11_method_59_code
def yJ9_abs_0f7a4 : MethodName := ⟨RJ9, "abs", "(I)I"⟩
abbrev cJ9_max_7cf53 : ByteArray := prog_11_method_65_code
def yJ9_max_7cf53 : MethodName := ⟨RJ9, "max", "(II)I"⟩
abbrev cJ9_min_7cf53 : ByteArray := prog_11_method_69_code
def yJ9_min_7cf53 : MethodName := ⟨RJ9, "min", "(II)I"⟩
def RJ10 : String := "java/lang/System"
def TJ10 : u_T := fun k => match k with
  | _ => ("", "", "", false)
def tyJ10 : Nat → FieldType := fun k => match k with
  | _ => .int
abbrev wsJ100 : List Cond := u_ws RJ10 TJ10 0
theorem nmJ10 : ∀ a, a < 0 → ∀ b, b < 0 → a ≠ b → (TJ10 a).2.1 ≠ (TJ10 b).2.1 := by decide +kernel
theorem tyJ10_ok : ∀ k, k < 0 → parseFieldDescriptor (TJ10 k).2.2.1 = some (tyJ10 k) := by decide +kernel
def RL : String := "DoubtfulTrunksLaw"
abbrev cL_cell : ByteArray := method_2_code
def yL_cell : MethodName := ⟨RL, "cell", "([II)I"⟩
abbrev cL_low : ByteArray := method_3_code
def yL_low : MethodName := ⟨RL, "low", "(II)I"⟩
abbrev cL_types : ByteArray := method_4_code
def yL_types : MethodName := ⟨RL, "types", "(LDoubtfulTrunks;II)I"⟩
abbrev cL_act : ByteArray := method_5_code
def yL_act : MethodName := ⟨RL, "act", "(LDoubtfulTrunks;II)I"⟩
abbrev cL_trunks : ByteArray := method_6_code
def yL_trunks : MethodName := ⟨RL, "trunks", "(LDoubtfulTrunks;)Z"⟩
abbrev cL_print : ByteArray := method_7_code
def yL_print : MethodName := ⟨RL, "print", "(LDoubtfulTrunks;)J"⟩
abbrev cL_turns : ByteArray := method_8_code
def yL_turns : MethodName := ⟨RL, "turns", "(LDoubtfulTrunks;II)Z"⟩
abbrev cL_small : ByteArray := method_9_code
def yL_small : MethodName := ⟨RL, "small", "(LDoubtfulTrunks;)Z"⟩
abbrev cL_hand : ByteArray := method_10_code
def yL_hand : MethodName := ⟨RL, "hand", "(LDoubtfulTrunks;)Z"⟩
abbrev cL_goes : ByteArray := method_11_code
def yL_goes : MethodName := ⟨RL, "goes", "(LDoubtfulTrunks;I)Z"⟩
abbrev cL_law : ByteArray := code
def yL_law : MethodName := ⟨RL, "law", "([I)Z"⟩
