section
-- ===== PART A: goes FIRST, ahead of the names: the tables' words, and 'selects' of the private methods out of them =====
/-- a private method of a class that the tables say can be made, by its rows of tables_1 -/
def lw_okq (q : MethodName × Nat) : Prop := (q.1.cls ≠ "java/lang/invoke/MethodHandle" ∧ q.1.cls ≠ "java/lang/invoke/VarHandle") ∧ Cond.instantiable q.1.cls q.2 ∈ tables_1 ∧ Cond.privateMethod q.1 ∈ tables_1 ∧ Cond.instanceMethod q.1 ∈ tables_1
theorem lw_p0 : lw_okq (⟨"DoubtfulTrunks$Pad", "isNext", "(CC)Z"⟩, 5) := ⟨⟨by decide +kernel, by decide +kernel⟩, List.mem_of_getElem? (i := 164) (by decide +kernel), List.mem_of_getElem? (i := 262) (by decide +kernel), List.mem_of_getElem? (i := 263) (by decide +kernel)⟩
theorem lw_p1 : lw_okq (⟨"DoubtfulTrunks$Pad", "skips", "(C)Z"⟩, 5) := ⟨⟨by decide +kernel, by decide +kernel⟩, List.mem_of_getElem? (i := 164) (by decide +kernel), List.mem_of_getElem? (i := 266) (by decide +kernel), List.mem_of_getElem? (i := 267) (by decide +kernel)⟩
theorem lw_p2 : lw_okq (⟨"DoubtfulTrunks$Pad", "readPaper", "(I)Z"⟩, 5) := ⟨⟨by decide +kernel, by decide +kernel⟩, List.mem_of_getElem? (i := 164) (by decide +kernel), List.mem_of_getElem? (i := 270) (by decide +kernel), List.mem_of_getElem? (i := 271) (by decide +kernel)⟩
theorem lw_p3 : lw_okq (⟨"DoubtfulTrunks$State", "actAtTop", "()V"⟩, 9) := ⟨⟨by decide +kernel, by decide +kernel⟩, List.mem_of_getElem? (i := 21) (by decide +kernel), List.mem_of_getElem? (i := 350) (by decide +kernel), List.mem_of_getElem? (i := 351) (by decide +kernel)⟩
theorem lw_p4 : lw_okq (⟨"DoubtfulTrunks$State", "letPass", "(ILDoubtfulTrunks$Desk;I)V"⟩, 9) := ⟨⟨by decide +kernel, by decide +kernel⟩, List.mem_of_getElem? (i := 21) (by decide +kernel), List.mem_of_getElem? (i := 355) (by decide +kernel), List.mem_of_getElem? (i := 356) (by decide +kernel)⟩
theorem lw_p5 : lw_okq (⟨"DoubtfulTrunks$State", "fine", "(I)V"⟩, 9) := ⟨⟨by decide +kernel, by decide +kernel⟩, List.mem_of_getElem? (i := 21) (by decide +kernel), List.mem_of_getElem? (i := 360) (by decide +kernel), List.mem_of_getElem? (i := 361) (by decide +kernel)⟩
theorem lw_p6 : lw_okq (⟨"DoubtfulTrunks$State", "actBelowTop", "(I)V"⟩, 9) := ⟨⟨by decide +kernel, by decide +kernel⟩, List.mem_of_getElem? (i := 21) (by decide +kernel), List.mem_of_getElem? (i := 377) (by decide +kernel), List.mem_of_getElem? (i := 378) (by decide +kernel)⟩
theorem lw_p7 : lw_okq (⟨"DoubtfulTrunks$State", "takeFee", "(I)V"⟩, 9) := ⟨⟨by decide +kernel, by decide +kernel⟩, List.mem_of_getElem? (i := 21) (by decide +kernel), List.mem_of_getElem? (i := 381) (by decide +kernel), List.mem_of_getElem? (i := 382) (by decide +kernel)⟩
theorem lw_p8 : lw_okq (⟨"DoubtfulTrunks$State", "takeDelays", "()V"⟩, 9) := ⟨⟨by decide +kernel, by decide +kernel⟩, List.mem_of_getElem? (i := 21) (by decide +kernel), List.mem_of_getElem? (i := 385) (by decide +kernel), List.mem_of_getElem? (i := 386) (by decide +kernel)⟩
theorem lw_p9 : lw_okq (⟨"DoubtfulTrunks", "turnsUntilGone", "(I)I"⟩, 6) := ⟨⟨by decide +kernel, by decide +kernel⟩, List.mem_of_getElem? (i := 13) (by decide +kernel), List.mem_of_getElem? (i := 445) (by decide +kernel), List.mem_of_getElem? (i := 446) (by decide +kernel)⟩
theorem lw_p10 : lw_okq (⟨"DoubtfulTrunksModel", "sets", "(II)I"⟩, 7) := ⟨⟨by decide +kernel, by decide +kernel⟩, List.mem_of_getElem? (i := 513) (by decide +kernel), List.mem_of_getElem? (i := 560) (by decide +kernel), List.mem_of_getElem? (i := 561) (by decide +kernel)⟩
theorem lw_p11 : lw_okq (⟨"DoubtfulTrunksModel", "changes", "()V"⟩, 7) := ⟨⟨by decide +kernel, by decide +kernel⟩, List.mem_of_getElem? (i := 513) (by decide +kernel), List.mem_of_getElem? (i := 564) (by decide +kernel), List.mem_of_getElem? (i := 565) (by decide +kernel)⟩
theorem lw_p12 : lw_okq (⟨"DoubtfulTrunksModel", "copies", "(II)V"⟩, 7) := ⟨⟨by decide +kernel, by decide +kernel⟩, List.mem_of_getElem? (i := 513) (by decide +kernel), List.mem_of_getElem? (i := 568) (by decide +kernel), List.mem_of_getElem? (i := 569) (by decide +kernel)⟩
theorem lw_p13 : lw_okq (⟨"DoubtfulTrunksModel", "isHere", "(II)Z"⟩, 7) := ⟨⟨by decide +kernel, by decide +kernel⟩, List.mem_of_getElem? (i := 513) (by decide +kernel), List.mem_of_getElem? (i := 601) (by decide +kernel), List.mem_of_getElem? (i := 602) (by decide +kernel)⟩
theorem lw_p14 : lw_okq (⟨"DoubtfulTrunksModel", "takesSign", "(I)Z"⟩, 7) := ⟨⟨by decide +kernel, by decide +kernel⟩, List.mem_of_getElem? (i := 513) (by decide +kernel), List.mem_of_getElem? (i := 605) (by decide +kernel), List.mem_of_getElem? (i := 606) (by decide +kernel)⟩
theorem lw_p15 : lw_okq (⟨"DoubtfulTrunksModel", "readsPaper", "()Z"⟩, 7) := ⟨⟨by decide +kernel, by decide +kernel⟩, List.mem_of_getElem? (i := 513) (by decide +kernel), List.mem_of_getElem? (i := 612) (by decide +kernel), List.mem_of_getElem? (i := 613) (by decide +kernel)⟩
def lw_privs_1 : List (MethodName × Nat) := [(⟨"DoubtfulTrunks$Pad", "isNext", "(CC)Z"⟩, 5), (⟨"DoubtfulTrunks$Pad", "skips", "(C)Z"⟩, 5), (⟨"DoubtfulTrunks$Pad", "readPaper", "(I)Z"⟩, 5), (⟨"DoubtfulTrunks$State", "actAtTop", "()V"⟩, 9), (⟨"DoubtfulTrunks$State", "letPass", "(ILDoubtfulTrunks$Desk;I)V"⟩, 9), (⟨"DoubtfulTrunks$State", "fine", "(I)V"⟩, 9), (⟨"DoubtfulTrunks$State", "actBelowTop", "(I)V"⟩, 9), (⟨"DoubtfulTrunks$State", "takeFee", "(I)V"⟩, 9), (⟨"DoubtfulTrunks$State", "takeDelays", "()V"⟩, 9), (⟨"DoubtfulTrunks", "turnsUntilGone", "(I)I"⟩, 6), (⟨"DoubtfulTrunksModel", "sets", "(II)I"⟩, 7), (⟨"DoubtfulTrunksModel", "changes", "()V"⟩, 7), (⟨"DoubtfulTrunksModel", "copies", "(II)V"⟩, 7), (⟨"DoubtfulTrunksModel", "isHere", "(II)Z"⟩, 7), (⟨"DoubtfulTrunksModel", "takesSign", "(I)Z"⟩, 7), (⟨"DoubtfulTrunksModel", "readsPaper", "()Z"⟩, 7)]
theorem lw_r1 : ∀ q ∈ lw_privs_1, lw_okq q := List.forall_mem_cons.mpr ⟨lw_p0, List.forall_mem_cons.mpr ⟨lw_p1, List.forall_mem_cons.mpr ⟨lw_p2, List.forall_mem_cons.mpr ⟨lw_p3, List.forall_mem_cons.mpr ⟨lw_p4, List.forall_mem_cons.mpr ⟨lw_p5, List.forall_mem_cons.mpr ⟨lw_p6, List.forall_mem_cons.mpr ⟨lw_p7, List.forall_mem_cons.mpr ⟨lw_p8, List.forall_mem_cons.mpr ⟨lw_p9, List.forall_mem_cons.mpr ⟨lw_p10, List.forall_mem_cons.mpr ⟨lw_p11, List.forall_mem_cons.mpr ⟨lw_p12, List.forall_mem_cons.mpr ⟨lw_p13, List.forall_mem_cons.mpr ⟨lw_p14, List.forall_mem_cons.mpr ⟨lw_p15, fun _ h => absurd h List.not_mem_nil⟩⟩⟩⟩⟩⟩⟩⟩⟩⟩⟩⟩⟩⟩⟩⟩
theorem lw_p16 : lw_okq (⟨"DoubtfulTrunksModel", "waiting", "()I"⟩, 7) := ⟨⟨by decide +kernel, by decide +kernel⟩, List.mem_of_getElem? (i := 513) (by decide +kernel), List.mem_of_getElem? (i := 619) (by decide +kernel), List.mem_of_getElem? (i := 620) (by decide +kernel)⟩
theorem lw_p17 : lw_okq (⟨"DoubtfulTrunksModel", "joins", "(III)V"⟩, 7) := ⟨⟨by decide +kernel, by decide +kernel⟩, List.mem_of_getElem? (i := 513) (by decide +kernel), List.mem_of_getElem? (i := 626) (by decide +kernel), List.mem_of_getElem? (i := 627) (by decide +kernel)⟩
theorem lw_p18 : lw_okq (⟨"DoubtfulTrunksModel", "isWaiting", "(I)Z"⟩, 7) := ⟨⟨by decide +kernel, by decide +kernel⟩, List.mem_of_getElem? (i := 513) (by decide +kernel), List.mem_of_getElem? (i := 637) (by decide +kernel), List.mem_of_getElem? (i := 638) (by decide +kernel)⟩
theorem lw_p19 : lw_okq (⟨"DoubtfulTrunksModel", "isTrunk", "(I)Z"⟩, 7) := ⟨⟨by decide +kernel, by decide +kernel⟩, List.mem_of_getElem? (i := 513) (by decide +kernel), List.mem_of_getElem? (i := 641) (by decide +kernel), List.mem_of_getElem? (i := 642) (by decide +kernel)⟩
theorem lw_p20 : lw_okq (⟨"DoubtfulTrunksModel", "doubt", "(II)I"⟩, 7) := ⟨⟨by decide +kernel, by decide +kernel⟩, List.mem_of_getElem? (i := 513) (by decide +kernel), List.mem_of_getElem? (i := 648) (by decide +kernel), List.mem_of_getElem? (i := 649) (by decide +kernel)⟩
theorem lw_p21 : lw_okq (⟨"DoubtfulTrunksModel", "disagreeing", "(II)I"⟩, 7) := ⟨⟨by decide +kernel, by decide +kernel⟩, List.mem_of_getElem? (i := 513) (by decide +kernel), List.mem_of_getElem? (i := 652) (by decide +kernel), List.mem_of_getElem? (i := 653) (by decide +kernel)⟩
theorem lw_p22 : lw_okq (⟨"DoubtfulTrunksModel", "differs", "(III)I"⟩, 7) := ⟨⟨by decide +kernel, by decide +kernel⟩, List.mem_of_getElem? (i := 513) (by decide +kernel), List.mem_of_getElem? (i := 656) (by decide +kernel), List.mem_of_getElem? (i := 657) (by decide +kernel)⟩
theorem lw_p23 : lw_okq (⟨"DoubtfulTrunksModel", "deskOf", "(I)I"⟩, 7) := ⟨⟨by decide +kernel, by decide +kernel⟩, List.mem_of_getElem? (i := 513) (by decide +kernel), List.mem_of_getElem? (i := 664) (by decide +kernel), List.mem_of_getElem? (i := 665) (by decide +kernel)⟩
theorem lw_p24 : lw_okq (⟨"DoubtfulTrunksModel", "placeIn", "(II)I"⟩, 7) := ⟨⟨by decide +kernel, by decide +kernel⟩, List.mem_of_getElem? (i := 513) (by decide +kernel), List.mem_of_getElem? (i := 668) (by decide +kernel), List.mem_of_getElem? (i := 669) (by decide +kernel)⟩
theorem lw_p25 : lw_okq (⟨"DoubtfulTrunksModel", "removes", "(III)V"⟩, 7) := ⟨⟨by decide +kernel, by decide +kernel⟩, List.mem_of_getElem? (i := 513) (by decide +kernel), List.mem_of_getElem? (i := 672) (by decide +kernel), List.mem_of_getElem? (i := 673) (by decide +kernel)⟩
theorem lw_p26 : lw_okq (⟨"DoubtfulTrunksModel", "turnsBy", "(II)I"⟩, 7) := ⟨⟨by decide +kernel, by decide +kernel⟩, List.mem_of_getElem? (i := 513) (by decide +kernel), List.mem_of_getElem? (i := 681) (by decide +kernel), List.mem_of_getElem? (i := 682) (by decide +kernel)⟩
theorem lw_p27 : lw_okq (⟨"DoubtfulTrunksModel", "gone", "(I)I"⟩, 7) := ⟨⟨by decide +kernel, by decide +kernel⟩, List.mem_of_getElem? (i := 513) (by decide +kernel), List.mem_of_getElem? (i := 685) (by decide +kernel), List.mem_of_getElem? (i := 686) (by decide +kernel)⟩
theorem lw_p28 : lw_okq (⟨"DoubtfulTrunksModel", "turn1", "(I)V"⟩, 7) := ⟨⟨by decide +kernel, by decide +kernel⟩, List.mem_of_getElem? (i := 513) (by decide +kernel), List.mem_of_getElem? (i := 689) (by decide +kernel), List.mem_of_getElem? (i := 690) (by decide +kernel)⟩
theorem lw_p29 : lw_okq (⟨"DoubtfulTrunksModel", "looks", "(III)Z"⟩, 7) := ⟨⟨by decide +kernel, by decide +kernel⟩, List.mem_of_getElem? (i := 513) (by decide +kernel), List.mem_of_getElem? (i := 693) (by decide +kernel), List.mem_of_getElem? (i := 694) (by decide +kernel)⟩
theorem lw_p30 : lw_okq (⟨"DoubtfulTrunksModel", "passes", "(IIII)V"⟩, 7) := ⟨⟨by decide +kernel, by decide +kernel⟩, List.mem_of_getElem? (i := 513) (by decide +kernel), List.mem_of_getElem? (i := 697) (by decide +kernel), List.mem_of_getElem? (i := 698) (by decide +kernel)⟩
theorem lw_p31 : lw_okq (⟨"DoubtfulTrunksModel", "takes", "(IIII)V"⟩, 7) := ⟨⟨by decide +kernel, by decide +kernel⟩, List.mem_of_getElem? (i := 513) (by decide +kernel), List.mem_of_getElem? (i := 701) (by decide +kernel), List.mem_of_getElem? (i := 702) (by decide +kernel)⟩
def lw_privs_2 : List (MethodName × Nat) := [(⟨"DoubtfulTrunksModel", "waiting", "()I"⟩, 7), (⟨"DoubtfulTrunksModel", "joins", "(III)V"⟩, 7), (⟨"DoubtfulTrunksModel", "isWaiting", "(I)Z"⟩, 7), (⟨"DoubtfulTrunksModel", "isTrunk", "(I)Z"⟩, 7), (⟨"DoubtfulTrunksModel", "doubt", "(II)I"⟩, 7), (⟨"DoubtfulTrunksModel", "disagreeing", "(II)I"⟩, 7), (⟨"DoubtfulTrunksModel", "differs", "(III)I"⟩, 7), (⟨"DoubtfulTrunksModel", "deskOf", "(I)I"⟩, 7), (⟨"DoubtfulTrunksModel", "placeIn", "(II)I"⟩, 7), (⟨"DoubtfulTrunksModel", "removes", "(III)V"⟩, 7), (⟨"DoubtfulTrunksModel", "turnsBy", "(II)I"⟩, 7), (⟨"DoubtfulTrunksModel", "gone", "(I)I"⟩, 7), (⟨"DoubtfulTrunksModel", "turn1", "(I)V"⟩, 7), (⟨"DoubtfulTrunksModel", "looks", "(III)Z"⟩, 7), (⟨"DoubtfulTrunksModel", "passes", "(IIII)V"⟩, 7), (⟨"DoubtfulTrunksModel", "takes", "(IIII)V"⟩, 7)]
theorem lw_r2 : ∀ q ∈ lw_privs_2, lw_okq q := List.forall_mem_cons.mpr ⟨lw_p16, List.forall_mem_cons.mpr ⟨lw_p17, List.forall_mem_cons.mpr ⟨lw_p18, List.forall_mem_cons.mpr ⟨lw_p19, List.forall_mem_cons.mpr ⟨lw_p20, List.forall_mem_cons.mpr ⟨lw_p21, List.forall_mem_cons.mpr ⟨lw_p22, List.forall_mem_cons.mpr ⟨lw_p23, List.forall_mem_cons.mpr ⟨lw_p24, List.forall_mem_cons.mpr ⟨lw_p25, List.forall_mem_cons.mpr ⟨lw_p26, List.forall_mem_cons.mpr ⟨lw_p27, List.forall_mem_cons.mpr ⟨lw_p28, List.forall_mem_cons.mpr ⟨lw_p29, List.forall_mem_cons.mpr ⟨lw_p30, List.forall_mem_cons.mpr ⟨lw_p31, fun _ h => absurd h List.not_mem_nil⟩⟩⟩⟩⟩⟩⟩⟩⟩⟩⟩⟩⟩⟩⟩⟩
theorem lw_p32 : lw_okq (⟨"DoubtfulTrunksModel", "opens", "(II)V"⟩, 7) := ⟨⟨by decide +kernel, by decide +kernel⟩, List.mem_of_getElem? (i := 513) (by decide +kernel), List.mem_of_getElem? (i := 705) (by decide +kernel), List.mem_of_getElem? (i := 706) (by decide +kernel)⟩
theorem lw_p33 : lw_okq (⟨"DoubtfulTrunksModel", "beyondTare", "(I)I"⟩, 7) := ⟨⟨by decide +kernel, by decide +kernel⟩, List.mem_of_getElem? (i := 513) (by decide +kernel), List.mem_of_getElem? (i := 721) (by decide +kernel), List.mem_of_getElem? (i := 722) (by decide +kernel)⟩
theorem lw_p34 : lw_okq (⟨"DoubtfulTrunksModel", "doubtsAt", "(I)I"⟩, 7) := ⟨⟨by decide +kernel, by decide +kernel⟩, List.mem_of_getElem? (i := 513) (by decide +kernel), List.mem_of_getElem? (i := 729) (by decide +kernel), List.mem_of_getElem? (i := 730) (by decide +kernel)⟩
theorem lw_p35 : lw_okq (⟨"DoubtfulTrunksModel", "taken", "(I)I"⟩, 7) := ⟨⟨by decide +kernel, by decide +kernel⟩, List.mem_of_getElem? (i := 513) (by decide +kernel), List.mem_of_getElem? (i := 738) (by decide +kernel), List.mem_of_getElem? (i := 739) (by decide +kernel)⟩
theorem lw_p36 : lw_okq (⟨"DoubtfulTrunksModel", "turnsTo", "(I)I"⟩, 7) := ⟨⟨by decide +kernel, by decide +kernel⟩, List.mem_of_getElem? (i := 513) (by decide +kernel), List.mem_of_getElem? (i := 746) (by decide +kernel), List.mem_of_getElem? (i := 747) (by decide +kernel)⟩
def lw_privs_3 : List (MethodName × Nat) := [(⟨"DoubtfulTrunksModel", "opens", "(II)V"⟩, 7), (⟨"DoubtfulTrunksModel", "beyondTare", "(I)I"⟩, 7), (⟨"DoubtfulTrunksModel", "doubtsAt", "(I)I"⟩, 7), (⟨"DoubtfulTrunksModel", "taken", "(I)I"⟩, 7), (⟨"DoubtfulTrunksModel", "turnsTo", "(I)I"⟩, 7)]
theorem lw_r3 : ∀ q ∈ lw_privs_3, lw_okq q := List.forall_mem_cons.mpr ⟨lw_p32, List.forall_mem_cons.mpr ⟨lw_p33, List.forall_mem_cons.mpr ⟨lw_p34, List.forall_mem_cons.mpr ⟨lw_p35, List.forall_mem_cons.mpr ⟨lw_p36, fun _ h => absurd h List.not_mem_nil⟩⟩⟩⟩⟩
def lw_privs : List (MethodName × Nat) := lw_privs_1 ++ (lw_privs_2 ++ (lw_privs_3))
def lw_tbl : List Cond := k2_sels lw_privs ++ tables_1
theorem lw_privs_ok : ∀ q ∈ lw_privs, lw_okq q := by
  show ∀ q ∈ lw_privs_1 ++ (lw_privs_2 ++ (lw_privs_3)), lw_okq q
  exact List.forall_mem_append.mpr ⟨lw_r1, List.forall_mem_append.mpr ⟨lw_r2, lw_r3⟩⟩

def RX0 : String := "DoubtfulTrunks$Desk"
def TX0 : u_T := fun k => match k with
  | 0 => ("DoubtfulTrunks$Desk", "queue", "[I", true)
  | 1 => ("DoubtfulTrunks$Desk", "waiting", "I", false)
  | 2 => ("DoubtfulTrunks$Desk", "handCount", "I", false)
  | 3 => ("DoubtfulTrunks$Desk", "looks", "I", false)
  | _ => ("DoubtfulTrunks$Desk", "passes", "I", false)
def tyX0 : Nat → FieldType := fun k => match k with
  | 0 => .array .int
  | 1 => .int
  | 2 => .int
  | 3 => .int
  | _ => .int
abbrev wsX00 : List Cond := u_ws RX0 TX0 5
theorem nmX0 : ∀ a, a < 5 → ∀ b, b < 5 → a ≠ b → (TX0 a).2.1 ≠ (TX0 b).2.1 := by decide +kernel
theorem tyX0_ok : ∀ k, k < 5 → parseFieldDescriptor (TX0 k).2.2.1 = some (tyX0 k) := by decide +kernel
abbrev cX0_init : ByteArray := prog_2_method_1_code
def yX0_init : MethodName := ⟨RX0, "<init>", "()V"⟩
abbrev cX0_append : ByteArray := prog_2_method_2_code
def yX0_append : MethodName := ⟨RX0, "append", "(I)V"⟩
abbrev cX0_placeOf : ByteArray := prog_2_method_3_code
def yX0_placeOf : MethodName := ⟨RX0, "placeOf", "(I)I"⟩
abbrev cX0_dismiss : ByteArray := prog_2_method_4_code
def yX0_dismiss : MethodName := ⟨RX0, "dismiss", "(I)V"⟩
abbrev cX0_copyFrom : ByteArray := prog_2_method_5_code
def yX0_copyFrom : MethodName := ⟨RX0, "copyFrom", "(LDoubtfulTrunks$Desk;)V"⟩
def RX1 : String := "DoubtfulTrunks$History"
def TX1 : u_T := fun k => match k with
  | 0 => ("DoubtfulTrunks$History", "rows", "[LDoubtfulTrunks$State;", true)
  | 1 => ("DoubtfulTrunks$History", "oldest", "I", false)
  | _ => ("DoubtfulTrunks$History", "size", "I", false)
def tyX1 : Nat → FieldType := fun k => match k with
  | 0 => .array (.object "DoubtfulTrunks$State")
  | 1 => .int
  | _ => .int
abbrev wsX10 : List Cond := u_ws RX1 TX1 3
theorem nmX1 : ∀ a, a < 3 → ∀ b, b < 3 → a ≠ b → (TX1 a).2.1 ≠ (TX1 b).2.1 := by decide +kernel
theorem tyX1_ok : ∀ k, k < 3 → parseFieldDescriptor (TX1 k).2.2.1 = some (tyX1 k) := by decide +kernel
abbrev cX1_init : ByteArray := prog_3_method_1_code
def yX1_init : MethodName := ⟨RX1, "<init>", "()V"⟩
abbrev cX1_keep : ByteArray := prog_3_method_2_code
def yX1_keep : MethodName := ⟨RX1, "keep", "(LDoubtfulTrunks$State;)V"⟩
abbrev cX1_takeBack : ByteArray := prog_3_method_3_code
def yX1_takeBack : MethodName := ⟨RX1, "takeBack", "(LDoubtfulTrunks$State;)V"⟩
def RX2 : String := "DoubtfulTrunks$Pad"
def TX2 : u_T := fun k => match k with
  | 0 => ("DoubtfulTrunks$Pad", "signs", "[C", true)
  | 1 => ("DoubtfulTrunks$Pad", "length", "I", false)
  | 2 => ("DoubtfulTrunks$Pad", "country", "I", false)
  | 3 => ("DoubtfulTrunks$Pad", "papers", "[I", true)
  | _ => ("DoubtfulTrunks$Pad", "at", "I", false)
def tyX2 : Nat → FieldType := fun k => match k with
  | 0 => .array .char
  | 1 => .int
  | 2 => .int
  | 3 => .array .int
  | _ => .int
abbrev wsX20 : List Cond := u_ws RX2 TX2 5
theorem nmX2 : ∀ a, a < 5 → ∀ b, b < 5 → a ≠ b → (TX2 a).2.1 ≠ (TX2 b).2.1 := by decide +kernel
theorem tyX2_ok : ∀ k, k < 5 → parseFieldDescriptor (TX2 k).2.2.1 = some (tyX2 k) := by decide +kernel
abbrev cX2_init : ByteArray := prog_4_method_1_code
def yX2_init : MethodName := ⟨RX2, "<init>", "()V"⟩
abbrev cX2_append : ByteArray := prog_4_method_2_code
def yX2_append : MethodName := ⟨RX2, "append", "(C)V"⟩
abbrev cX2_findFault : ByteArray := prog_4_method_3_code
def yX2_findFault : MethodName := ⟨RX2, "findFault", "()I"⟩
abbrev cX2_isNext : ByteArray := prog_4_method_4_code
def yX2_isNext : MethodName := ⟨RX2, "isNext", "(CC)Z"⟩
abbrev cX2_skips : ByteArray := prog_4_method_5_code
def yX2_skips : MethodName := ⟨RX2, "skips", "(C)Z"⟩
abbrev cX2_readPaper : ByteArray := prog_4_method_6_code
def yX2_readPaper : MethodName := ⟨RX2, "readPaper", "(I)Z"⟩
def RX3 : String := "DoubtfulTrunks$Sheet"
def TX3 : u_T := fun k => match k with
  | _ => ("", "", "", false)
def tyX3 : Nat → FieldType := fun k => match k with
  | _ => .int
abbrev wsX30 : List Cond := u_ws RX3 TX3 0
theorem nmX3 : ∀ a, a < 0 → ∀ b, b < 0 → a ≠ b → (TX3 a).2.1 ≠ (TX3 b).2.1 := by decide +kernel
theorem tyX3_ok : ∀ k, k < 0 → parseFieldDescriptor (TX3 k).2.2.1 = some (tyX3 k) := by decide +kernel
abbrev cX3_piecesOf : ByteArray := prog_5_method_2_code
def yX3_piecesOf : MethodName := ⟨RX3, "piecesOf", "(II)I"⟩
abbrev cX3_withPieces : ByteArray := prog_5_method_3_code
def yX3_withPieces : MethodName := ⟨RX3, "withPieces", "(III)I"⟩
def RX4 : String := "DoubtfulTrunks$State"
def TX4 : u_T := fun k => match k with
  | 0 => ("DoubtfulTrunks$State", "settings", "[I", true)
  | 1 => ("DoubtfulTrunks$State", "weights", "[I", true)
  | 2 => ("DoubtfulTrunks$State", "trusts", "[I", true)
  | 3 => ("DoubtfulTrunks$State", "desks", "[LDoubtfulTrunks$Desk;", true)
  | 4 => ("DoubtfulTrunks$State", "trunks", "LDoubtfulTrunks$Trunks;", true)
  | 5 => ("DoubtfulTrunks$State", "turnsMade", "I", false)
  | 6 => ("DoubtfulTrunks$State", "fees", "I", false)
  | 7 => ("DoubtfulTrunks$State", "fines", "I", false)
  | _ => ("DoubtfulTrunks$State", "delays", "I", false)
def tyX4 : Nat → FieldType := fun k => match k with
  | 0 => .array .int
  | 1 => .array .int
  | 2 => .array .int
  | 3 => .array (.object "DoubtfulTrunks$Desk")
  | 4 => .object "DoubtfulTrunks$Trunks"
  | 5 => .int
  | 6 => .int
  | 7 => .int
  | _ => .int
abbrev wsX40 : List Cond := u_ws RX4 TX4 9
theorem nmX4 : ∀ a, a < 9 → ∀ b, b < 9 → a ≠ b → (TX4 a).2.1 ≠ (TX4 b).2.1 := by decide +kernel
theorem tyX4_ok : ∀ k, k < 9 → parseFieldDescriptor (TX4 k).2.2.1 = some (tyX4 k) := by decide +kernel
abbrev cX4_init : ByteArray := prog_6_method_1_code
def yX4_init : MethodName := ⟨RX4, "<init>", "()V"⟩
abbrev cX4_hasCome : ByteArray := prog_6_method_2_code
def yX4_hasCome : MethodName := ⟨RX4, "hasCome", "(I)Z"⟩
abbrev cX4_isWaiting : ByteArray := prog_6_method_3_code
def yX4_isWaiting : MethodName := ⟨RX4, "isWaiting", "(I)Z"⟩
abbrev cX4_waitingTrunks : ByteArray := prog_6_method_4_code
def yX4_waitingTrunks : MethodName := ⟨RX4, "waitingTrunks", "()I"⟩
abbrev cX4_taken : ByteArray := prog_6_method_5_code
def yX4_taken : MethodName := ⟨RX4, "taken", "()I"⟩
abbrev cX4_deskOf : ByteArray := prog_6_method_6_code
def yX4_deskOf : MethodName := ⟨RX4, "deskOf", "(I)I"⟩
abbrev cX4_placeOf : ByteArray := prog_6_method_7_code
def yX4_placeOf : MethodName := ⟨RX4, "placeOf", "(I)I"⟩
abbrev cX4_doubtOf : ByteArray := prog_6_method_8_code
def yX4_doubtOf : MethodName := ⟨RX4, "doubtOf", "(I)I"⟩
abbrev cX4_doubtsAt : ByteArray := prog_6_method_9_code
def yX4_doubtsAt : MethodName := ⟨RX4, "doubtsAt", "(I)I"⟩
abbrev cX4_greatestDoubtAt : ByteArray := prog_6_method_10_code
def yX4_greatestDoubtAt : MethodName := ⟨RX4, "greatestDoubtAt", "(I)I"⟩
abbrev cX4_admit : ByteArray := prog_6_method_11_code
def yX4_admit : MethodName := ⟨RX4, "admit", "(I[I)I"⟩
abbrev cX4_makeTurns : ByteArray := prog_6_method_12_code
def yX4_makeTurns : MethodName := ⟨RX4, "makeTurns", "(I)I"⟩
abbrev cX4_makeTurn : ByteArray := prog_6_method_13_code
def yX4_makeTurn : MethodName := ⟨RX4, "makeTurn", "()I"⟩
abbrev cX4_actAtTop : ByteArray := prog_6_method_14_code
def yX4_actAtTop : MethodName := ⟨RX4, "actAtTop", "()V"⟩
abbrev cX4_actBelowTop : ByteArray := prog_6_method_15_code
def yX4_actBelowTop : MethodName := ⟨RX4, "actBelowTop", "(I)V"⟩
abbrev cX4_letPass : ByteArray := prog_6_method_16_code
def yX4_letPass : MethodName := ⟨RX4, "letPass", "(ILDoubtfulTrunks$Desk;I)V"⟩
abbrev cX4_takeFee : ByteArray := prog_6_method_17_code
def yX4_takeFee : MethodName := ⟨RX4, "takeFee", "(I)V"⟩
abbrev cX4_fine : ByteArray := prog_6_method_18_code
def yX4_fine : MethodName := ⟨RX4, "fine", "(I)V"⟩
abbrev cX4_takeDelays : ByteArray := prog_6_method_19_code
def yX4_takeDelays : MethodName := ⟨RX4, "takeDelays", "()V"⟩
abbrev cX4_copyFrom : ByteArray := prog_6_method_20_code
def yX4_copyFrom : MethodName := ⟨RX4, "copyFrom", "(LDoubtfulTrunks$State;)V"⟩
def RX5 : String := "DoubtfulTrunks$Trunks"
def TX5 : u_T := fun k => match k with
  | 0 => ("DoubtfulTrunks$Trunks", "came", "I", false)
  | 1 => ("DoubtfulTrunks$Trunks", "countries", "[I", true)
  | 2 => ("DoubtfulTrunks$Trunks", "papers", "[[I", true)
  | 3 => ("DoubtfulTrunks$Trunks", "accounts", "[I", true)
  | 4 => ("DoubtfulTrunks$Trunks", "arrivals", "[I", true)
  | 5 => ("DoubtfulTrunks$Trunks", "fates", "[I", true)
  | 6 => ("DoubtfulTrunks$Trunks", "finedKinds", "[I", true)
  | _ => ("DoubtfulTrunks$Trunks", "handOns", "[I", true)
def tyX5 : Nat → FieldType := fun k => match k with
  | 0 => .int
  | 1 => .array .int
  | 2 => .array (.array .int)
  | 3 => .array .int
  | 4 => .array .int
  | 5 => .array .int
  | 6 => .array .int
  | _ => .array .int
abbrev wsX50 : List Cond := u_ws RX5 TX5 8
theorem nmX5 : ∀ a, a < 8 → ∀ b, b < 8 → a ≠ b → (TX5 a).2.1 ≠ (TX5 b).2.1 := by decide +kernel
theorem tyX5_ok : ∀ k, k < 8 → parseFieldDescriptor (TX5 k).2.2.1 = some (tyX5 k) := by decide +kernel
abbrev cX5_init : ByteArray := prog_7_method_1_code
def yX5_init : MethodName := ⟨RX5, "<init>", "()V"⟩
abbrev cX5_add : ByteArray := prog_7_method_2_code
def yX5_add : MethodName := ⟨RX5, "add", "(I[II)V"⟩
abbrev cX5_difference : ByteArray := prog_7_method_3_code
def yX5_difference : MethodName := ⟨RX5, "difference", "(II)I"⟩
abbrev cX5_disagreements : ByteArray := prog_7_method_4_code
def yX5_disagreements : MethodName := ⟨RX5, "disagreements", "(II)I"⟩
abbrev cX5_sumBeyond : ByteArray := prog_7_method_5_code
def yX5_sumBeyond : MethodName := ⟨RX5, "sumBeyond", "(II)I"⟩
abbrev cX5_hiddenKinds : ByteArray := prog_7_method_6_code
def yX5_hiddenKinds : MethodName := ⟨RX5, "hiddenKinds", "(I)I"⟩
abbrev cX5_countWithFate : ByteArray := prog_7_method_7_code
def yX5_countWithFate : MethodName := ⟨RX5, "countWithFate", "(I)I"⟩
abbrev cX5_countOpenedUnfined : ByteArray := prog_7_method_8_code
def yX5_countOpenedUnfined : MethodName := ⟨RX5, "countOpenedUnfined", "()I"⟩
abbrev cX5_copyFrom : ByteArray := prog_7_method_9_code
def yX5_copyFrom : MethodName := ⟨RX5, "copyFrom", "(LDoubtfulTrunks$Trunks;)V"⟩
def RX6 : String := "DoubtfulTrunks"
def TX6 : u_T := fun k => match k with
  | 0 => ("DoubtfulTrunks", "now", "LDoubtfulTrunks$State;", true)
  | 1 => ("DoubtfulTrunks", "trial", "LDoubtfulTrunks$State;", true)
  | 2 => ("DoubtfulTrunks", "history", "LDoubtfulTrunks$History;", true)
  | 3 => ("DoubtfulTrunks", "slots", "[LDoubtfulTrunks$State;", true)
  | 4 => ("DoubtfulTrunks", "filled", "[Z", true)
  | _ => ("DoubtfulTrunks", "pad", "LDoubtfulTrunks$Pad;", true)
def tyX6 : Nat → FieldType := fun k => match k with
  | 0 => .object "DoubtfulTrunks$State"
  | 1 => .object "DoubtfulTrunks$State"
  | 2 => .object "DoubtfulTrunks$History"
  | 3 => .array (.object "DoubtfulTrunks$State")
  | 4 => .array .boolean
  | _ => .object "DoubtfulTrunks$Pad"
abbrev wsX60 : List Cond := u_ws RX6 TX6 6
theorem nmX6 : ∀ a, a < 6 → ∀ b, b < 6 → a ≠ b → (TX6 a).2.1 ≠ (TX6 b).2.1 := by decide +kernel
theorem tyX6_ok : ∀ k, k < 6 → parseFieldDescriptor (TX6 k).2.2.1 = some (tyX6 k) := by decide +kernel
abbrev cX6_init : ByteArray := prog_1_method_1_code
def yX6_init : MethodName := ⟨RX6, "<init>", "()V"⟩
abbrev cX6_set : ByteArray := prog_1_method_2_code
def yX6_set : MethodName := ⟨RX6, "set", "(II)I"⟩
abbrev cX6_weight : ByteArray := prog_1_method_3_code
def yX6_weight : MethodName := ⟨RX6, "weight", "(II)I"⟩
abbrev cX6_trust : ByteArray := prog_1_method_4_code
def yX6_trust : MethodName := ⟨RX6, "trust", "(II)I"⟩
abbrev cX6_hands : ByteArray := prog_1_method_5_code
def yX6_hands : MethodName := ⟨RX6, "hands", "(II)I"⟩
abbrev cX6_read : ByteArray := prog_1_method_6_code
def yX6_read : MethodName := ⟨RX6, "read", "()I"⟩
abbrev cX6_mend : ByteArray := prog_1_method_7_code
def yX6_mend : MethodName := ⟨RX6, "mend", "(IIII)I"⟩
abbrev cX6_sendBack : ByteArray := prog_1_method_8_code
def yX6_sendBack : MethodName := ⟨RX6, "sendBack", "(I)I"⟩
abbrev cX6_turn : ByteArray := prog_1_method_9_code
def yX6_turn : MethodName := ⟨RX6, "turn", "(I)I"⟩
abbrev cX6_trunk : ByteArray := prog_1_method_10_code
def yX6_trunk : MethodName := ⟨RX6, "trunk", "(II)I"⟩
abbrev cX6_pieces : ByteArray := prog_1_method_11_code
def yX6_pieces : MethodName := ⟨RX6, "pieces", "(III)I"⟩
abbrev cX6_alike : ByteArray := prog_1_method_12_code
def yX6_alike : MethodName := ⟨RX6, "alike", "(II)I"⟩
abbrev cX6_desk : ByteArray := prog_1_method_13_code
def yX6_desk : MethodName := ⟨RX6, "desk", "(II)I"⟩
abbrev cX6_count : ByteArray := prog_1_method_14_code
def yX6_count : MethodName := ⟨RX6, "count", "(I)I"⟩
abbrev cX6_untilGone : ByteArray := prog_1_method_15_code
def yX6_untilGone : MethodName := ⟨RX6, "untilGone", "(I)I"⟩
abbrev cX6_fate : ByteArray := prog_1_method_16_code
def yX6_fate : MethodName := ⟨RX6, "fate", "(I)I"⟩
abbrev cX6_mostDoubted : ByteArray := prog_1_method_17_code
def yX6_mostDoubted : MethodName := ⟨RX6, "mostDoubted", "()I"⟩
abbrev cX6_ifTurned : ByteArray := prog_1_method_18_code
def yX6_ifTurned : MethodName := ⟨RX6, "ifTurned", "(II)I"⟩
abbrev cX6_bestHand : ByteArray := prog_1_method_19_code
def yX6_bestHand : MethodName := ⟨RX6, "bestHand", "()I"⟩
abbrev cX6_leastSmall : ByteArray := prog_1_method_20_code
def yX6_leastSmall : MethodName := ⟨RX6, "leastSmall", "()I"⟩
abbrev cX6_put : ByteArray := prog_1_method_21_code
def yX6_put : MethodName := ⟨RX6, "put", "(J)I"⟩
abbrev cX6_wipe : ByteArray := prog_1_method_22_code
def yX6_wipe : MethodName := ⟨RX6, "wipe", "()I"⟩
abbrev cX6_fault : ByteArray := prog_1_method_23_code
def yX6_fault : MethodName := ⟨RX6, "fault", "()I"⟩
abbrev cX6_undo : ByteArray := prog_1_method_24_code
def yX6_undo : MethodName := ⟨RX6, "undo", "()I"⟩
abbrev cX6_save : ByteArray := prog_1_method_25_code
def yX6_save : MethodName := ⟨RX6, "save", "(I)I"⟩
abbrev cX6_restore : ByteArray := prog_1_method_26_code
def yX6_restore : MethodName := ⟨RX6, "restore", "(I)I"⟩
abbrev cX6_isWithin : ByteArray := prog_1_method_27_code
def yX6_isWithin : MethodName := ⟨RX6, "isWithin", "(III)Z"⟩
abbrev cX6_turnsUntilGone : ByteArray := prog_1_method_28_code
def yX6_turnsUntilGone : MethodName := ⟨RX6, "turnsUntilGone", "(I)I"⟩
def RX7 : String := "DoubtfulTrunksModel"
def TX7 : u_T := fun k => match k with
  | 0 => ("DoubtfulTrunksModel", "s", "[I", true)
  | 1 => ("DoubtfulTrunksModel", "states", "I", false)
  | 2 => ("DoubtfulTrunksModel", "isSaved", "[Z", true)
  | 3 => ("DoubtfulTrunksModel", "text", "[I", true)
  | 4 => ("DoubtfulTrunksModel", "typed", "I", false)
  | 5 => ("DoubtfulTrunksModel", "spot", "I", false)
  | _ => ("DoubtfulTrunksModel", "paper", "I", false)
def tyX7 : Nat → FieldType := fun k => match k with
  | 0 => .array .int
  | 1 => .int
  | 2 => .array .boolean
  | 3 => .array .int
  | 4 => .int
  | 5 => .int
  | _ => .int
abbrev wsX70 : List Cond := u_ws RX7 TX7 7
theorem nmX7 : ∀ a, a < 7 → ∀ b, b < 7 → a ≠ b → (TX7 a).2.1 ≠ (TX7 b).2.1 := by decide +kernel
theorem tyX7_ok : ∀ k, k < 7 → parseFieldDescriptor (TX7 k).2.2.1 = some (tyX7 k) := by decide +kernel
abbrev cX7_init : ByteArray := prog_9_method_1_code
def yX7_init : MethodName := ⟨RX7, "<init>", "()V"⟩
abbrev cX7_in : ByteArray := prog_9_method_3_code
def yX7_in : MethodName := ⟨RX7, "in", "(JJJ)Z"⟩
abbrev cX7_flag : ByteArray := prog_9_method_4_code
def yX7_flag : MethodName := ⟨RX7, "flag", "(Z)I"⟩
abbrev cX7_copies : ByteArray := prog_9_method_5_code
def yX7_copies : MethodName := ⟨RX7, "copies", "(II)V"⟩
abbrev cX7_changes : ByteArray := prog_9_method_6_code
def yX7_changes : MethodName := ⟨RX7, "changes", "()V"⟩
abbrev cX7_sets : ByteArray := prog_9_method_7_code
def yX7_sets : MethodName := ⟨RX7, "sets", "(II)I"⟩
abbrev cX7_deskAt : ByteArray := prog_9_method_8_code
def yX7_deskAt : MethodName := ⟨RX7, "deskAt", "(II)I"⟩
abbrev cX7_queueAt : ByteArray := prog_9_method_9_code
def yX7_queueAt : MethodName := ⟨RX7, "queueAt", "(III)I"⟩
abbrev cX7_trunkAt : ByteArray := prog_9_method_10_code
def yX7_trunkAt : MethodName := ⟨RX7, "trunkAt", "(II)I"⟩
abbrev cX7_power : ByteArray := prog_9_method_11_code
def yX7_power : MethodName := ⟨RX7, "power", "(I)I"⟩
abbrev cX7_piecesOn : ByteArray := prog_9_method_12_code
def yX7_piecesOn : MethodName := ⟨RX7, "piecesOn", "(II)I"⟩
abbrev cX7_differs : ByteArray := prog_9_method_13_code
def yX7_differs : MethodName := ⟨RX7, "differs", "(III)I"⟩
abbrev cX7_disagreeing : ByteArray := prog_9_method_14_code
def yX7_disagreeing : MethodName := ⟨RX7, "disagreeing", "(II)I"⟩
abbrev cX7_doubt : ByteArray := prog_9_method_15_code
def yX7_doubt : MethodName := ⟨RX7, "doubt", "(II)I"⟩
abbrev cX7_takes : ByteArray := prog_9_method_16_code
def yX7_takes : MethodName := ⟨RX7, "takes", "(IIII)V"⟩
abbrev cX7_removes : ByteArray := prog_9_method_17_code
def yX7_removes : MethodName := ⟨RX7, "removes", "(III)V"⟩
abbrev cX7_joins : ByteArray := prog_9_method_18_code
def yX7_joins : MethodName := ⟨RX7, "joins", "(III)V"⟩
abbrev cX7_passes : ByteArray := prog_9_method_19_code
def yX7_passes : MethodName := ⟨RX7, "passes", "(IIII)V"⟩
abbrev cX7_opens : ByteArray := prog_9_method_20_code
def yX7_opens : MethodName := ⟨RX7, "opens", "(II)V"⟩
abbrev cX7_looks : ByteArray := prog_9_method_21_code
def yX7_looks : MethodName := ⟨RX7, "looks", "(III)Z"⟩
abbrev cX7_turn1 : ByteArray := prog_9_method_22_code
def yX7_turn1 : MethodName := ⟨RX7, "turn1", "(I)V"⟩
abbrev cX7_gone : ByteArray := prog_9_method_23_code
def yX7_gone : MethodName := ⟨RX7, "gone", "(I)I"⟩
abbrev cX7_turnsBy : ByteArray := prog_9_method_24_code
def yX7_turnsBy : MethodName := ⟨RX7, "turnsBy", "(II)I"⟩
abbrev cX7_isDesk : ByteArray := prog_9_method_25_code
def yX7_isDesk : MethodName := ⟨RX7, "isDesk", "(I)Z"⟩
abbrev cX7_isKind : ByteArray := prog_9_method_26_code
def yX7_isKind : MethodName := ⟨RX7, "isKind", "(I)Z"⟩
abbrev cX7_isTrunk : ByteArray := prog_9_method_27_code
def yX7_isTrunk : MethodName := ⟨RX7, "isTrunk", "(I)Z"⟩
abbrev cX7_isWaiting : ByteArray := prog_9_method_28_code
def yX7_isWaiting : MethodName := ⟨RX7, "isWaiting", "(I)Z"⟩
abbrev cX7_deskOf : ByteArray := prog_9_method_29_code
def yX7_deskOf : MethodName := ⟨RX7, "deskOf", "(I)I"⟩
abbrev cX7_placeIn : ByteArray := prog_9_method_30_code
def yX7_placeIn : MethodName := ⟨RX7, "placeIn", "(II)I"⟩
abbrev cX7_waiting : ByteArray := prog_9_method_31_code
def yX7_waiting : MethodName := ⟨RX7, "waiting", "()I"⟩
abbrev cX7_isValue : ByteArray := prog_9_method_32_code
def yX7_isValue : MethodName := ⟨RX7, "isValue", "(II)Z"⟩
abbrev cX7_set : ByteArray := prog_9_method_33_code
def yX7_set : MethodName := ⟨RX7, "set", "(II)I"⟩
abbrev cX7_weight : ByteArray := prog_9_method_34_code
def yX7_weight : MethodName := ⟨RX7, "weight", "(II)I"⟩
abbrev cX7_trust : ByteArray := prog_9_method_35_code
def yX7_trust : MethodName := ⟨RX7, "trust", "(II)I"⟩
abbrev cX7_hands : ByteArray := prog_9_method_36_code
def yX7_hands : MethodName := ⟨RX7, "hands", "(II)I"⟩
abbrev cX7_read : ByteArray := prog_9_method_37_code
def yX7_read : MethodName := ⟨RX7, "read", "()I"⟩
abbrev cX7_mend : ByteArray := prog_9_method_38_code
def yX7_mend : MethodName := ⟨RX7, "mend", "(IIII)I"⟩
abbrev cX7_sendBack : ByteArray := prog_9_method_39_code
def yX7_sendBack : MethodName := ⟨RX7, "sendBack", "(I)I"⟩
abbrev cX7_turn : ByteArray := prog_9_method_40_code
def yX7_turn : MethodName := ⟨RX7, "turn", "(I)I"⟩
abbrev cX7_trunk : ByteArray := prog_9_method_41_code
def yX7_trunk : MethodName := ⟨RX7, "trunk", "(II)I"⟩
abbrev cX7_pieces : ByteArray := prog_9_method_42_code
def yX7_pieces : MethodName := ⟨RX7, "pieces", "(III)I"⟩
abbrev cX7_beyondTare : ByteArray := prog_9_method_43_code
def yX7_beyondTare : MethodName := ⟨RX7, "beyondTare", "(I)I"⟩
abbrev cX7_alike : ByteArray := prog_9_method_44_code
def yX7_alike : MethodName := ⟨RX7, "alike", "(II)I"⟩
abbrev cX7_doubtsAt : ByteArray := prog_9_method_45_code
def yX7_doubtsAt : MethodName := ⟨RX7, "doubtsAt", "(I)I"⟩
abbrev cX7_desk : ByteArray := prog_9_method_46_code
def yX7_desk : MethodName := ⟨RX7, "desk", "(II)I"⟩
abbrev cX7_taken : ByteArray := prog_9_method_47_code
def yX7_taken : MethodName := ⟨RX7, "taken", "(I)I"⟩
abbrev cX7_count : ByteArray := prog_9_method_48_code
def yX7_count : MethodName := ⟨RX7, "count", "(I)I"⟩
abbrev cX7_turnsTo : ByteArray := prog_9_method_49_code
def yX7_turnsTo : MethodName := ⟨RX7, "turnsTo", "(I)I"⟩
abbrev cX7_untilGone : ByteArray := prog_9_method_50_code
def yX7_untilGone : MethodName := ⟨RX7, "untilGone", "(I)I"⟩
abbrev cX7_fate : ByteArray := prog_9_method_51_code
def yX7_fate : MethodName := ⟨RX7, "fate", "(I)I"⟩
abbrev cX7_mostDoubted : ByteArray := prog_9_method_52_code
def yX7_mostDoubted : MethodName := ⟨RX7, "mostDoubted", "()I"⟩
abbrev cX7_ifTurned : ByteArray := prog_9_method_53_code
def yX7_ifTurned : MethodName := ⟨RX7, "ifTurned", "(II)I"⟩
abbrev cX7_bestHand : ByteArray := prog_9_method_54_code
def yX7_bestHand : MethodName := ⟨RX7, "bestHand", "()I"⟩
abbrev cX7_leastSmall : ByteArray := prog_9_method_55_code
def yX7_leastSmall : MethodName := ⟨RX7, "leastSmall", "()I"⟩
abbrev cX7_charactersOf : ByteArray := prog_9_method_56_code
def yX7_charactersOf : MethodName := ⟨RX7, "charactersOf", "(J)I"⟩
abbrev cX7_put : ByteArray := prog_9_method_57_code
def yX7_put : MethodName := ⟨RX7, "put", "(J)I"⟩
abbrev cX7_wipe : ByteArray := prog_9_method_58_code
def yX7_wipe : MethodName := ⟨RX7, "wipe", "()I"⟩
abbrev cX7_isHere : ByteArray := prog_9_method_59_code
def yX7_isHere : MethodName := ⟨RX7, "isHere", "(II)Z"⟩
abbrev cX7_takesSign : ByteArray := prog_9_method_60_code
def yX7_takesSign : MethodName := ⟨RX7, "takesSign", "(I)Z"⟩
abbrev cX7_readsPaper : ByteArray := prog_9_method_61_code
def yX7_readsPaper : MethodName := ⟨RX7, "readsPaper", "()Z"⟩
abbrev cX7_fault : ByteArray := prog_9_method_62_code
def yX7_fault : MethodName := ⟨RX7, "fault", "()I"⟩
abbrev cX7_undo : ByteArray := prog_9_method_63_code
def yX7_undo : MethodName := ⟨RX7, "undo", "()I"⟩
abbrev cX7_isSlot : ByteArray := prog_9_method_64_code
def yX7_isSlot : MethodName := ⟨RX7, "isSlot", "(I)Z"⟩
abbrev cX7_save : ByteArray := prog_9_method_65_code
def yX7_save : MethodName := ⟨RX7, "save", "(I)I"⟩
abbrev cX7_restore : ByteArray := prog_9_method_66_code
def yX7_restore : MethodName := ⟨RX7, "restore", "(I)I"⟩
def RJ6 : String := "java/lang/Integer"
def TJ6 : u_T := fun k => match k with
  | _ => ("", "", "", false)
def tyJ6 : Nat → FieldType := fun k => match k with
  | _ => .int
abbrev wsJ60 : List Cond := u_ws RJ6 TJ6 0
theorem nmJ6 : ∀ a, a < 0 → ∀ b, b < 0 → a ≠ b → (TJ6 a).2.1 ≠ (TJ6 b).2.1 := by decide +kernel
theorem tyJ6_ok : ∀ k, k < 0 → parseFieldDescriptor (TJ6 k).2.2.1 = some (tyJ6 k) := by decide +kernel
abbrev cJ6_bitCount_0f7a4 : ByteArray := prog_10_method_49_code
def yJ6_bitCount_0f7a4 : MethodName := ⟨RJ6, "bitCount", "(I)I"⟩
def RJ9 : String := "java/lang/Math"
def TJ9 : u_T := fun k => match k with
  | _ => ("", "", "", false)
def tyJ9 : Nat → FieldType := fun k => match k with
  | _ => .int
abbrev wsJ90 : List Cond := u_ws RJ9 TJ9 0
theorem nmJ9 : ∀ a, a < 0 → ∀ b, b < 0 → a ≠ b → (TJ9 a).2.1 ≠ (TJ9 b).2.1 := by decide +kernel
theorem tyJ9_ok : ∀ k, k < 0 → parseFieldDescriptor (TJ9 k).2.2.1 = some (tyJ9 k) := by decide +kernel
abbrev cJ9_abs_0f7a4 : ByteArray := prog_11_method_59_code
def yJ9_abs_0f7a4 : MethodName := ⟨RJ9, "abs", "(I)I"⟩
abbrev cJ9_max_7cf53 : ByteArray := prog_11_method_65_code
def yJ9_max_7cf53 : MethodName := ⟨RJ9, "max", "(II)I"⟩
abbrev cJ9_min_7cf53 : ByteArray := prog_11_method_69_code
def yJ9_min_7cf53 : MethodName := ⟨RJ9, "min", "(II)I"⟩
def RJ10 : String := "java/lang/System"
def TJ10 : u_T := fun k => match k with
  | _ => ("", "", "", false)
def tyJ10 : Nat → FieldType := fun k => match k with
  | _ => .int
abbrev wsJ100 : List Cond := u_ws RJ10 TJ10 0
theorem nmJ10 : ∀ a, a < 0 → ∀ b, b < 0 → a ≠ b → (TJ10 a).2.1 ≠ (TJ10 b).2.1 := by decide +kernel
theorem tyJ10_ok : ∀ k, k < 0 → parseFieldDescriptor (TJ10 k).2.2.1 = some (tyJ10 k) := by decide +kernel
def RL : String := "DoubtfulTrunksLaw"
abbrev cL_law : ByteArray := code
def yL_law : MethodName := ⟨RL, "law", "([I)Z"⟩
end
section
/-! THE PURE MACHINE: whole numbers for ints and longs (they stand for themselves modulo 2^32, 2^64), cells with numbers of their own, contents in one function. -/
abbrev PV : Type := Option (Int ⊕ (Nat ⊕ Int))
abbrev wI (x : Int) : PV := some (.inl x)
abbrev wR (r : Nat) : PV := some (.inr (.inl r))
abbrev wL (x : Int) : PV := some (.inr (.inr x))
abbrev Mem : Type := Nat → Nat → Int
/-- a cell's kind: an object (its class, its slots that refer), an array of numbers (its type, its length), an array that refers -/
abbrev Kd : Type := (Nat × (Nat → Option Nat)) ⊕ ((Nat × Nat) ⊕ (Nat × Nat × (Nat → Nat)))
def upM (M : Mem) (r k : Nat) (x : Int) : Mem := fun r' k' => if r' = r ∧ k' = k then x else M r' k'
def cpM (M : Mem) (r0 sp r1 dp n : Nat) : Mem := fun r k => if r = r1 ∧ dp ≤ k ∧ k < dp + n then M r0 (sp + (k - dp)) else M r k
def inr (x : Int) : Prop := -2147483648 ≤ x ∧ x < 2147483648
def i32 (x : Int) : Int := (Int32.ofInt x).toInt
def i64 (x : Int) : Int := (Int64.ofInt x).toInt
theorem i32_id {x : Int} (h : inr x) : i32 x = x := Int32.toInt_ofInt_of_le (by have := h.1; simpa using this) (by have := h.2; simpa using this)
theorem of_i32 (x : Int32) : Int32.ofInt x.toInt = x := Int32.ofInt_toInt x
theorem inr_toInt (x : Int32) : inr x.toInt := by
  have h1 := Int32.le_toInt x
  have h2 := Int32.toInt_lt x
  exact ⟨by simpa using h1, by simpa using h2⟩
theorem of_lt {x y : Int} (hx : inr x) (hy : inr y) : Int32.ofInt x < Int32.ofInt y ↔ x < y := by
  rw [Int32.lt_iff_toInt_lt]
  show i32 x < i32 y ↔ _
  rw [i32_id hx, i32_id hy]
theorem of_le {x y : Int} (hx : inr x) (hy : inr y) : Int32.ofInt x ≤ Int32.ofInt y ↔ x ≤ y := by
  rw [Int32.le_iff_toInt_le]
  show i32 x ≤ i32 y ↔ _
  rw [i32_id hx, i32_id hy]
theorem of_eq {x y : Int} (hx : inr x) (hy : inr y) : Int32.ofInt x = Int32.ofInt y ↔ x = y := by
  rw [← Int32.toInt_inj]
  show i32 x = i32 y ↔ _
  rw [i32_id hx, i32_id hy]
theorem of_nI (n : Nat) : Int32.ofInt (n : Int) = nI n := Int32.ofInt_eq_ofNat
theorem of_in {x : Int} {n : Nat} (h0 : 0 ≤ x) (h1 : x < n) (hn : n < 2147483648) : vp_in (Int32.ofInt x) n ∧ (Int32.ofInt x).toNatClampNeg = x.toNat := by
  obtain ⟨k, rfl⟩ : ∃ k : Nat, x = k := ⟨x.toNat, by omega⟩
  rw [of_nI]
  exact ⟨vp_in_nI (by omega) (by omega), by rw [nI_clamp (by omega)]; simp⟩
def vp (ad : Nat → Nat) (v : PV) : Value := match v with
  | none => .null
  | some (.inl x) => .int (Int32.ofInt x)
  | some (.inr (.inl r)) => .ref (ad r)
  | some (.inr (.inr x)) => .long (Int64.ofInt x)
/-- locals: a list of all places, the unset ones as 'none' -/
def LR (ad : Nat → Nat) (nL : Nat) (lp : List PV) (ls : Array Slot) : Prop := ∃ l : List (Nat × Value), lv_has ls nL l ∧ lp.length = nL ∧ ∀ (i : Nat) (v : Int ⊕ (Nat ⊕ Int)), lp[i]? = some (some v) → (i, vp ad (some v)) ∈ l
def isLong (v : Option PV) : Bool := match v with
  | some (some (.inr (.inr _))) => true
  | _ => false
def okS (lp : List PV) (i : Nat) : Bool := Nat.blt i lp.length && (match i with | 0 => true | k + 1 => !(isLong lp[k]?))
theorem okS_lt {lp : List PV} {i : Nat} (h : okS lp i = true) : i < lp.length := by
  unfold okS at h
  rw [Bool.and_eq_true] at h
  exact Nat.lt_of_not_le fun q => by have := h.1; simp [Nat.blt] at this; omega
theorem okS_long {lp : List PV} {i : Nat} (h : okS lp i = true) {k : Nat} (hk : k + 1 = i) {v : Int ⊕ (Nat ⊕ Int)} (hv : lp[k]? = some (some v)) (ad : Nat → Nat) : (vp ad (some v)).category = 1 := by
  subst hk
  unfold okS at h
  rw [Bool.and_eq_true] at h
  have h2 := h.2
  simp only [hv] at h2
  rcases v with x | r | x
  · rfl
  · rfl
  · simp [isLong] at h2
theorem LR.get {ad : Nat → Nat} {nL : Nat} {lp : List PV} {ls : Array Slot} (h : LR ad nL lp ls) {i : Nat} {v : Int ⊕ (Nat ⊕ Int)} (hv : lp[i]? = some (some v)) : ls[i]? = some (.val (vp ad (some v))) := by
  obtain ⟨l, h1, -, h3⟩ := h
  exact h1.2.2 _ (h3 i v hv)
theorem LR.size {ad : Nat → Nat} {nL : Nat} {lp : List PV} {ls : Array Slot} (h : LR ad nL lp ls) : ls.size = nL := h.choose_spec.1.1
theorem LR.len {ad : Nat → Nat} {nL : Nat} {lp : List PV} {ls : Array Slot} (h : LR ad nL lp ls) : lp.length = nL := h.choose_spec.2.1
theorem LR.put {ad : Nat → Nat} {nL : Nat} {lp : List PV} {l : List (Nat × Value)} {ls' : Array Slot} {i : Nat} {w : Int ⊕ (Nat ⊕ Int)} (hl : lp.length = nL) (h3 : ∀ (i : Nat) (v : Int ⊕ (Nat ⊕ Int)), lp[i]? = some (some v) → (i, vp ad (some v)) ∈ l) (ho : okS lp i = true)
    (h' : lv_has ls' nL ((i, vp ad (some w)) :: l.filter (fun q => !(q.1 == i) && !(q.1 + 1 == i && q.2.category == 2)))) : LR ad nL (lp.set i (some w)) ls' := by
  have hi := okS_lt ho
  refine ⟨_, h', by rw [List.length_set]; exact hl, fun j v hj => ?_⟩
  by_cases e : j = i
  · subst e
    rw [List.getElem?_set_self hi] at hj
    cases hj
    exact List.mem_cons_self
  · rw [List.getElem?_set_ne (Ne.symm e)] at hj
    refine List.mem_cons_of_mem _ (List.mem_filter.mpr ⟨h3 j v hj, ?_⟩)
    have hne : (j == i) = false := by simpa using e
    by_cases e2 : j + 1 = i
    · have := okS_long ho e2 hj ad
      simp [hne, this]
    · have hne2 : (j + 1 == i) = false := by simpa using e2
      simp [hne, hne2]
theorem LR.put2 {ad : Nat → Nat} {nL : Nat} {lp : List PV} {l : List (Nat × Value)} {ls' : Array Slot} {i : Nat} {x : Int} (hl : lp.length = nL) (h3 : ∀ (i : Nat) (v : Int ⊕ (Nat ⊕ Int)), lp[i]? = some (some v) → (i, vp ad (some v)) ∈ l) (ho : okS lp i = true)
    (h' : lv_has ls' nL ((i, Value.long (Int64.ofInt x)) :: l.filter (fun q => !(q.1 == i) && (!(q.1 == i + 1) && !(q.1 + 1 == i && q.2.category == 2))))) : LR ad nL ((lp.set i (wL x)).set (i + 1) none) ls' := by
  have hi := okS_lt ho
  refine ⟨_, h', by rw [List.length_set, List.length_set]; exact hl, fun j v hj => ?_⟩
  by_cases e0 : j = i + 1
  · subst e0
    rw [List.getElem?_set] at hj
    simp at hj
  rw [List.getElem?_set_ne (Ne.symm e0)] at hj
  by_cases e : j = i
  · subst e
    rw [List.getElem?_set_self hi] at hj
    cases hj
    exact List.mem_cons_self
  · rw [List.getElem?_set_ne (Ne.symm e)] at hj
    refine List.mem_cons_of_mem _ (List.mem_filter.mpr ⟨h3 j v hj, ?_⟩)
    have hne : (j == i) = false := by simpa using e
    have hne0 : (j == i + 1) = false := by simpa using e0
    by_cases e2 : j + 1 = i
    · have := okS_long ho e2 hj ad
      simp [hne, hne0, this]
    · have hne2 : (j + 1 == i) = false := by simpa using e2
      simp [hne, hne0, hne2]
/-- the locals at a method's entry -/
def iniL : List PV → List PV
  | [] => []
  | some (.inr (.inr x)) :: r => wL x :: none :: iniL r
  | v :: r => v :: iniL r
def iniN (as : List PV) (n : Nat) : List PV := iniL as ++ List.replicate (n - (iniL as).length) none
theorem iniL_args (ad : Nat → Nat) : ∀ (as : List PV) (n i : Nat) (v : Int ⊕ (Nat ⊕ Int)), (iniL as)[i]? = some (some v) → (n + i, vp ad (some v)) ∈ lv_args n (as.map (vp ad))
  | [], n, i, v, h => by simp [iniL] at h
  | some (.inr (.inr x)) :: r, n, i, v, h => by
    show _ ∈ (n, Value.long (Int64.ofInt x)) :: lv_args (n + 2) (r.map (vp ad))
    match i, h with
    | 0, h =>
      simp [iniL] at h
      subst h
      exact List.mem_cons_self
    | 1, h => simp [iniL] at h
    | i + 2, h =>
      have h : (iniL r)[i]? = some (some v) := by simpa [iniL] using h
      have := iniL_args ad r (n + 2) i v h
      rw [show n + (i + 2) = n + 2 + i by omega]
      exact List.mem_cons_of_mem _ this
  | none :: r, n, i, v, h => by
    show _ ∈ (n, Value.null) :: lv_args (n + 1) (r.map (vp ad))
    match i, h with
    | 0, h => simp [iniL] at h
    | i + 1, h =>
      have h : (iniL r)[i]? = some (some v) := by simpa [iniL] using h
      have := iniL_args ad r (n + 1) i v h
      rw [show n + (i + 1) = n + 1 + i by omega]
      exact List.mem_cons_of_mem _ this
  | some (.inl x) :: r, n, i, v, h => by
    show _ ∈ (n, Value.int (Int32.ofInt x)) :: lv_args (n + 1) (r.map (vp ad))
    match i, h with
    | 0, h =>
      simp [iniL] at h
      subst h
      exact List.mem_cons_self
    | i + 1, h =>
      have h : (iniL r)[i]? = some (some v) := by simpa [iniL] using h
      have := iniL_args ad r (n + 1) i v h
      rw [show n + (i + 1) = n + 1 + i by omega]
      exact List.mem_cons_of_mem _ this
  | some (.inr (.inl x)) :: r, n, i, v, h => by
    show _ ∈ (n, Value.ref (ad x)) :: lv_args (n + 1) (r.map (vp ad))
    match i, h with
    | 0, h =>
      simp [iniL] at h
      subst h
      exact List.mem_cons_self
    | i + 1, h =>
      have h : (iniL r)[i]? = some (some v) := by simpa [iniL] using h
      have := iniL_args ad r (n + 1) i v h
      rw [show n + (i + 1) = n + 1 + i by omega]
      exact List.mem_cons_of_mem _ this
theorem iniL_len (ad : Nat → Nat) : ∀ as : List PV, (lg_sl (as.map (vp ad))).length = (iniL as).length
  | [] => rfl
  | some (.inr (.inr x)) :: r => by
    have := iniL_len ad r
    simp [lg_sl, iniL, vp, Value.category] at this ⊢
    omega
  | none :: r => by
    have := iniL_len ad r
    simp [lg_sl, iniL, vp, Value.category] at this ⊢
    omega
  | some (.inl x) :: r => by
    have := iniL_len ad r
    simp [lg_sl, iniL, vp, Value.category] at this ⊢
    omega
  | some (.inr (.inl x)) :: r => by
    have := iniL_len ad r
    simp [lg_sl, iniL, vp, Value.category] at this ⊢
    omega
theorem LR.ini (ad : Nat → Nat) (as : List PV) {n : Nat} (h : (iniL as).length ≤ n) : LR ad n (iniN as n) ((lg_sl (as.map (vp ad)) ++ List.replicate (n - (lg_sl (as.map (vp ad))).length) Slot.unset).toArray) := by
  refine ⟨_, lv_entry (as.map (vp ad)) (by rw [iniL_len]; exact h), ?_, fun i v hi => ?_⟩
  · simp [iniN]; omega
  · unfold iniN at hi
    by_cases hl : i < (iniL as).length
    · rw [List.getElem?_append_left hl] at hi
      have := iniL_args ad as 0 i v hi
      rwa [Nat.zero_add] at this
    · rw [List.getElem?_append_right (by omega), List.getElem?_replicate] at hi
      split at hi <;> cases hi
/-! THE LAYOUT: 0 the script, 1 and 2 the two tables of the class, 3 to 10 the class's own cells, 11 to 14 the reference's, then eight states of 22 cells each -/
def RC (ci : Nat) : String := match ci with | 0 => RX0 | 1 => RX1 | 2 => RX2 | 3 => RX0 | 4 => RX4 | 5 => RX5 | 6 => RX6 | _ => RX7
def TC (ci : Nat) : u_T := match ci with | 0 => TX0 | 1 => TX1 | 2 => TX2 | 3 => TX0 | 4 => TX4 | 5 => TX5 | 6 => TX6 | _ => TX7
def tyC (ci : Nat) : Nat → FieldType := match ci with | 0 => tyX0 | 1 => tyX1 | 2 => tyX2 | 3 => tyX0 | 4 => tyX4 | 5 => tyX5 | 6 => tyX6 | _ => tyX7
def nfC (ci : Nat) : Nat := match ci with | 0 => 5 | 1 => 3 | 2 => 5 | 3 => 5 | 4 => 9 | 5 => 8 | 6 => 6 | _ => 7
def clsL : List vw_C := [(RX0, TX0, 5), (RX1, TX1, 3), (RX2, TX2, 5), (RX0, TX0, 5), (RX4, TX4, 9), (RX5, TX5, 8), (RX6, TX6, 6), (RX7, TX7, 7)]
theorem clsL_at {ci : Nat} (h : ci < 8) : clsL[ci]? = some (RC ci, TC ci, nfC ci) := by
  match ci, h with
  | 0, _ => rfl | 1, _ => rfl | 2, _ => rfl | 3, _ => rfl | 4, _ => rfl | 5, _ => rfl | 6, _ => rfl | 7, _ => rfl
theorem tyC_ok {ci : Nat} (h : ci < 8) : ∀ k, k < nfC ci → parseFieldDescriptor (TC ci k).2.2.1 = some (tyC ci k) := by
  match ci, h with
  | 0, _ => exact tyX0_ok | 1, _ => exact tyX1_ok | 2, _ => exact tyX2_ok | 3, _ => exact tyX0_ok | 4, _ => exact tyX4_ok | 5, _ => exact tyX5_ok | 6, _ => exact tyX6_ok | 7, _ => exact tyX7_ok
theorem nmC_ok {ci : Nat} (h : ci < 8) : ∀ a, a < nfC ci → ∀ b, b < nfC ci → a ≠ b → (TC ci a).2.1 ≠ (TC ci b).2.1 := by
  match ci, h with
  | 0, _ => exact nmX0 | 1, _ => exact nmX1 | 2, _ => exact nmX2 | 3, _ => exact nmX0 | 4, _ => exact nmX4 | 5, _ => exact nmX5 | 6, _ => exact nmX6 | 7, _ => exact nmX7
/-- a state's 22 cells, from the cell a on -/
def layS (a i : Nat) : Kd := match i with
  | 0 => .inl (4, fun k => match k with | 0 => some (a + 1) | 1 => some (a + 2) | 2 => some (a + 3) | 3 => some (a + 4) | 4 => some (a + 11) | _ => none)
  | 1 => .inr (.inl (0, 6))
  | 2 => .inr (.inl (0, 6))
  | 3 => .inr (.inl (0, 5))
  | 4 => .inr (.inr (5, 3, fun k => a + 5 + 2 * k))
  | 5 => .inl (0, fun k => match k with | 0 => some (a + 6) | _ => none)
  | 6 => .inr (.inl (0, 16))
  | 7 => .inl (0, fun k => match k with | 0 => some (a + 8) | _ => none)
  | 8 => .inr (.inl (0, 16))
  | 9 => .inl (0, fun k => match k with | 0 => some (a + 10) | _ => none)
  | 10 => .inr (.inl (0, 16))
  | 11 => .inl (5, fun k => match k with | 1 => some (a + 12) | 2 => some (a + 13) | 3 => some (a + 17) | 4 => some (a + 18) | 5 => some (a + 19) | 6 => some (a + 20) | 7 => some (a + 21) | _ => none)
  | 13 => .inr (.inr (3, 3, fun k => a + 14 + k))
  | _ => .inr (.inl (0, 64))
def LAY (L : Nat) (r : Nat) : Kd := match r with
  | 0 => .inr (.inl (0, L))
  | 1 => .inr (.inl (0, 6))
  | 2 => .inr (.inl (0, 6))
  | 3 => .inl (6, fun k => match k with | 0 => some 15 | 1 => some 37 | 2 => some 4 | 3 => some 6 | 4 => some 7 | 5 => some 8 | _ => none)
  | 4 => .inl (1, fun k => match k with | 0 => some 5 | _ => none)
  | 5 => .inr (.inr (4, 4, fun k => 103 + 22 * k))
  | 6 => .inr (.inr (4, 2, fun k => 59 + 22 * k))
  | 7 => .inr (.inl (2, 2))
  | 8 => .inl (2, fun k => match k with | 0 => some 9 | 3 => some 10 | _ => none)
  | 9 => .inr (.inl (1, 60))
  | 10 => .inr (.inl (0, 3))
  | 11 => .inl (7, fun k => match k with | 0 => some 12 | 2 => some 13 | 3 => some 14 | _ => none)
  | 12 => .inr (.inl (0, 5296))
  | 13 => .inr (.inl (2, 2))
  | 14 => .inr (.inl (0, 60))
  | r + 15 => layS (r / 22 * 22 + 15) (r % 22)
theorem LAY_st (L a i : Nat) (ha : 15 ≤ a) (h22 : (a - 15) % 22 = 0) (hi : i < 22) : LAY L (a + i) = layS a i := by
  obtain ⟨j, rfl⟩ : ∃ j, a = 15 + 22 * j := ⟨(a - 15) / 22, by omega⟩
  rw [show 15 + 22 * j + i = (22 * j + i) + 15 by omega]
  show layS ((22 * j + i) / 22 * 22 + 15) ((22 * j + i) % 22) = _
  rw [show (22 * j + i) / 22 * 22 + 15 = 15 + 22 * j by omega, show (22 * j + i) % 22 = i by omega]
def tagT (t : Nat) : FieldType := match t with | 0 => .int | 1 => .char | 2 => .boolean | 3 => .array .int | 4 => .object RX4 | _ => .object RX0
def tysL (cA : Nat → ClassId) : List (ClassId × FieldType) := [(cA 0, .int), (cA 1, .char), (cA 2, .boolean), (cA 3, .array .int), (cA 4, .object RX4), (cA 5, .object RX0)]
theorem tysL_at (cA : Nat → ClassId) {t : Nat} (h : t < 6) : (tysL cA)[t]? = some (cA t, tagT t) := by
  match t, h with
  | 0, _ => rfl | 1, _ => rfl | 2, _ => rfl | 3, _ => rfl | 4, _ => rfl | 5, _ => rfl
theorem layS_ok (a i : Nat) : (∀ ci f, layS a i = .inl (ci, f) → ci < 8) ∧ (∀ t n, layS a i = .inr (.inl (t, n)) → t < 6 ∧ n < 2147483648) ∧ (∀ t n f, layS a i = .inr (.inr (t, n, f)) → t < 6 ∧ 3 ≤ t ∧ n < 2147483648) := by
  unfold layS
  split <;> (refine ⟨?_, ?_, ?_⟩ <;> intros <;> simp_all <;> omega)
theorem LAY_ok {L : Nat} (hL : L < 2147483648) (r : Nat) : (∀ ci f, LAY L r = .inl (ci, f) → ci < 8) ∧ (∀ t n, LAY L r = .inr (.inl (t, n)) → t < 6 ∧ n < 2147483648) ∧ (∀ t n f, LAY L r = .inr (.inr (t, n, f)) → t < 6 ∧ 3 ≤ t ∧ n < 2147483648) := by
  unfold LAY
  split
  case h_16 => exact layS_ok _ _
  all_goals (refine ⟨?_, ?_, ?_⟩ <;> intros <;> simp_all <;> omega)
def ceV (ad : Nat → Nat) (f : Nat → Option Nat) (m : Nat → Int) (k : Nat) : Value := match f k with | some r => .ref (ad r) | none => .int (Int32.ofInt (m k))
def ceE (ad : Nat → Nat) (cA : Nat → ClassId) (kd : Kd) (m : Nat → Int) : va_E := match kd with
  | .inl (ci, f) => .inr (ci, (List.range (nfC ci)).map (ceV ad f m))
  | .inr (.inl (t, n)) => .inl (cA t, n, .inl (fun j => Int32.ofInt (m j)))
  | .inr (.inr (t, n, f)) => .inl (cA t, n, .inr (.inr (.inr (.inr (fun j => if j < n then some (ad (f j)) else none)))))
def wld (ad : Nat → Nat) (cA : Nat → ClassId) (L : Nat) (M : Mem) : va_W := (List.range 188).map (fun k => (ad (k + 3), ceE ad cA (LAY L (k + 3)) (M (k + 3))))
theorem wld_at {ad : Nat → Nat} {cA : Nat → ClassId} {L : Nat} {M : Mem} {r : Nat} (h3 : 3 ≤ r) (h : r < 191) : (wld ad cA L M)[r - 3]? = some (ad r, ceE ad cA (LAY L r) (M r)) := by
  unfold wld
  rw [List.getElem?_map, List.getElem?_range (by omega)]
  simp only [Option.map_some, show r - 3 + 3 = r by omega]
theorem wld_set {ad : Nat → Nat} {cA : Nat → ClassId} {L : Nat} {M M' : Mem} {r : Nat} (h3 : 3 ≤ r) (h : r < 191) (ho : ∀ r', r' ≠ r → M' r' = M r') : (wld ad cA L M).set (r - 3) (ad r, ceE ad cA (LAY L r) (M' r)) = wld ad cA L M' := by
  apply List.ext_getElem?
  intro i
  by_cases hi : i < 188
  · have h1 : (wld ad cA L M')[i]? = some (ad (i + 3), ceE ad cA (LAY L (i + 3)) (M' (i + 3))) := by
      have := wld_at (ad := ad) (cA := cA) (L := L) (M := M') (r := i + 3) (by omega) (by omega)
      simpa using this
    have h2 : (wld ad cA L M)[i]? = some (ad (i + 3), ceE ad cA (LAY L (i + 3)) (M (i + 3))) := by
      have := wld_at (ad := ad) (cA := cA) (L := L) (M := M) (r := i + 3) (by omega) (by omega)
      simpa using this
    rw [h1]
    by_cases e : i = r - 3
    · subst e
      rw [List.getElem?_set_self (by simp [wld]; omega)]
      rw [show r - 3 + 3 = r by omega]
    · rw [List.getElem?_set_ne (Ne.symm e), h2, ho (i + 3) (by omega)]
  · rw [List.getElem?_eq_none (by simp [wld]; omega), List.getElem?_eq_none (by simp [wld]; omega)]
theorem upM_ne {M : Mem} {r k : Nat} {x : Int} : ∀ r', r' ≠ r → upM M r k x r' = M r' := fun r' h => by funext k'; simp [upM, h]
theorem cpM_ne {M : Mem} {r0 sp r1 dp n : Nat} : ∀ r', r' ≠ r1 → cpM M r0 sp r1 dp n r' = M r' := fun r' h => by funext k'; simp [cpM, h]
theorem upM_eq {M : Mem} {r k : Nat} {x : Int} : upM M r k x r = fun k' => if k' = k then x else M r k' := by funext k'; simp [upM]
/-- addresses: apart, and in A -/
def adOK (ad : Nat → Nat) (A : Nat → Prop) : Prop := (∀ r r', 3 ≤ r → r < 191 → 3 ≤ r' → r' < 191 → ad r = ad r' → r = r') ∧ ∀ r, 3 ≤ r → r < 191 → A (ad r)
theorem wld_get {ad : Nat → Nat} {cA : Nat → ClassId} {L : Nat} {M : Mem} {i : Nat} {q : Nat × va_E} (h : (wld ad cA L M)[i]? = some q) : i < 188 ∧ q = (ad (i + 3), ceE ad cA (LAY L (i + 3)) (M (i + 3))) := by
  have hi : i < 188 := by
    have := (List.getElem?_eq_some_iff.mp h).1
    simpa [wld] using this
  have := wld_at (ad := ad) (cA := cA) (L := L) (M := M) (r := i + 3) (by omega) (by omega)
  rw [show i + 3 - 3 = i by omega, h] at this
  exact ⟨hi, Option.some.inj this⟩
theorem adOK.D {ad : Nat → Nat} {A : Nat → Prop} (h : adOK ad A) (cA : Nat → ClassId) (L : Nat) (M : Mem) : va_D A (wld ad cA L M) := by
  refine ⟨fun i j p q hi hj he => ?_, fun k q hk => ?_⟩
  · obtain ⟨a1, rfl⟩ := wld_get hi
    obtain ⟨a2, rfl⟩ := wld_get hj
    have := h.1 _ _ (by omega) (by omega) (by omega) (by omega) he
    omega
  · obtain ⟨a1, rfl⟩ := wld_get hk
    exact h.2 _ (by omega) (by omega)
theorem ceV_at {ad : Nat → Nat} {f : Nat → Option Nat} {m : Nat → Int} {n k : Nat} (h : k < n) : ((List.range n).map (ceV ad f m))[k]? = some (ceV ad f m k) := by
  rw [List.getElem?_map, List.getElem?_range h]
  rfl
theorem ceV_set {ad : Nat → Nat} {f : Nat → Option Nat} {m m' : Nat → Int} {n k : Nat} {x : Int} (hf : f k = none) (hm : m' = fun k' => if k' = k then x else m k') : ((List.range n).map (ceV ad f m)).set k (.int (Int32.ofInt x)) = (List.range n).map (ceV ad f m') := by
  subst hm
  apply List.ext_getElem?
  intro i
  by_cases hi : i < n
  · rw [ceV_at hi]
    by_cases e : i = k
    · subst e
      rw [List.getElem?_set_self (by simpa using hi)]
      simp [ceV, hf]
    · rw [List.getElem?_set_ne (Ne.symm e), ceV_at hi]
      simp [ceV, e]
  · rw [List.getElem?_eq_none (by simp; omega), List.getElem?_eq_none (by simp; omega)]
/-- the contents that nobody writes: the script, the two tables -/
def exN (L r : Nat) : Nat := match r with | 0 => L | _ => 6
def Ext (ad : Nat → Nat) (L : Nat) (xc : Nat → Nat → Int) (A : Nat → Prop) (U : State) (H : Heap) : Prop :=
  (∀ r, r < 3 → va_T .int (ad r) (exN L r) (fun j => .int (Int32.ofInt (xc r j))) A U H) ∧ va_Z "DoubtfulTrunks" "LEAST_SETTINGS" "[I" (.ref (ad 1)) A U H ∧ va_Z "DoubtfulTrunks" "MOST_SETTINGS" "[I" (.ref (ad 2)) A U H
theorem LAY_ex {L r : Nat} (h : r < 3) : LAY L r = .inr (.inl (0, exN L r)) := by
  match r, h with
  | 0, _ => rfl | 1, _ => rfl | 2, _ => rfl
theorem Ext.moved {ad : Nat → Nat} {L : Nat} {xc : Nat → Nat → Int} {A : Nat → Prop} {u U : State} {H : Heap} (hvm : u.vm.Alike U.vm) (h : Ext ad L xc A u H) : Ext ad L xc A U H := ⟨fun r hr => (h.1 r hr).moved hvm, h.2.1.moved hvm, h.2.2.moved hvm⟩
theorem Ext.kept {ad : Nat → Nat} {L : Nat} {xc : Nat → Nat → Int} {A : Nat → Prop} {U : State} {H H1 : Heap} (h : Ext ad L xc A U H) (hq : ∀ a : Nat, a < H.size → ¬ A a → H1[a]? = H[a]?) : Ext ad L xc A U H1 := ⟨fun r hr => (h.1 r hr).kept hq, h.2.1.kept hq, h.2.2.kept hq⟩
end
section

/-! THE CLAUSES: one a kind of instruction. A predicate of the pure machine that is closed under all of them holds wherever it is derived: 'Runs'. -/
def lk {α : Type} (l : List (Nat × α)) (x : Nat) : Option α := match l with
  | [] => none
  | (a, b) :: t => match Nat.beq a x with | true => some b | false => lk t x
theorem lk_mem {α : Type} {l : List (Nat × α)} {x : Nat} {b : α} (h : lk l x = some b) : (x, b) ∈ l := by
  induction l with
  | nil => simp [lk] at h
  | cons c t ih =>
    obtain ⟨a, b'⟩ := c
    unfold lk at h
    cases e : Nat.beq a x with
    | true =>
      rw [e] at h
      have e2 := Nat.eq_of_beq_eq_true e
      subst e2
      cases h
      exact List.mem_cons_self
    | false =>
      rw [e] at h
      exact List.mem_cons_of_mem _ (ih h)
/-- a contract: how many arguments ('this' first), whether it answers, what it asks, what it says -/
abbrev Ct : Type := Nat × Bool × (List PV → Mem → Prop) × (List PV → Mem → Int → Mem → Prop)
/-- a method: its code, the fields, long and int constants, statics and natives of its class by their entries, its calls, whether it answers a boolean -/
abbrev Sx : Type := List (Nat × (Instr × Nat)) × List (Nat × (Nat × Nat)) × List (Nat × Int) × List (Nat × Int) × List (Nat × Nat) × List (Nat × Nat) × List (Nat × (Nat × Ct)) × Nat
def inl64 (x : Int) : Prop := -9223372036854775808 ≤ x ∧ x < 9223372036854775808
def i32div (x y : Int) : Int := (Int32.ofInt x / Int32.ofInt y).toInt
def i32rem (x y : Int) : Int := (Int32.ofInt x - Int32.ofInt x / Int32.ofInt y * Int32.ofInt y).toInt
def xishl (x y : Int) : Int := (Int32.ofInt x <<< (Int32.ofInt y &&& 31)).toInt
def xishr (x y : Int) : Int := (Int32.ofInt x >>> (Int32.ofInt y &&& 31)).toInt
def xiand (x y : Int) : Int := (Int32.ofInt x &&& Int32.ofInt y).toInt
def xior (x y : Int) : Int := (Int32.ofInt x ||| Int32.ofInt y).toInt
def xixor (x y : Int) : Int := (Int32.ofInt x ^^^ Int32.ofInt y).toInt
def xiushr (x y : Int) : Int := (((Int32.ofInt x).toUInt32 >>> ((Int32.ofInt y).toUInt32 &&& Int32.toUInt32 31)).toInt32).toInt
def xland (x y : Int) : Int := (Int64.ofInt x &&& Int64.ofInt y).toInt
def xlor (x y : Int) : Int := (Int64.ofInt x ||| Int64.ofInt y).toInt
def xlushr (x y : Int) : Int := (((Int64.ofInt x).toUInt64 >>> ((Int32.ofInt y).toInt64.toUInt64 &&& Int64.toUInt64 63)).toInt64).toInt
def xlshl (x y : Int) : Int := (Int64.ofInt x <<< ((Int32.ofInt y).toInt64 &&& 63)).toInt
theorem of_i64 (x : Int64) : Int64.ofInt x.toInt = x := Int64.ofInt_toInt x
theorem i64_id {x : Int} (h : inl64 x) : (Int64.ofInt x).toInt = x := Int64.toInt_ofInt_of_le (by have := h.1; simpa using this) (by have := h.2; simpa using this)
theorem of_i8 {v : Int} (h : -128 ≤ v ∧ v < 128) : (Int8.ofInt v).toInt32 = Int32.ofInt v := by
  rw [← Int32.toInt_inj, Int8.toInt_toInt32, Int8.toInt_ofInt_of_le (by simpa using h.1) (by simpa using h.2)]
  exact (i32_id ⟨by omega, by omega⟩).symm
theorem of_i16 {v : Int} (h : -32768 ≤ v ∧ v < 32768) : (Int16.ofInt v).toInt32 = Int32.ofInt v := by
  rw [← Int32.toInt_inj, Int16.toInt_toInt32, Int16.toInt_ofInt_of_le (by simpa using h.1) (by simpa using h.2)]
  exact (i32_id ⟨by omega, by omega⟩).symm
theorem of_nL (n : Nat) : Int64.ofNat n = Int64.ofInt (n : Int) := Int64.ofInt_eq_ofNat.symm
theorem of_i2l {x : Int} (h : inr x) : (Int32.ofInt x).toInt64 = Int64.ofInt x := by
  rw [← Int64.toInt_inj, Int32.toInt_toInt64, i64_id ⟨by have := h.1; omega, by have := h.2; omega⟩]
  exact i32_id h
theorem of_l2i {x : Int} (h : inl64 x) : (Int64.ofInt x).toInt32 = Int32.ofInt x := by
  rw [← Int32.toInt_inj, Int64.toInt_toInt32, i64_id h, Int32.toInt_ofInt]
theorem of_i2c {x : Int} (h : 0 ≤ x ∧ x < 65536) : ((Int32.ofInt x).toUInt32 % 65536).toInt32 = Int32.ofInt x := by
  obtain ⟨k, rfl⟩ : ∃ k : Nat, x = k := ⟨x.toNat, by omega⟩
  rw [of_nI, pk_char, pk_tn (by omega), Nat.mod_eq_of_lt (by omega)]
theorem of_lcmp {x y : Int} (hx : inl64 x) (hy : inl64 y) : lg_cmp (Int64.ofInt x) (Int64.ofInt y) = Int32.ofInt (if y < x then 1 else if x = y then 0 else -1) := by
  have h1 : Int64.ofInt x > Int64.ofInt y ↔ y < x := by
    show Int64.ofInt y < Int64.ofInt x ↔ _
    rw [Int64.lt_iff_toInt_lt, i64_id hx, i64_id hy]
  have h2 : Int64.ofInt x = Int64.ofInt y ↔ x = y := by rw [← Int64.toInt_inj, i64_id hx, i64_id hy]
  unfold lg_cmp
  by_cases a : y < x
  · rw [if_pos (h1.mpr a), if_pos a]; rfl
  · rw [if_neg (fun z => a (h1.mp z)), if_neg a]
    by_cases b : x = y
    · rw [if_pos (h2.mpr b), if_pos b]; rfl
    · rw [if_neg (fun z => b (h2.mp z)), if_neg b]; rfl
theorem of_max {x y : Int} (hx : inr x) (hy : inr y) : (if Int32.ofInt x < Int32.ofInt y then Int32.ofInt y else Int32.ofInt x) = Int32.ofInt (if x < y then y else x) := by
  by_cases a : x < y
  · rw [if_pos ((of_lt hx hy).mpr a), if_pos a]
  · rw [if_neg (fun z => a ((of_lt hx hy).mp z)), if_neg a]
theorem of_min {x y : Int} (hx : inr x) (hy : inr y) : (if Int32.ofInt y < Int32.ofInt x then Int32.ofInt y else Int32.ofInt x) = Int32.ofInt (if y < x then y else x) := by
  by_cases a : y < x
  · rw [if_pos ((of_lt hy hx).mpr a), if_pos a]
  · rw [if_neg (fun z => a ((of_lt hy hx).mp z)), if_neg a]
theorem of_abs {x : Int} (hx : inr x) : (if 0 ≤ Int32.ofInt x then Int32.ofInt x else 0 - Int32.ofInt x) = Int32.ofInt (if 0 ≤ x then x else 0 - x) := by
  have h : 0 ≤ Int32.ofInt x ↔ 0 ≤ x := of_le (x := 0) ⟨by decide, by decide⟩ hx
  by_cases a : 0 ≤ x
  · rw [if_pos (h.mpr a), if_pos a]
  · rw [if_neg (fun z => a (h.mp z)), if_neg a, Int32.ofInt_sub]; rfl
theorem of_pos {x : Int} (h0 : 0 ≤ x) (h1 : x < 2147483648) : (¬ Int32.ofInt x < 0) ∧ (Int32.ofInt x).toNatClampNeg = x.toNat := by
  obtain ⟨k, rfl⟩ : ∃ k : Nat, x = k := ⟨x.toNat, by omega⟩
  rw [of_nI]
  exact ⟨nI_pos (by omega), by rw [nI_clamp (by omega)]; simp⟩
theorem cat1 (ad : Nat → Nat) {x : Int ⊕ (Nat ⊕ Int)} (h : isLong (some (some x)) = false) : (vp ad (some x)).category = 1 := by
  rcases x with x | r | x
  · rfl
  · rfl
  · simp [isLong] at h
def stW (st : List PV) : Nat := match st with
  | [] => 0
  | some (.inr (.inr _)) :: t => stW t + 2
  | _ :: t => stW t + 1
theorem stW_eq (ad : Nat → Nat) : ∀ st : List PV, ((st.map (vp ad)).map fun v => v.category).sum = stW st
  | [] => rfl
  | some (.inr (.inr x)) :: t => by
    have := stW_eq ad t
    simp only [List.map_cons, List.sum_cons, this]
    show 2 + _ = stW t + 2
    omega
  | none :: t => by
    have := stW_eq ad t
    simp only [List.map_cons, List.sum_cons, this]
    show 1 + _ = stW t + 1
    omega
  | some (.inl x) :: t => by
    have := stW_eq ad t
    simp only [List.map_cons, List.sum_cons, this]
    show 1 + _ = stW t + 1
    omega
  | some (.inr (.inl x)) :: t => by
    have := stW_eq ad t
    simp only [List.map_cons, List.sum_cons, this]
    show 1 + _ = stW t + 1
    omega
theorem stk8 (ad : Nat → Nat) (st : List PV) (h : Nat.ble (stW st) 8 = true) : ((st.map (vp ad)).map fun v => v.category).sum ≤ 8 := by
  rw [stW_eq]
  exact Nat.le_of_ble_eq_true h
theorem upd_of {f : Nat → Int} {k : Nat} {x : Int} : upd (fun j => Int32.ofInt (f j)) k (Int32.ofInt x) = fun j => Int32.ofInt ((fun k' => if k' = k then x else f k') j) := by
  funext j
  unfold upd
  by_cases e : j = k
  · simp [e]
  · simp [e]
theorem nar_c {x : Int} (h : 0 ≤ x ∧ x < 65536) : vp_nar .char (Int32.ofInt x) = Int32.ofInt x := by
  obtain ⟨k, rfl⟩ : ∃ k : Nat, x = k := ⟨x.toNat, by omega⟩
  rw [of_nI]
  unfold vp_nar
  rw [(pk_charN (by omega)).1]
theorem nar_z {x : Int} (h : x = 0 ∨ x = 1) : vp_nar .boolean (Int32.ofInt x) = Int32.ofInt x := by
  rcases h with rfl | rfl <;> decide +kernel
theorem cpy_of {f g : Nat → Int} {sp dp n : Nat} : va_cpy (fun j => Int32.ofInt (f j)) (fun j => Int32.ofInt (g j)) sp dp n = fun j => Int32.ofInt ((fun k => if dp ≤ k ∧ k < dp + n then f (sp + (k - dp)) else g k) j) := by
  funext j
  unfold va_cpy
  by_cases e : dp ≤ j ∧ j < dp + n
  · simp [e]
  · simp only [if_neg e]
theorem cpM_eq {M : Mem} {r0 sp r1 dp n : Nat} : cpM M r0 sp r1 dp n r1 = fun k => if dp ≤ k ∧ k < dp + n then M r0 (sp + (k - dp)) else M r1 k := by
  funext k
  simp [cpM]
theorem tag_ref {t : Nat} (h : t < 6) (h3 : 3 ≤ t) : (tagT t).isReference = true := by
  match t, h, h3 with
  | 3, _, _ => rfl | 4, _, _ => rfl | 5, _, _ => rfl
theorem ciLt {L r ci : Nat} {f : Nat → Option Nat} (hL : L < 2147483648) (h : LAY L r = .inl (ci, f)) : ci < 8 := (LAY_ok hL r).1 _ _ h
def xcF (scr : Nat → Int) (r j : Nat) : Int := match r with | 0 => scr j | 1 => ([0, 0, 0, 0, 0, 1] : List Int).getD j 0 | _ => ([200, 50, 90, 20, 9, 4] : List Int).getD j 0
/-- the tables' words that last -/
def GT : List Cond := lw_tbl.filter goodWord
theorem mem_GT {w : Cond} : w ∈ GT ↔ w ∈ lw_tbl ∧ goodWord w = true := List.mem_filter
theorem GT_at {w : Cond} (i : Nat) (h : lw_tbl[i]? = some w) (hg : goodWord w = true) : w ∈ GT := mem_GT.mpr ⟨List.mem_of_getElem? h, hg⟩
theorem goodGT {w : Cond} (h : w ∈ GT) : w ∈ GT ∧ ((w.onTables && w.keeps) = true ∨ ∃ ty, w = .arrayClass ty) := ⟨h, good_of_word (mem_GT.mp h).2⟩
def rmD (d : Nat) : Room := { frames := d + 1, cells := 0, slots := 0, locals := 60 + 30 * d }


theorem clsW {ci : Nat} (h : ci < 8) : ∀ w ∈ u_ws (RC ci) (TC ci) (nfC ci), w ∈ GT := by
  have key : ∀ ci, ci < 8 → ((u_ws (RC ci) (TC ci) (nfC ci)).all (fun w => decide (w ∈ GT))) = true := by
    intro ci h
    match ci, h with
    | 0, _ => decide +kernel
    | 1, _ => decide +kernel
    | 2, _ => decide +kernel
    | 3, _ => decide +kernel
    | 4, _ => decide +kernel
    | 5, _ => decide +kernel
    | 6, _ => decide +kernel
    | 7, _ => decide +kernel
  intro w hw
  have := List.all_eq_true.mp (key ci h) w hw
  simpa using this
/-- what the tables say of a class's entries -/
def FdOK (own : String) (e : Nat × (Nat × Nat)) : Prop := e.2.1 < 8 ∧ e.2.2 < nfC e.2.1 ∧ Cond.fieldLink own e.1 (TC e.2.1 e.2.2).1 (TC e.2.1 e.2.2).2.1 (TC e.2.1 e.2.2).2.2.1 ∈ GT
def SgOK (own : String) (e : Nat × Nat) : Prop := (e.2 = 1 ∧ Cond.fieldLink own e.1 "DoubtfulTrunks" "LEAST_SETTINGS" "[I" ∈ GT) ∨ (e.2 = 2 ∧ Cond.fieldLink own e.1 "DoubtfulTrunks" "MOST_SETTINGS" "[I" ∈ GT)
def NtOK (own : String) (e : Nat × Nat) : Prop :=
  (e.2 = 0 → Cond.methodLink own e.1 arraycopyName ∈ GT ∧ Cond.native arraycopyName ∈ GT ∧ Cond.static arraycopyName ∈ GT ∧ Cond.initialized "java/lang/System" ∈ GT) ∧
  (e.2 = 1 → Cond.methodLink own e.1 Lib.Math.max.name ∈ GT ∧ Cond.static Lib.Math.max.name ∈ GT ∧ Cond.initialized "java/lang/Math" ∈ GT ∧ Cond.code Lib.Math.max.name Lib.Math.max.code 2 (some .int) ∈ GT) ∧
  (e.2 = 2 → Cond.methodLink own e.1 Lib.Math.min.name ∈ GT ∧ Cond.static Lib.Math.min.name ∈ GT ∧ Cond.initialized "java/lang/Math" ∈ GT ∧ Cond.code Lib.Math.min.name Lib.Math.min.code 2 (some .int) ∈ GT) ∧
  (e.2 = 3 → Cond.methodLink own e.1 Lib.Math.abs.name ∈ GT ∧ Cond.static Lib.Math.abs.name ∈ GT ∧ Cond.initialized "java/lang/Math" ∈ GT ∧ Cond.code Lib.Math.abs.name Lib.Math.abs.code 1 (some .int) ∈ GT)
def WdU (D : va_G) (cA : Nat → ClassId) (ad : Nat → Nat) (A : Nat → Prop) (L : Nat) (scr : Nat → Int) (M : Mem) (U : State) : Prop :=
  va_P D clsL (wld ad cA L M) U.heap ∧ va_K D clsL (tysL cA) U ∧ Ext ad L (xcF scr) A U U.heap
def QcC (C : Ct) (as : List PV) (M : Mem) (D : va_G) (cA : Nat → ClassId) (ad : Nat → Nat) (A : Nat → Prop) (L : Nat) : Array Value → State → Outcome → State → Prop :=
  if C.2.1 = true then va_Qi (S := Mem) (fun r M' => ∃ x : Int, r = Int32.ofInt x ∧ C.2.2.2 as M x M') (fun M' t => va_P D clsL (wld ad cA L M') t.heap) A
  else va_Qv (S := Mem) (fun M' => C.2.2.2 as M 0 M') (fun M' t => va_P D clsL (wld ad cA L M') t.heap) A
def MtOK (y : MethodName) (b : ByteArray) (mL : Nat) (ret : Option FieldType) (d : Nat) (C : Ct) : Prop :=
  ∀ (l : Launch) (D : va_G) (cA : Nat → ClassId) (ad : Nat → Nat) (A : Nat → Prop) (L : Nat) (scr : Nat → Int) (as : List PV) (M : Mem), L < 2147483648 → adOK ad A → as.length = C.1 → C.2.2.1 as M →
    Met l y (.code y b mL ret :: GT) (rmD d) (va_Pc (as.map (vp ad)) (fun U => WdU D cA ad A L scr M U)) (QcC C as M D cA ad A L) 0 0 A
def ClOK (own : String) (R : Room) (e : Nat × (Nat × Ct)) : Prop := ∃ (y : MethodName) (b : ByteArray) (mL : Nat) (ret : Option FieldType) (d : Nat), MtOK y b mL ret d e.2.2 ∧
  Cond.methodLink own e.1 y ∈ GT ∧ Cond.initialized y.cls ∈ GT ∧ Cond.code y b mL ret ∈ GT ∧
  ((y.cls ≠ "java/lang/invoke/MethodHandle") ∧ (y.cls ≠ "java/lang/invoke/VarHandle") ∧ (parseMethodDescriptor y.desc).map (fun d => d.parameters.length) = some (if e.2.1 < 8 then e.2.2.1 - 1 else e.2.2.1)) ∧
  ((rmD d).frames + 1 ≤ R.frames ∧ 8 + (mL + 11) + (rmD d).locals ≤ R.locals) ∧
  (if e.2.1 < 8 then Cond.instanceMethod y ∈ GT ∧ Cond.selects y.cls y y ∈ GT ∧ y.cls = RC e.2.1 ∧ 1 ≤ e.2.2.1 else (Cond.static y ∈ GT ∧ True))
theorem goodV {own : String} {i : Nat} {y : MethodName} {b : ByteArray} {mL : Nat} {ret : Option FieldType} (h1 : Cond.methodLink own i y ∈ GT) (h2 : Cond.initialized y.cls ∈ GT) (h3 : Cond.code y b mL ret ∈ GT) (h4 : Cond.instanceMethod y ∈ GT) (h5 : Cond.selects y.cls y y ∈ GT) :
    GoodIn GT (wsV own i y.cls y (.code y b mL ret :: GT)) := by
  intro w hw
  refine goodGT ?_
  simp only [wsV, List.mem_append, List.mem_cons, List.not_mem_nil, or_false] at hw
  rcases hw with (rfl | rfl | rfl | rfl) | rfl | hw
  · exact h1
  · exact h4
  · exact h5
  · exact h2
  · exact h3
  · exact hw
theorem callS_of {own : String} {i : Nat} {y : MethodName} {b : ByteArray} {mL : Nat} {ret : Option FieldType} {R : Room} {d n : Nat} {args : Array Value} {s : State} (hts : ∀ w ∈ GT, w.before args s = true) (h1 : Cond.methodLink own i y ∈ GT) (h2 : Cond.initialized y.cls ∈ GT) (h3 : Cond.code y b mL ret ∈ GT) (h4 : Cond.static y ∈ GT)
    (hd : y.cls ≠ "java/lang/invoke/MethodHandle" ∧ y.cls ≠ "java/lang/invoke/VarHandle" ∧ (parseMethodDescriptor y.desc).map (fun d => d.parameters.length) = some n) (hR : (rmD d).frames + 1 ≤ R.frames ∧ 8 + (mL + 11) + (rmD d).locals ≤ R.locals) :
    CallB R s args own i y b mL ret (.code y b mL ret :: GT) (rmD d) 0 0 n ∧ (Cond.static y).before args s = true := by
  refine ⟨callB_of (Ts := GT) (ws' := GT) n hts (fun w hw => ?_) rfl rfl rfl (hts _ h2) (hts _ h1) hd hR, hts _ h4⟩
  rcases List.mem_cons.mp hw with rfl | hw
  · exact goodGT h3
  · exact goodGT hw

def k_iconst (X : Sx) (L : Nat) (xc : Nat → Nat → Int) (J : Nat → List PV → List PV → Mem → Prop) : Prop := ∀ (pc q : Nat) (ls st : List PV) (M : Mem) (v : Int), lk X.1 pc = some (.iconst v, 1) → pc + 1 = q → (J q ls (wI v :: st) M) → J pc ls (st) M
def k_bipush (X : Sx) (L : Nat) (xc : Nat → Nat → Int) (J : Nat → List PV → List PV → Mem → Prop) : Prop := ∀ (pc q : Nat) (ls st : List PV) (M : Mem) (v : Int), lk X.1 pc = some (.bipush v, 2) → pc + 2 = q → -128 ≤ v ∧ v < 128 → (J q ls (wI v :: st) M) → J pc ls (st) M
def k_sipush (X : Sx) (L : Nat) (xc : Nat → Nat → Int) (J : Nat → List PV → List PV → Mem → Prop) : Prop := ∀ (pc q : Nat) (ls st : List PV) (M : Mem) (v : Int), lk X.1 pc = some (.sipush v, 3) → pc + 3 = q → -32768 ≤ v ∧ v < 32768 → (J q ls (wI v :: st) M) → J pc ls (st) M
def k_lconst (X : Sx) (L : Nat) (xc : Nat → Nat → Int) (J : Nat → List PV → List PV → Mem → Prop) : Prop := ∀ (pc q : Nat) (ls st : List PV) (M : Mem) (n : Fin 2) (v : Int), lk X.1 pc = some (.lconst n, 1) → pc + 1 = q → ((n : Nat) : Int) = v → (J q ls (wL v :: st) M) → J pc ls (st) M
def k_ldc2 (X : Sx) (L : Nat) (xc : Nat → Nat → Int) (J : Nat → List PV → List PV → Mem → Prop) : Prop := ∀ (pc q : Nat) (ls st : List PV) (M : Mem) (i : Nat) (v : Int), lk X.1 pc = some (.ldc2_w i, 3) → pc + 3 = q → lk X.2.2.1 i = some v → (J q ls (wL v :: st) M) → J pc ls (st) M
def k_ldcw (X : Sx) (L : Nat) (xc : Nat → Nat → Int) (J : Nat → List PV → List PV → Mem → Prop) : Prop := ∀ (pc q : Nat) (ls st : List PV) (M : Mem) (i : Nat) (v : Int), lk X.1 pc = some (.ldc_w i, 3) → pc + 3 = q → lk X.2.2.2.1 i = some v → (J q ls (wI v :: st) M) → J pc ls (st) M
def k_iload_n (X : Sx) (L : Nat) (xc : Nat → Nat → Int) (J : Nat → List PV → List PV → Mem → Prop) : Prop := ∀ (pc q : Nat) (ls st : List PV) (M : Mem) (k4 : Fin 4) (i : Nat) (x : Int), lk X.1 pc = some (.iload_n k4, 1) → pc + 1 = q → (k4 : Nat) = i → ls[i]? = some (some (.inl x)) → (J q ls (wI x :: st) M) → J pc ls (st) M
def k_iload (X : Sx) (L : Nat) (xc : Nat → Nat → Int) (J : Nat → List PV → List PV → Mem → Prop) : Prop := ∀ (pc q : Nat) (ls st : List PV) (M : Mem) (i : Nat) (x : Int), lk X.1 pc = some (.iload i, 2) → pc + 2 = q → ls[i]? = some (some (.inl x)) → (J q ls (wI x :: st) M) → J pc ls (st) M
def k_lload_n (X : Sx) (L : Nat) (xc : Nat → Nat → Int) (J : Nat → List PV → List PV → Mem → Prop) : Prop := ∀ (pc q : Nat) (ls st : List PV) (M : Mem) (k4 : Fin 4) (i : Nat) (x : Int), lk X.1 pc = some (.lload_n k4, 1) → pc + 1 = q → (k4 : Nat) = i → ls[i]? = some (some (.inr (.inr x))) → (J q ls (wL x :: st) M) → J pc ls (st) M
def k_lload (X : Sx) (L : Nat) (xc : Nat → Nat → Int) (J : Nat → List PV → List PV → Mem → Prop) : Prop := ∀ (pc q : Nat) (ls st : List PV) (M : Mem) (i : Nat) (x : Int), lk X.1 pc = some (.lload i, 2) → pc + 2 = q → ls[i]? = some (some (.inr (.inr x))) → (J q ls (wL x :: st) M) → J pc ls (st) M
def k_aload_n (X : Sx) (L : Nat) (xc : Nat → Nat → Int) (J : Nat → List PV → List PV → Mem → Prop) : Prop := ∀ (pc q : Nat) (ls st : List PV) (M : Mem) (k4 : Fin 4) (i r : Nat), lk X.1 pc = some (.aload_n k4, 1) → pc + 1 = q → (k4 : Nat) = i → ls[i]? = some (some (.inr (.inl r))) → (J q ls (wR r :: st) M) → J pc ls (st) M
def k_aload (X : Sx) (L : Nat) (xc : Nat → Nat → Int) (J : Nat → List PV → List PV → Mem → Prop) : Prop := ∀ (pc q : Nat) (ls st : List PV) (M : Mem) (i r : Nat), lk X.1 pc = some (.aload i, 2) → pc + 2 = q → ls[i]? = some (some (.inr (.inl r))) → (J q ls (wR r :: st) M) → J pc ls (st) M
def k_istore_n (X : Sx) (L : Nat) (xc : Nat → Nat → Int) (J : Nat → List PV → List PV → Mem → Prop) : Prop := ∀ (pc q : Nat) (ls st : List PV) (M : Mem) (k4 : Fin 4) (i : Nat) (x : Int), lk X.1 pc = some (.istore_n k4, 1) → pc + 1 = q → (k4 : Nat) = i → okS ls i = true → (J q (ls.set i (wI x)) st M) → J pc ls (wI x :: st) M
def k_istore (X : Sx) (L : Nat) (xc : Nat → Nat → Int) (J : Nat → List PV → List PV → Mem → Prop) : Prop := ∀ (pc q : Nat) (ls st : List PV) (M : Mem) (i : Nat) (x : Int), lk X.1 pc = some (.istore i, 2) → pc + 2 = q → okS ls i = true → (J q (ls.set i (wI x)) st M) → J pc ls (wI x :: st) M
def k_astore_n (X : Sx) (L : Nat) (xc : Nat → Nat → Int) (J : Nat → List PV → List PV → Mem → Prop) : Prop := ∀ (pc q : Nat) (ls st : List PV) (M : Mem) (k4 : Fin 4) (i r : Nat), lk X.1 pc = some (.astore_n k4, 1) → pc + 1 = q → (k4 : Nat) = i → okS ls i = true → (J q (ls.set i (wR r)) st M) → J pc ls (wR r :: st) M
def k_astore (X : Sx) (L : Nat) (xc : Nat → Nat → Int) (J : Nat → List PV → List PV → Mem → Prop) : Prop := ∀ (pc q : Nat) (ls st : List PV) (M : Mem) (i r : Nat), lk X.1 pc = some (.astore i, 2) → pc + 2 = q → okS ls i = true → (J q (ls.set i (wR r)) st M) → J pc ls (wR r :: st) M
def k_lstore_n (X : Sx) (L : Nat) (xc : Nat → Nat → Int) (J : Nat → List PV → List PV → Mem → Prop) : Prop := ∀ (pc q : Nat) (ls st : List PV) (M : Mem) (k4 : Fin 4) (i : Nat) (x : Int), lk X.1 pc = some (.lstore_n k4, 1) → pc + 1 = q → (k4 : Nat) = i → okS ls i = true → Nat.ble (i + 1 + 1) ls.length = true → (J q ((ls.set i (wL x)).set (i + 1) none) st M) → J pc ls (wL x :: st) M
def k_lstore (X : Sx) (L : Nat) (xc : Nat → Nat → Int) (J : Nat → List PV → List PV → Mem → Prop) : Prop := ∀ (pc q : Nat) (ls st : List PV) (M : Mem) (i : Nat) (x : Int), lk X.1 pc = some (.lstore i, 2) → pc + 2 = q → okS ls i = true → Nat.ble (i + 1 + 1) ls.length = true → (J q ((ls.set i (wL x)).set (i + 1) none) st M) → J pc ls (wL x :: st) M
def k_iinc (X : Sx) (L : Nat) (xc : Nat → Nat → Int) (J : Nat → List PV → List PV → Mem → Prop) : Prop := ∀ (pc q : Nat) (ls st : List PV) (M : Mem) (i : Nat) (n x : Int), lk X.1 pc = some (.iinc i n, 3) → pc + 3 = q → ls[i]? = some (some (.inl x)) → okS ls i = true → (J q (ls.set i (wI (x + n))) st M) → J pc ls st M
def k_iadd (X : Sx) (L : Nat) (xc : Nat → Nat → Int) (J : Nat → List PV → List PV → Mem → Prop) : Prop := ∀ (pc q : Nat) (ls st : List PV) (M : Mem) (x y : Int), lk X.1 pc = some (.iadd, 1) → pc + 1 = q → (J q ls (wI (x + y) :: st) M) → J pc ls (wI y :: wI x :: st) M
def k_isub (X : Sx) (L : Nat) (xc : Nat → Nat → Int) (J : Nat → List PV → List PV → Mem → Prop) : Prop := ∀ (pc q : Nat) (ls st : List PV) (M : Mem) (x y : Int), lk X.1 pc = some (.isub, 1) → pc + 1 = q → (J q ls (wI (x - y) :: st) M) → J pc ls (wI y :: wI x :: st) M
def k_imul (X : Sx) (L : Nat) (xc : Nat → Nat → Int) (J : Nat → List PV → List PV → Mem → Prop) : Prop := ∀ (pc q : Nat) (ls st : List PV) (M : Mem) (x y : Int), lk X.1 pc = some (.imul, 1) → pc + 1 = q → (J q ls (wI (x * y) :: st) M) → J pc ls (wI y :: wI x :: st) M
def k_idiv (X : Sx) (L : Nat) (xc : Nat → Nat → Int) (J : Nat → List PV → List PV → Mem → Prop) : Prop := ∀ (pc q : Nat) (ls st : List PV) (M : Mem) (x y : Int), lk X.1 pc = some (.idiv, 1) → pc + 1 = q → inr y ∧ y ≠ 0 → (J q ls (wI (i32div x y) :: st) M) → J pc ls (wI y :: wI x :: st) M
def k_irem (X : Sx) (L : Nat) (xc : Nat → Nat → Int) (J : Nat → List PV → List PV → Mem → Prop) : Prop := ∀ (pc q : Nat) (ls st : List PV) (M : Mem) (x y : Int), lk X.1 pc = some (.irem, 1) → pc + 1 = q → inr y ∧ y ≠ 0 → (J q ls (wI (i32rem x y) :: st) M) → J pc ls (wI y :: wI x :: st) M
def k_ineg (X : Sx) (L : Nat) (xc : Nat → Nat → Int) (J : Nat → List PV → List PV → Mem → Prop) : Prop := ∀ (pc q : Nat) (ls st : List PV) (M : Mem) (x : Int), lk X.1 pc = some (.ineg, 1) → pc + 1 = q → (J q ls (wI (-x) :: st) M) → J pc ls (wI x :: st) M
def k_ishl (X : Sx) (L : Nat) (xc : Nat → Nat → Int) (J : Nat → List PV → List PV → Mem → Prop) : Prop := ∀ (pc q : Nat) (ls st : List PV) (M : Mem) (x y : Int), lk X.1 pc = some (.ishl, 1) → pc + 1 = q → (J q ls (wI (xishl x y) :: st) M) → J pc ls (wI y :: wI x :: st) M
def k_ishr (X : Sx) (L : Nat) (xc : Nat → Nat → Int) (J : Nat → List PV → List PV → Mem → Prop) : Prop := ∀ (pc q : Nat) (ls st : List PV) (M : Mem) (x y : Int), lk X.1 pc = some (.ishr, 1) → pc + 1 = q → (J q ls (wI (xishr x y) :: st) M) → J pc ls (wI y :: wI x :: st) M
def k_iand (X : Sx) (L : Nat) (xc : Nat → Nat → Int) (J : Nat → List PV → List PV → Mem → Prop) : Prop := ∀ (pc q : Nat) (ls st : List PV) (M : Mem) (x y : Int), lk X.1 pc = some (.iand, 1) → pc + 1 = q → (J q ls (wI (xiand x y) :: st) M) → J pc ls (wI y :: wI x :: st) M
def k_ior (X : Sx) (L : Nat) (xc : Nat → Nat → Int) (J : Nat → List PV → List PV → Mem → Prop) : Prop := ∀ (pc q : Nat) (ls st : List PV) (M : Mem) (x y : Int), lk X.1 pc = some (.ior, 1) → pc + 1 = q → (J q ls (wI (xior x y) :: st) M) → J pc ls (wI y :: wI x :: st) M
def k_ixor (X : Sx) (L : Nat) (xc : Nat → Nat → Int) (J : Nat → List PV → List PV → Mem → Prop) : Prop := ∀ (pc q : Nat) (ls st : List PV) (M : Mem) (x y : Int), lk X.1 pc = some (.ixor, 1) → pc + 1 = q → (J q ls (wI (xixor x y) :: st) M) → J pc ls (wI y :: wI x :: st) M
def k_iushr (X : Sx) (L : Nat) (xc : Nat → Nat → Int) (J : Nat → List PV → List PV → Mem → Prop) : Prop := ∀ (pc q : Nat) (ls st : List PV) (M : Mem) (x y : Int), lk X.1 pc = some (.iushr, 1) → pc + 1 = q → (J q ls (wI (xiushr x y) :: st) M) → J pc ls (wI y :: wI x :: st) M
def k_land (X : Sx) (L : Nat) (xc : Nat → Nat → Int) (J : Nat → List PV → List PV → Mem → Prop) : Prop := ∀ (pc q : Nat) (ls st : List PV) (M : Mem) (x y : Int), lk X.1 pc = some (.land, 1) → pc + 1 = q → (J q ls (wL (xland x y) :: st) M) → J pc ls (wL y :: wL x :: st) M
def k_lor (X : Sx) (L : Nat) (xc : Nat → Nat → Int) (J : Nat → List PV → List PV → Mem → Prop) : Prop := ∀ (pc q : Nat) (ls st : List PV) (M : Mem) (x y : Int), lk X.1 pc = some (.lor, 1) → pc + 1 = q → (J q ls (wL (xlor x y) :: st) M) → J pc ls (wL y :: wL x :: st) M
def k_lushr (X : Sx) (L : Nat) (xc : Nat → Nat → Int) (J : Nat → List PV → List PV → Mem → Prop) : Prop := ∀ (pc q : Nat) (ls st : List PV) (M : Mem) (x y : Int), lk X.1 pc = some (.lushr, 1) → pc + 1 = q → (J q ls (wL (xlushr x y) :: st) M) → J pc ls (wI y :: wL x :: st) M
def k_lshl (X : Sx) (L : Nat) (xc : Nat → Nat → Int) (J : Nat → List PV → List PV → Mem → Prop) : Prop := ∀ (pc q : Nat) (ls st : List PV) (M : Mem) (x y : Int), lk X.1 pc = some (.lshl, 1) → pc + 1 = q → (J q ls (wL (xlshl x y) :: st) M) → J pc ls (wI y :: wL x :: st) M
def k_i2l (X : Sx) (L : Nat) (xc : Nat → Nat → Int) (J : Nat → List PV → List PV → Mem → Prop) : Prop := ∀ (pc q : Nat) (ls st : List PV) (M : Mem) (x : Int), lk X.1 pc = some (.i2l, 1) → pc + 1 = q → inr x → (J q ls (wL x :: st) M) → J pc ls (wI x :: st) M
def k_l2i (X : Sx) (L : Nat) (xc : Nat → Nat → Int) (J : Nat → List PV → List PV → Mem → Prop) : Prop := ∀ (pc q : Nat) (ls st : List PV) (M : Mem) (x : Int), lk X.1 pc = some (.l2i, 1) → pc + 1 = q → inl64 x → (J q ls (wI x :: st) M) → J pc ls (wL x :: st) M
def k_i2c (X : Sx) (L : Nat) (xc : Nat → Nat → Int) (J : Nat → List PV → List PV → Mem → Prop) : Prop := ∀ (pc q : Nat) (ls st : List PV) (M : Mem) (x : Int), lk X.1 pc = some (.i2c, 1) → pc + 1 = q → 0 ≤ x ∧ x < 65536 → (J q ls (wI x :: st) M) → J pc ls (wI x :: st) M
def k_lcmp (X : Sx) (L : Nat) (xc : Nat → Nat → Int) (J : Nat → List PV → List PV → Mem → Prop) : Prop := ∀ (pc q : Nat) (ls st : List PV) (M : Mem) (x y : Int), lk X.1 pc = some (.lcmp, 1) → pc + 1 = q → inl64 x → inl64 y → (J q ls (wI (if y < x then 1 else if x = y then 0 else -1) :: st) M) → J pc ls (wL y :: wL x :: st) M
def k_dup (X : Sx) (L : Nat) (xc : Nat → Nat → Int) (J : Nat → List PV → List PV → Mem → Prop) : Prop := ∀ (pc q : Nat) (ls st : List PV) (M : Mem) (x : Int ⊕ (Nat ⊕ Int)), lk X.1 pc = some (.dup, 1) → pc + 1 = q → isLong (some (some x)) = false → (J q ls (some x :: some x :: st) M) → J pc ls (some x :: st) M
def k_dup2 (X : Sx) (L : Nat) (xc : Nat → Nat → Int) (J : Nat → List PV → List PV → Mem → Prop) : Prop := ∀ (pc q : Nat) (ls st : List PV) (M : Mem) (x y : Int ⊕ (Nat ⊕ Int)), lk X.1 pc = some (.dup2, 1) → pc + 1 = q → isLong (some (some x)) = false → isLong (some (some y)) = false → (J q ls (some y :: some x :: some y :: some x :: st) M) → J pc ls (some y :: some x :: st) M
def k_pop (X : Sx) (L : Nat) (xc : Nat → Nat → Int) (J : Nat → List PV → List PV → Mem → Prop) : Prop := ∀ (pc q : Nat) (ls st : List PV) (M : Mem) (x : Int ⊕ (Nat ⊕ Int)), lk X.1 pc = some (.pop, 1) → pc + 1 = q → isLong (some (some x)) = false → (J q ls (st) M) → J pc ls (some x :: st) M
def k_icmp_eq (X : Sx) (L : Nat) (xc : Nat → Nat → Int) (J : Nat → List PV → List PV → Mem → Prop) : Prop := ∀ (pc q : Nat) (ls st : List PV) (M : Mem) (x : Int) (y : Int) (off : Int) (tgt : Nat), lk X.1 pc = some (.if_icmp .eq off, 3) → pc + 3 = q → (pc : Int) + off = (tgt : Int) → inr x → inr y → ((x = y → J tgt ls st M) ∧ (¬ (x = y) → J q ls st M)) → J pc ls (wI y :: wI x :: st) M
def k_if_eq (X : Sx) (L : Nat) (xc : Nat → Nat → Int) (J : Nat → List PV → List PV → Mem → Prop) : Prop := ∀ (pc q : Nat) (ls st : List PV) (M : Mem) (x : Int) (off : Int) (tgt : Nat), lk X.1 pc = some (.ifCond .eq off, 3) → pc + 3 = q → (pc : Int) + off = (tgt : Int) → inr x → ((x = 0 → J tgt ls st M) ∧ (¬ (x = 0) → J q ls st M)) → J pc ls (wI x :: st) M
def k_icmp_ne (X : Sx) (L : Nat) (xc : Nat → Nat → Int) (J : Nat → List PV → List PV → Mem → Prop) : Prop := ∀ (pc q : Nat) (ls st : List PV) (M : Mem) (x : Int) (y : Int) (off : Int) (tgt : Nat), lk X.1 pc = some (.if_icmp .ne off, 3) → pc + 3 = q → (pc : Int) + off = (tgt : Int) → inr x → inr y → ((x ≠ y → J tgt ls st M) ∧ (¬ (x ≠ y) → J q ls st M)) → J pc ls (wI y :: wI x :: st) M
def k_if_ne (X : Sx) (L : Nat) (xc : Nat → Nat → Int) (J : Nat → List PV → List PV → Mem → Prop) : Prop := ∀ (pc q : Nat) (ls st : List PV) (M : Mem) (x : Int) (off : Int) (tgt : Nat), lk X.1 pc = some (.ifCond .ne off, 3) → pc + 3 = q → (pc : Int) + off = (tgt : Int) → inr x → ((x ≠ 0 → J tgt ls st M) ∧ (¬ (x ≠ 0) → J q ls st M)) → J pc ls (wI x :: st) M
def k_icmp_lt (X : Sx) (L : Nat) (xc : Nat → Nat → Int) (J : Nat → List PV → List PV → Mem → Prop) : Prop := ∀ (pc q : Nat) (ls st : List PV) (M : Mem) (x : Int) (y : Int) (off : Int) (tgt : Nat), lk X.1 pc = some (.if_icmp .lt off, 3) → pc + 3 = q → (pc : Int) + off = (tgt : Int) → inr x → inr y → ((x < y → J tgt ls st M) ∧ (¬ (x < y) → J q ls st M)) → J pc ls (wI y :: wI x :: st) M
def k_if_lt (X : Sx) (L : Nat) (xc : Nat → Nat → Int) (J : Nat → List PV → List PV → Mem → Prop) : Prop := ∀ (pc q : Nat) (ls st : List PV) (M : Mem) (x : Int) (off : Int) (tgt : Nat), lk X.1 pc = some (.ifCond .lt off, 3) → pc + 3 = q → (pc : Int) + off = (tgt : Int) → inr x → ((x < 0 → J tgt ls st M) ∧ (¬ (x < 0) → J q ls st M)) → J pc ls (wI x :: st) M
def k_icmp_ge (X : Sx) (L : Nat) (xc : Nat → Nat → Int) (J : Nat → List PV → List PV → Mem → Prop) : Prop := ∀ (pc q : Nat) (ls st : List PV) (M : Mem) (x : Int) (y : Int) (off : Int) (tgt : Nat), lk X.1 pc = some (.if_icmp .ge off, 3) → pc + 3 = q → (pc : Int) + off = (tgt : Int) → inr x → inr y → ((y ≤ x → J tgt ls st M) ∧ (¬ (y ≤ x) → J q ls st M)) → J pc ls (wI y :: wI x :: st) M
def k_if_ge (X : Sx) (L : Nat) (xc : Nat → Nat → Int) (J : Nat → List PV → List PV → Mem → Prop) : Prop := ∀ (pc q : Nat) (ls st : List PV) (M : Mem) (x : Int) (off : Int) (tgt : Nat), lk X.1 pc = some (.ifCond .ge off, 3) → pc + 3 = q → (pc : Int) + off = (tgt : Int) → inr x → ((0 ≤ x → J tgt ls st M) ∧ (¬ (0 ≤ x) → J q ls st M)) → J pc ls (wI x :: st) M
def k_icmp_gt (X : Sx) (L : Nat) (xc : Nat → Nat → Int) (J : Nat → List PV → List PV → Mem → Prop) : Prop := ∀ (pc q : Nat) (ls st : List PV) (M : Mem) (x : Int) (y : Int) (off : Int) (tgt : Nat), lk X.1 pc = some (.if_icmp .gt off, 3) → pc + 3 = q → (pc : Int) + off = (tgt : Int) → inr x → inr y → ((y < x → J tgt ls st M) ∧ (¬ (y < x) → J q ls st M)) → J pc ls (wI y :: wI x :: st) M
def k_if_gt (X : Sx) (L : Nat) (xc : Nat → Nat → Int) (J : Nat → List PV → List PV → Mem → Prop) : Prop := ∀ (pc q : Nat) (ls st : List PV) (M : Mem) (x : Int) (off : Int) (tgt : Nat), lk X.1 pc = some (.ifCond .gt off, 3) → pc + 3 = q → (pc : Int) + off = (tgt : Int) → inr x → ((0 < x → J tgt ls st M) ∧ (¬ (0 < x) → J q ls st M)) → J pc ls (wI x :: st) M
def k_icmp_le (X : Sx) (L : Nat) (xc : Nat → Nat → Int) (J : Nat → List PV → List PV → Mem → Prop) : Prop := ∀ (pc q : Nat) (ls st : List PV) (M : Mem) (x : Int) (y : Int) (off : Int) (tgt : Nat), lk X.1 pc = some (.if_icmp .le off, 3) → pc + 3 = q → (pc : Int) + off = (tgt : Int) → inr x → inr y → ((x ≤ y → J tgt ls st M) ∧ (¬ (x ≤ y) → J q ls st M)) → J pc ls (wI y :: wI x :: st) M
def k_if_le (X : Sx) (L : Nat) (xc : Nat → Nat → Int) (J : Nat → List PV → List PV → Mem → Prop) : Prop := ∀ (pc q : Nat) (ls st : List PV) (M : Mem) (x : Int) (off : Int) (tgt : Nat), lk X.1 pc = some (.ifCond .le off, 3) → pc + 3 = q → (pc : Int) + off = (tgt : Int) → inr x → ((x ≤ 0 → J tgt ls st M) ∧ (¬ (x ≤ 0) → J q ls st M)) → J pc ls (wI x :: st) M
def k_goto (X : Sx) (L : Nat) (xc : Nat → Nat → Int) (J : Nat → List PV → List PV → Mem → Prop) : Prop := ∀ (pc q : Nat) (ls st : List PV) (M : Mem) (off : Int) (tgt : Nat), lk X.1 pc = some (.goto off, 3) → pc + 3 = q → (pc : Int) + off = (tgt : Int) → (J tgt ls st M) → J pc ls st M
def k_tblIn (X : Sx) (L : Nat) (xc : Nat → Nat → Int) (J : Nat → List PV → List PV → Mem → Prop) : Prop := ∀ (pc q : Nat) (ls st : List PV) (M : Mem) (x dflt lo hi : Int) (offs : Array Int) (len : Nat) (off : Int) (tgt : Nat), lk X.1 pc = some (.tableswitch dflt lo hi offs, len) → pc + len = q → inr x → lo ≤ x ∧ x ≤ hi → offs[(x - lo).toNat]? = some off → (pc : Int) + off = (tgt : Int) → (J tgt ls st M) → J pc ls (wI x :: st) M
def k_tblOut (X : Sx) (L : Nat) (xc : Nat → Nat → Int) (J : Nat → List PV → List PV → Mem → Prop) : Prop := ∀ (pc q : Nat) (ls st : List PV) (M : Mem) (x dflt lo hi : Int) (offs : Array Int) (len : Nat) (tgt : Nat), lk X.1 pc = some (.tableswitch dflt lo hi offs, len) → pc + len = q → inr x → x < lo ∨ hi < x → (pc : Int) + dflt = (tgt : Int) → (J tgt ls st M) → J pc ls (wI x :: st) M
def k_lookup (X : Sx) (L : Nat) (xc : Nat → Nat → Int) (J : Nat → List PV → List PV → Mem → Prop) : Prop := ∀ (pc q : Nat) (ls st : List PV) (M : Mem) (x dflt : Int) (ps : Array (Int × Int)) (len : Nat) (off : Int) (tgt : Nat), lk X.1 pc = some (.lookupswitch dflt ps, len) → pc + len = q → inr x → (ps.toList.zip (ps.toList.drop 1)).all (fun (a, next) => a.1 < next.1) = true → Op.lookupswitch.offset ps.toList dflt x = off → (pc : Int) + off = (tgt : Int) → (J tgt ls st M) → J pc ls (wI x :: st) M
def k_getI (X : Sx) (L : Nat) (xc : Nat → Nat → Int) (J : Nat → List PV → List PV → Mem → Prop) : Prop := ∀ (pc q : Nat) (ls st : List PV) (M : Mem) (i ci k0 r : Nat) (f : Nat → Option Nat), lk X.1 pc = some (.getfield i, 3) → pc + 3 = q → lk X.2.1 i = some (ci, k0) → LAY L r = .inl (ci, f) → f k0 = none → 3 ≤ r ∧ r < 191 → (J q ls (wI (M r k0) :: st) M) → J pc ls (wR r :: st) M
def k_getR (X : Sx) (L : Nat) (xc : Nat → Nat → Int) (J : Nat → List PV → List PV → Mem → Prop) : Prop := ∀ (pc q : Nat) (ls st : List PV) (M : Mem) (i ci k0 r r' : Nat) (f : Nat → Option Nat), lk X.1 pc = some (.getfield i, 3) → pc + 3 = q → lk X.2.1 i = some (ci, k0) → LAY L r = .inl (ci, f) → f k0 = some r' → 3 ≤ r ∧ r < 191 → (J q ls (wR r' :: st) M) → J pc ls (wR r :: st) M
def k_putI (X : Sx) (L : Nat) (xc : Nat → Nat → Int) (J : Nat → List PV → List PV → Mem → Prop) : Prop := ∀ (pc q : Nat) (ls st : List PV) (M : Mem) (i ci k0 r : Nat) (f : Nat → Option Nat) (x : Int), lk X.1 pc = some (.putfield i, 3) → pc + 3 = q → lk X.2.1 i = some (ci, k0) → LAY L r = .inl (ci, f) → f k0 = none → 3 ≤ r ∧ r < 191 → (TC ci k0).2.2.2 = false → tyC ci k0 = .int → (J q ls st (upM M r k0 x)) → J pc ls (wI x :: wR r :: st) M
def k_iald (X : Sx) (L : Nat) (xc : Nat → Nat → Int) (J : Nat → List PV → List PV → Mem → Prop) : Prop := ∀ (pc q : Nat) (ls st : List PV) (M : Mem) (i : Int) (r n : Nat), lk X.1 pc = some (.iaload, 1) → pc + 1 = q → LAY L r = .inr (.inl (0, n)) → 3 ≤ r ∧ r < 191 → 0 ≤ i ∧ i < n → (J q ls (wI (M r i.toNat) :: st) M) → J pc ls (wI i :: wR r :: st) M
def k_cald (X : Sx) (L : Nat) (xc : Nat → Nat → Int) (J : Nat → List PV → List PV → Mem → Prop) : Prop := ∀ (pc q : Nat) (ls st : List PV) (M : Mem) (i : Int) (r n : Nat), lk X.1 pc = some (.caload, 1) → pc + 1 = q → LAY L r = .inr (.inl (1, n)) → 3 ≤ r ∧ r < 191 → 0 ≤ i ∧ i < n → (J q ls (wI (M r i.toNat) :: st) M) → J pc ls (wI i :: wR r :: st) M
def k_zald (X : Sx) (L : Nat) (xc : Nat → Nat → Int) (J : Nat → List PV → List PV → Mem → Prop) : Prop := ∀ (pc q : Nat) (ls st : List PV) (M : Mem) (i : Int) (r n : Nat), lk X.1 pc = some (.baload, 1) → pc + 1 = q → LAY L r = .inr (.inl (2, n)) → 3 ≤ r ∧ r < 191 → 0 ≤ i ∧ i < n → (J q ls (wI (M r i.toNat) :: st) M) → J pc ls (wI i :: wR r :: st) M
def k_iast (X : Sx) (L : Nat) (xc : Nat → Nat → Int) (J : Nat → List PV → List PV → Mem → Prop) : Prop := ∀ (pc q : Nat) (ls st : List PV) (M : Mem) (x i : Int) (r n : Nat), lk X.1 pc = some (.iastore, 1) → pc + 1 = q → LAY L r = .inr (.inl (0, n)) → 3 ≤ r ∧ r < 191 → 0 ≤ i ∧ i < n → (J q ls st (upM M r i.toNat x)) → J pc ls (wI x :: wI i :: wR r :: st) M
def k_cast (X : Sx) (L : Nat) (xc : Nat → Nat → Int) (J : Nat → List PV → List PV → Mem → Prop) : Prop := ∀ (pc q : Nat) (ls st : List PV) (M : Mem) (x i : Int) (r n : Nat), lk X.1 pc = some (.castore, 1) → pc + 1 = q → LAY L r = .inr (.inl (1, n)) → 3 ≤ r ∧ r < 191 → 0 ≤ i ∧ i < n → 0 ≤ x ∧ x < 65536 → (J q ls st (upM M r i.toNat x)) → J pc ls (wI x :: wI i :: wR r :: st) M
def k_zast (X : Sx) (L : Nat) (xc : Nat → Nat → Int) (J : Nat → List PV → List PV → Mem → Prop) : Prop := ∀ (pc q : Nat) (ls st : List PV) (M : Mem) (x i : Int) (r n : Nat), lk X.1 pc = some (.bastore, 1) → pc + 1 = q → LAY L r = .inr (.inl (2, n)) → 3 ≤ r ∧ r < 191 → 0 ≤ i ∧ i < n → x = 0 ∨ x = 1 → (J q ls st (upM M r i.toNat x)) → J pc ls (wI x :: wI i :: wR r :: st) M
def k_aald (X : Sx) (L : Nat) (xc : Nat → Nat → Int) (J : Nat → List PV → List PV → Mem → Prop) : Prop := ∀ (pc q : Nat) (ls st : List PV) (M : Mem) (i : Int) (r t n : Nat) (f : Nat → Nat), lk X.1 pc = some (.aaload, 1) → pc + 1 = q → LAY L r = .inr (.inr (t, n, f)) → 3 ≤ r ∧ r < 191 → 0 ≤ i ∧ i < n → (J q ls (wR (f i.toNat) :: st) M) → J pc ls (wI i :: wR r :: st) M
def k_ialdX (X : Sx) (L : Nat) (xc : Nat → Nat → Int) (J : Nat → List PV → List PV → Mem → Prop) : Prop := ∀ (pc q : Nat) (ls st : List PV) (M : Mem) (i : Int) (r : Nat), lk X.1 pc = some (.iaload, 1) → pc + 1 = q → r < 3 → 0 ≤ i ∧ i < exN L r → (J q ls (wI (xc r i.toNat) :: st) M) → J pc ls (wI i :: wR r :: st) M
def k_alenX (X : Sx) (L : Nat) (xc : Nat → Nat → Int) (J : Nat → List PV → List PV → Mem → Prop) : Prop := ∀ (pc q : Nat) (ls st : List PV) (M : Mem) (r : Nat), lk X.1 pc = some (.arraylength, 1) → pc + 1 = q → r < 3 → (J q ls (wI (exN L r) :: st) M) → J pc ls (wR r :: st) M
def k_gets (X : Sx) (L : Nat) (xc : Nat → Nat → Int) (J : Nat → List PV → List PV → Mem → Prop) : Prop := ∀ (pc q : Nat) (ls st : List PV) (M : Mem) (i r : Nat), lk X.1 pc = some (.getstatic i, 3) → pc + 3 = q → lk X.2.2.2.2.1 i = some r → (J q ls (wR r :: st) M) → J pc ls st M
def k_copy (X : Sx) (L : Nat) (xc : Nat → Nat → Int) (J : Nat → List PV → List PV → Mem → Prop) : Prop := ∀ (pc q : Nat) (ls st : List PV) (M : Mem) (i r0 r1 n0 n1 : Nat) (sp dp n : Int), lk X.1 pc = some (.invokestatic i, 3) → pc + 3 = q → lk X.2.2.2.2.2.1 i = some 0 → LAY L r0 = .inr (.inl (0, n0)) → LAY L r1 = .inr (.inl (0, n1)) → (3 ≤ r0 ∧ r0 < 191) ∧ 3 ≤ r1 ∧ r1 < 191 → 0 ≤ sp ∧ 0 ≤ dp ∧ 0 ≤ n ∧ sp + n ≤ n0 ∧ dp + n ≤ n1 → Nat.ble (stW st) 8 = true → (J q ls st (cpM M r0 sp.toNat r1 dp.toNat n.toNat)) → J pc ls (wI n :: wI dp :: wR r1 :: wI sp :: wR r0 :: st) M
def k_mmax (X : Sx) (L : Nat) (xc : Nat → Nat → Int) (J : Nat → List PV → List PV → Mem → Prop) : Prop := ∀ (pc q : Nat) (ls st : List PV) (M : Mem) (i : Nat) (x y : Int), lk X.1 pc = some (.invokestatic i, 3) → pc + 3 = q → lk X.2.2.2.2.2.1 i = some 1 → inr x → inr y → Nat.ble (stW st) 8 = true → (J q ls (wI (if x < y then y else x) :: st) M) → J pc ls (wI y :: wI x :: st) M
def k_mmin (X : Sx) (L : Nat) (xc : Nat → Nat → Int) (J : Nat → List PV → List PV → Mem → Prop) : Prop := ∀ (pc q : Nat) (ls st : List PV) (M : Mem) (i : Nat) (x y : Int), lk X.1 pc = some (.invokestatic i, 3) → pc + 3 = q → lk X.2.2.2.2.2.1 i = some 2 → inr x → inr y → Nat.ble (stW st) 8 = true → (J q ls (wI (if y < x then y else x) :: st) M) → J pc ls (wI y :: wI x :: st) M
def k_mabs (X : Sx) (L : Nat) (xc : Nat → Nat → Int) (J : Nat → List PV → List PV → Mem → Prop) : Prop := ∀ (pc q : Nat) (ls st : List PV) (M : Mem) (i : Nat) (x : Int), lk X.1 pc = some (.invokestatic i, 3) → pc + 3 = q → lk X.2.2.2.2.2.1 i = some 3 → inr x → Nat.ble (stW st) 8 = true → (J q ls (wI (if 0 ≤ x then x else 0 - x) :: st) M) → J pc ls (wI x :: st) M
def k_callVI (X : Sx) (L : Nat) (xc : Nat → Nat → Int) (J : Nat → List PV → List PV → Mem → Prop) : Prop := ∀ (pc q : Nat) (ls st : List PV) (M : Mem) (i ci : Nat) (C : Ct) (as : List PV) (r : Nat) (f : Nat → Option Nat), lk X.1 pc = some (.invokevirtual i, 3) → pc + 3 = q → lk X.2.2.2.2.2.2.1 i = some (ci, C) → (wR r :: as).length = C.1 → C.2.1 = true → C.2.2.1 (wR r :: as) M → Nat.ble (stW st) 8 = true → LAY L r = .inl (ci, f) → 3 ≤ r ∧ r < 191 → (∀ (x : Int) (M' : Mem), C.2.2.2 (wR r :: as) M x M' → J q ls (wI x :: st) M') → J pc ls (as.reverse ++ wR r :: st) M
def k_callVN (X : Sx) (L : Nat) (xc : Nat → Nat → Int) (J : Nat → List PV → List PV → Mem → Prop) : Prop := ∀ (pc q : Nat) (ls st : List PV) (M : Mem) (i ci : Nat) (C : Ct) (as : List PV) (r : Nat) (f : Nat → Option Nat), lk X.1 pc = some (.invokevirtual i, 3) → pc + 3 = q → lk X.2.2.2.2.2.2.1 i = some (ci, C) → (wR r :: as).length = C.1 → C.2.1 = false → C.2.2.1 (wR r :: as) M → Nat.ble (stW st) 8 = true → LAY L r = .inl (ci, f) → 3 ≤ r ∧ r < 191 → (∀ (M' : Mem), C.2.2.2 (wR r :: as) M 0 M' → J q ls st M') → J pc ls (as.reverse ++ wR r :: st) M
def k_callSI (X : Sx) (L : Nat) (xc : Nat → Nat → Int) (J : Nat → List PV → List PV → Mem → Prop) : Prop := ∀ (pc q : Nat) (ls st : List PV) (M : Mem) (i ci : Nat) (C : Ct) (as : List PV), lk X.1 pc = some (.invokestatic i, 3) → pc + 3 = q → lk X.2.2.2.2.2.2.1 i = some (ci, C) → (as).length = C.1 → C.2.1 = true → C.2.2.1 (as) M → Nat.ble (stW st) 8 = true → ci = 9 → (∀ (x : Int) (M' : Mem), C.2.2.2 (as) M x M' → J q ls (wI x :: st) M') → J pc ls (as.reverse ++ st) M
def k_callSN (X : Sx) (L : Nat) (xc : Nat → Nat → Int) (J : Nat → List PV → List PV → Mem → Prop) : Prop := ∀ (pc q : Nat) (ls st : List PV) (M : Mem) (i ci : Nat) (C : Ct) (as : List PV), lk X.1 pc = some (.invokestatic i, 3) → pc + 3 = q → lk X.2.2.2.2.2.2.1 i = some (ci, C) → (as).length = C.1 → C.2.1 = false → C.2.2.1 (as) M → Nat.ble (stW st) 8 = true → ci = 9 → (∀ (M' : Mem), C.2.2.2 (as) M 0 M' → J q ls st M') → J pc ls (as.reverse ++ st) M
def k_ret (X : Sx) (Qp : Int → Mem → Prop) (J : Nat → List PV → List PV → Mem → Prop) : Prop := ∀ (pc : Nat) (ls : List PV) (M : Mem) (x : Int), lk X.1 pc = some (.ireturn, 1) → (X.2.2.2.2.2.2.2 = 1 ∨ (X.2.2.2.2.2.2.2 = 2 ∧ (x = 0 ∨ x = 1))) → Qp x M → J pc ls [wI x] M
def k_vret (X : Sx) (Qp : Int → Mem → Prop) (J : Nat → List PV → List PV → Mem → Prop) : Prop := ∀ (pc : Nat) (ls : List PV) (M : Mem), lk X.1 pc = some (.return_, 1) → X.2.2.2.2.2.2.2 = 0 → Qp 0 M → J pc ls [] M
def Clo (X : Sx) (L : Nat) (xc : Nat → Nat → Int) (Qp : Int → Mem → Prop) (J : Nat → List PV → List PV → Mem → Prop) : Prop :=
  k_iconst X L xc J ∧ k_bipush X L xc J ∧ k_sipush X L xc J ∧ k_lconst X L xc J ∧ k_ldc2 X L xc J ∧ k_ldcw X L xc J ∧ k_iload_n X L xc J ∧ k_iload X L xc J ∧ k_lload_n X L xc J ∧ k_lload X L xc J ∧ k_aload_n X L xc J ∧ k_aload X L xc J ∧ k_istore_n X L xc J ∧ k_istore X L xc J ∧ k_astore_n X L xc J ∧ k_astore X L xc J ∧ k_lstore_n X L xc J ∧ k_lstore X L xc J ∧ k_iinc X L xc J ∧ k_iadd X L xc J ∧ k_isub X L xc J ∧ k_imul X L xc J ∧ k_idiv X L xc J ∧ k_irem X L xc J ∧ k_ineg X L xc J ∧ k_ishl X L xc J ∧ k_ishr X L xc J ∧ k_iand X L xc J ∧ k_ior X L xc J ∧ k_ixor X L xc J ∧ k_iushr X L xc J ∧ k_land X L xc J ∧ k_lor X L xc J ∧ k_lushr X L xc J ∧ k_lshl X L xc J ∧ k_i2l X L xc J ∧ k_l2i X L xc J ∧ k_i2c X L xc J ∧ k_lcmp X L xc J ∧ k_dup X L xc J ∧ k_dup2 X L xc J ∧ k_pop X L xc J ∧ k_icmp_eq X L xc J ∧ k_if_eq X L xc J ∧ k_icmp_ne X L xc J ∧ k_if_ne X L xc J ∧ k_icmp_lt X L xc J ∧ k_if_lt X L xc J ∧ k_icmp_ge X L xc J ∧ k_if_ge X L xc J ∧ k_icmp_gt X L xc J ∧ k_if_gt X L xc J ∧ k_icmp_le X L xc J ∧ k_if_le X L xc J ∧ k_goto X L xc J ∧ k_tblIn X L xc J ∧ k_tblOut X L xc J ∧ k_lookup X L xc J ∧ k_getI X L xc J ∧ k_getR X L xc J ∧ k_putI X L xc J ∧ k_iald X L xc J ∧ k_cald X L xc J ∧ k_zald X L xc J ∧ k_iast X L xc J ∧ k_cast X L xc J ∧ k_zast X L xc J ∧ k_aald X L xc J ∧ k_ialdX X L xc J ∧ k_alenX X L xc J ∧ k_gets X L xc J ∧ k_copy X L xc J ∧ k_mmax X L xc J ∧ k_mmin X L xc J ∧ k_mabs X L xc J ∧ k_callVI X L xc J ∧ k_callVN X L xc J ∧ k_callSI X L xc J ∧ k_callSN X L xc J ∧ k_ret X Qp J ∧ k_vret X Qp J
/-- derivable: the machine that is here comes to its end, with Qp of its answer and its memory -/
def Runs (X : Sx) (L : Nat) (xc : Nat → Nat → Int) (Qp : Int → Mem → Prop) (pc : Nat) (ls st : List PV) (M : Mem) : Prop := ∀ J : Nat → List PV → List PV → Mem → Prop, Clo X L xc Qp J → J pc ls st M
theorem R_iconst {X : Sx} {L : Nat} {xc : Nat → Nat → Int} {Qp : Int → Mem → Prop} {pc q : Nat} {ls st : List PV} {M : Mem} {v : Int} (h1 : lk X.1 pc = some (.iconst v, 1)) (h2 : pc + 1 = q) (k : Runs X L xc Qp q ls (wI v :: st) M) : Runs X L xc Qp pc ls (st) M := fun J c => c.1 pc q ls st M v h1 h2 (k J c)
theorem R_bipush {X : Sx} {L : Nat} {xc : Nat → Nat → Int} {Qp : Int → Mem → Prop} {pc q : Nat} {ls st : List PV} {M : Mem} {v : Int} (h1 : lk X.1 pc = some (.bipush v, 2)) (h2 : pc + 2 = q) (h3 : -128 ≤ v ∧ v < 128) (k : Runs X L xc Qp q ls (wI v :: st) M) : Runs X L xc Qp pc ls (st) M := fun J c => c.2.1 pc q ls st M v h1 h2 h3 (k J c)
theorem R_sipush {X : Sx} {L : Nat} {xc : Nat → Nat → Int} {Qp : Int → Mem → Prop} {pc q : Nat} {ls st : List PV} {M : Mem} {v : Int} (h1 : lk X.1 pc = some (.sipush v, 3)) (h2 : pc + 3 = q) (h3 : -32768 ≤ v ∧ v < 32768) (k : Runs X L xc Qp q ls (wI v :: st) M) : Runs X L xc Qp pc ls (st) M := fun J c => c.2.2.1 pc q ls st M v h1 h2 h3 (k J c)
theorem R_lconst {X : Sx} {L : Nat} {xc : Nat → Nat → Int} {Qp : Int → Mem → Prop} {pc q : Nat} {ls st : List PV} {M : Mem} {n : Fin 2} {v : Int} (h1 : lk X.1 pc = some (.lconst n, 1)) (h2 : pc + 1 = q) (h3 : ((n : Nat) : Int) = v) (k : Runs X L xc Qp q ls (wL v :: st) M) : Runs X L xc Qp pc ls (st) M := fun J c => c.2.2.2.1 pc q ls st M n v h1 h2 h3 (k J c)
theorem R_ldc2 {X : Sx} {L : Nat} {xc : Nat → Nat → Int} {Qp : Int → Mem → Prop} {pc q : Nat} {ls st : List PV} {M : Mem} {i : Nat} {v : Int} (h1 : lk X.1 pc = some (.ldc2_w i, 3)) (h2 : pc + 3 = q) (h3 : lk X.2.2.1 i = some v) (k : Runs X L xc Qp q ls (wL v :: st) M) : Runs X L xc Qp pc ls (st) M := fun J c => c.2.2.2.2.1 pc q ls st M i v h1 h2 h3 (k J c)
theorem R_ldcw {X : Sx} {L : Nat} {xc : Nat → Nat → Int} {Qp : Int → Mem → Prop} {pc q : Nat} {ls st : List PV} {M : Mem} {i : Nat} {v : Int} (h1 : lk X.1 pc = some (.ldc_w i, 3)) (h2 : pc + 3 = q) (h3 : lk X.2.2.2.1 i = some v) (k : Runs X L xc Qp q ls (wI v :: st) M) : Runs X L xc Qp pc ls (st) M := fun J c => c.2.2.2.2.2.1 pc q ls st M i v h1 h2 h3 (k J c)
theorem R_iload_n {X : Sx} {L : Nat} {xc : Nat → Nat → Int} {Qp : Int → Mem → Prop} {pc q : Nat} {ls st : List PV} {M : Mem} {k4 : Fin 4} {i : Nat} {x : Int} (h1 : lk X.1 pc = some (.iload_n k4, 1)) (h2 : pc + 1 = q) (h3 : (k4 : Nat) = i) (h4 : ls[i]? = some (some (.inl x))) (k : Runs X L xc Qp q ls (wI x :: st) M) : Runs X L xc Qp pc ls (st) M := fun J c => c.2.2.2.2.2.2.1 pc q ls st M k4 i x h1 h2 h3 h4 (k J c)
theorem R_iload {X : Sx} {L : Nat} {xc : Nat → Nat → Int} {Qp : Int → Mem → Prop} {pc q : Nat} {ls st : List PV} {M : Mem} {i : Nat} {x : Int} (h1 : lk X.1 pc = some (.iload i, 2)) (h2 : pc + 2 = q) (h3 : ls[i]? = some (some (.inl x))) (k : Runs X L xc Qp q ls (wI x :: st) M) : Runs X L xc Qp pc ls (st) M := fun J c => c.2.2.2.2.2.2.2.1 pc q ls st M i x h1 h2 h3 (k J c)
theorem R_lload_n {X : Sx} {L : Nat} {xc : Nat → Nat → Int} {Qp : Int → Mem → Prop} {pc q : Nat} {ls st : List PV} {M : Mem} {k4 : Fin 4} {i : Nat} {x : Int} (h1 : lk X.1 pc = some (.lload_n k4, 1)) (h2 : pc + 1 = q) (h3 : (k4 : Nat) = i) (h4 : ls[i]? = some (some (.inr (.inr x)))) (k : Runs X L xc Qp q ls (wL x :: st) M) : Runs X L xc Qp pc ls (st) M := fun J c => c.2.2.2.2.2.2.2.2.1 pc q ls st M k4 i x h1 h2 h3 h4 (k J c)
theorem R_lload {X : Sx} {L : Nat} {xc : Nat → Nat → Int} {Qp : Int → Mem → Prop} {pc q : Nat} {ls st : List PV} {M : Mem} {i : Nat} {x : Int} (h1 : lk X.1 pc = some (.lload i, 2)) (h2 : pc + 2 = q) (h3 : ls[i]? = some (some (.inr (.inr x)))) (k : Runs X L xc Qp q ls (wL x :: st) M) : Runs X L xc Qp pc ls (st) M := fun J c => c.2.2.2.2.2.2.2.2.2.1 pc q ls st M i x h1 h2 h3 (k J c)
theorem R_aload_n {X : Sx} {L : Nat} {xc : Nat → Nat → Int} {Qp : Int → Mem → Prop} {pc q : Nat} {ls st : List PV} {M : Mem} {k4 : Fin 4} {i r : Nat} (h1 : lk X.1 pc = some (.aload_n k4, 1)) (h2 : pc + 1 = q) (h3 : (k4 : Nat) = i) (h4 : ls[i]? = some (some (.inr (.inl r)))) (k : Runs X L xc Qp q ls (wR r :: st) M) : Runs X L xc Qp pc ls (st) M := fun J c => c.2.2.2.2.2.2.2.2.2.2.1 pc q ls st M k4 i r h1 h2 h3 h4 (k J c)
theorem R_aload {X : Sx} {L : Nat} {xc : Nat → Nat → Int} {Qp : Int → Mem → Prop} {pc q : Nat} {ls st : List PV} {M : Mem} {i r : Nat} (h1 : lk X.1 pc = some (.aload i, 2)) (h2 : pc + 2 = q) (h3 : ls[i]? = some (some (.inr (.inl r)))) (k : Runs X L xc Qp q ls (wR r :: st) M) : Runs X L xc Qp pc ls (st) M := fun J c => c.2.2.2.2.2.2.2.2.2.2.2.1 pc q ls st M i r h1 h2 h3 (k J c)
theorem R_istore_n {X : Sx} {L : Nat} {xc : Nat → Nat → Int} {Qp : Int → Mem → Prop} {pc q : Nat} {ls st : List PV} {M : Mem} {k4 : Fin 4} {i : Nat} {x : Int} (h1 : lk X.1 pc = some (.istore_n k4, 1)) (h2 : pc + 1 = q) (h3 : (k4 : Nat) = i) (h4 : okS ls i = true) (k : Runs X L xc Qp q (ls.set i (wI x)) st M) : Runs X L xc Qp pc ls (wI x :: st) M := fun J c => c.2.2.2.2.2.2.2.2.2.2.2.2.1 pc q ls st M k4 i x h1 h2 h3 h4 (k J c)
theorem R_istore {X : Sx} {L : Nat} {xc : Nat → Nat → Int} {Qp : Int → Mem → Prop} {pc q : Nat} {ls st : List PV} {M : Mem} {i : Nat} {x : Int} (h1 : lk X.1 pc = some (.istore i, 2)) (h2 : pc + 2 = q) (h3 : okS ls i = true) (k : Runs X L xc Qp q (ls.set i (wI x)) st M) : Runs X L xc Qp pc ls (wI x :: st) M := fun J c => c.2.2.2.2.2.2.2.2.2.2.2.2.2.1 pc q ls st M i x h1 h2 h3 (k J c)
theorem R_astore_n {X : Sx} {L : Nat} {xc : Nat → Nat → Int} {Qp : Int → Mem → Prop} {pc q : Nat} {ls st : List PV} {M : Mem} {k4 : Fin 4} {i r : Nat} (h1 : lk X.1 pc = some (.astore_n k4, 1)) (h2 : pc + 1 = q) (h3 : (k4 : Nat) = i) (h4 : okS ls i = true) (k : Runs X L xc Qp q (ls.set i (wR r)) st M) : Runs X L xc Qp pc ls (wR r :: st) M := fun J c => c.2.2.2.2.2.2.2.2.2.2.2.2.2.2.1 pc q ls st M k4 i r h1 h2 h3 h4 (k J c)
theorem R_astore {X : Sx} {L : Nat} {xc : Nat → Nat → Int} {Qp : Int → Mem → Prop} {pc q : Nat} {ls st : List PV} {M : Mem} {i r : Nat} (h1 : lk X.1 pc = some (.astore i, 2)) (h2 : pc + 2 = q) (h3 : okS ls i = true) (k : Runs X L xc Qp q (ls.set i (wR r)) st M) : Runs X L xc Qp pc ls (wR r :: st) M := fun J c => c.2.2.2.2.2.2.2.2.2.2.2.2.2.2.2.1 pc q ls st M i r h1 h2 h3 (k J c)
theorem R_lstore_n {X : Sx} {L : Nat} {xc : Nat → Nat → Int} {Qp : Int → Mem → Prop} {pc q : Nat} {ls st : List PV} {M : Mem} {k4 : Fin 4} {i : Nat} {x : Int} (h1 : lk X.1 pc = some (.lstore_n k4, 1)) (h2 : pc + 1 = q) (h3 : (k4 : Nat) = i) (h4 : okS ls i = true) (h5 : Nat.ble (i + 1 + 1) ls.length = true) (k : Runs X L xc Qp q ((ls.set i (wL x)).set (i + 1) none) st M) : Runs X L xc Qp pc ls (wL x :: st) M := fun J c => c.2.2.2.2.2.2.2.2.2.2.2.2.2.2.2.2.1 pc q ls st M k4 i x h1 h2 h3 h4 h5 (k J c)
theorem R_lstore {X : Sx} {L : Nat} {xc : Nat → Nat → Int} {Qp : Int → Mem → Prop} {pc q : Nat} {ls st : List PV} {M : Mem} {i : Nat} {x : Int} (h1 : lk X.1 pc = some (.lstore i, 2)) (h2 : pc + 2 = q) (h3 : okS ls i = true) (h4 : Nat.ble (i + 1 + 1) ls.length = true) (k : Runs X L xc Qp q ((ls.set i (wL x)).set (i + 1) none) st M) : Runs X L xc Qp pc ls (wL x :: st) M := fun J c => c.2.2.2.2.2.2.2.2.2.2.2.2.2.2.2.2.2.1 pc q ls st M i x h1 h2 h3 h4 (k J c)
theorem R_iinc {X : Sx} {L : Nat} {xc : Nat → Nat → Int} {Qp : Int → Mem → Prop} {pc q : Nat} {ls st : List PV} {M : Mem} {i : Nat} {n x : Int} (h1 : lk X.1 pc = some (.iinc i n, 3)) (h2 : pc + 3 = q) (h3 : ls[i]? = some (some (.inl x))) (h4 : okS ls i = true) (k : Runs X L xc Qp q (ls.set i (wI (x + n))) st M) : Runs X L xc Qp pc ls st M := fun J c => c.2.2.2.2.2.2.2.2.2.2.2.2.2.2.2.2.2.2.1 pc q ls st M i n x h1 h2 h3 h4 (k J c)
theorem R_iadd {X : Sx} {L : Nat} {xc : Nat → Nat → Int} {Qp : Int → Mem → Prop} {pc q : Nat} {ls st : List PV} {M : Mem} {x y : Int} (h1 : lk X.1 pc = some (.iadd, 1)) (h2 : pc + 1 = q) (k : Runs X L xc Qp q ls (wI (x + y) :: st) M) : Runs X L xc Qp pc ls (wI y :: wI x :: st) M := fun J c => c.2.2.2.2.2.2.2.2.2.2.2.2.2.2.2.2.2.2.2.1 pc q ls st M x y h1 h2 (k J c)
theorem R_isub {X : Sx} {L : Nat} {xc : Nat → Nat → Int} {Qp : Int → Mem → Prop} {pc q : Nat} {ls st : List PV} {M : Mem} {x y : Int} (h1 : lk X.1 pc = some (.isub, 1)) (h2 : pc + 1 = q) (k : Runs X L xc Qp q ls (wI (x - y) :: st) M) : Runs X L xc Qp pc ls (wI y :: wI x :: st) M := fun J c => c.2.2.2.2.2.2.2.2.2.2.2.2.2.2.2.2.2.2.2.2.1 pc q ls st M x y h1 h2 (k J c)
theorem R_imul {X : Sx} {L : Nat} {xc : Nat → Nat → Int} {Qp : Int → Mem → Prop} {pc q : Nat} {ls st : List PV} {M : Mem} {x y : Int} (h1 : lk X.1 pc = some (.imul, 1)) (h2 : pc + 1 = q) (k : Runs X L xc Qp q ls (wI (x * y) :: st) M) : Runs X L xc Qp pc ls (wI y :: wI x :: st) M := fun J c => c.2.2.2.2.2.2.2.2.2.2.2.2.2.2.2.2.2.2.2.2.2.1 pc q ls st M x y h1 h2 (k J c)
theorem R_idiv {X : Sx} {L : Nat} {xc : Nat → Nat → Int} {Qp : Int → Mem → Prop} {pc q : Nat} {ls st : List PV} {M : Mem} {x y : Int} (h1 : lk X.1 pc = some (.idiv, 1)) (h2 : pc + 1 = q) (h3 : inr y ∧ y ≠ 0) (k : Runs X L xc Qp q ls (wI (i32div x y) :: st) M) : Runs X L xc Qp pc ls (wI y :: wI x :: st) M := fun J c => c.2.2.2.2.2.2.2.2.2.2.2.2.2.2.2.2.2.2.2.2.2.2.1 pc q ls st M x y h1 h2 h3 (k J c)
theorem R_irem {X : Sx} {L : Nat} {xc : Nat → Nat → Int} {Qp : Int → Mem → Prop} {pc q : Nat} {ls st : List PV} {M : Mem} {x y : Int} (h1 : lk X.1 pc = some (.irem, 1)) (h2 : pc + 1 = q) (h3 : inr y ∧ y ≠ 0) (k : Runs X L xc Qp q ls (wI (i32rem x y) :: st) M) : Runs X L xc Qp pc ls (wI y :: wI x :: st) M := fun J c => c.2.2.2.2.2.2.2.2.2.2.2.2.2.2.2.2.2.2.2.2.2.2.2.1 pc q ls st M x y h1 h2 h3 (k J c)
theorem R_ineg {X : Sx} {L : Nat} {xc : Nat → Nat → Int} {Qp : Int → Mem → Prop} {pc q : Nat} {ls st : List PV} {M : Mem} {x : Int} (h1 : lk X.1 pc = some (.ineg, 1)) (h2 : pc + 1 = q) (k : Runs X L xc Qp q ls (wI (-x) :: st) M) : Runs X L xc Qp pc ls (wI x :: st) M := fun J c => c.2.2.2.2.2.2.2.2.2.2.2.2.2.2.2.2.2.2.2.2.2.2.2.2.1 pc q ls st M x h1 h2 (k J c)
theorem R_ishl {X : Sx} {L : Nat} {xc : Nat → Nat → Int} {Qp : Int → Mem → Prop} {pc q : Nat} {ls st : List PV} {M : Mem} {x y : Int} (h1 : lk X.1 pc = some (.ishl, 1)) (h2 : pc + 1 = q) (k : Runs X L xc Qp q ls (wI (xishl x y) :: st) M) : Runs X L xc Qp pc ls (wI y :: wI x :: st) M := fun J c => c.2.2.2.2.2.2.2.2.2.2.2.2.2.2.2.2.2.2.2.2.2.2.2.2.2.1 pc q ls st M x y h1 h2 (k J c)
theorem R_ishr {X : Sx} {L : Nat} {xc : Nat → Nat → Int} {Qp : Int → Mem → Prop} {pc q : Nat} {ls st : List PV} {M : Mem} {x y : Int} (h1 : lk X.1 pc = some (.ishr, 1)) (h2 : pc + 1 = q) (k : Runs X L xc Qp q ls (wI (xishr x y) :: st) M) : Runs X L xc Qp pc ls (wI y :: wI x :: st) M := fun J c => c.2.2.2.2.2.2.2.2.2.2.2.2.2.2.2.2.2.2.2.2.2.2.2.2.2.2.1 pc q ls st M x y h1 h2 (k J c)
theorem R_iand {X : Sx} {L : Nat} {xc : Nat → Nat → Int} {Qp : Int → Mem → Prop} {pc q : Nat} {ls st : List PV} {M : Mem} {x y : Int} (h1 : lk X.1 pc = some (.iand, 1)) (h2 : pc + 1 = q) (k : Runs X L xc Qp q ls (wI (xiand x y) :: st) M) : Runs X L xc Qp pc ls (wI y :: wI x :: st) M := fun J c => c.2.2.2.2.2.2.2.2.2.2.2.2.2.2.2.2.2.2.2.2.2.2.2.2.2.2.2.1 pc q ls st M x y h1 h2 (k J c)
theorem R_ior {X : Sx} {L : Nat} {xc : Nat → Nat → Int} {Qp : Int → Mem → Prop} {pc q : Nat} {ls st : List PV} {M : Mem} {x y : Int} (h1 : lk X.1 pc = some (.ior, 1)) (h2 : pc + 1 = q) (k : Runs X L xc Qp q ls (wI (xior x y) :: st) M) : Runs X L xc Qp pc ls (wI y :: wI x :: st) M := fun J c => c.2.2.2.2.2.2.2.2.2.2.2.2.2.2.2.2.2.2.2.2.2.2.2.2.2.2.2.2.1 pc q ls st M x y h1 h2 (k J c)
theorem R_ixor {X : Sx} {L : Nat} {xc : Nat → Nat → Int} {Qp : Int → Mem → Prop} {pc q : Nat} {ls st : List PV} {M : Mem} {x y : Int} (h1 : lk X.1 pc = some (.ixor, 1)) (h2 : pc + 1 = q) (k : Runs X L xc Qp q ls (wI (xixor x y) :: st) M) : Runs X L xc Qp pc ls (wI y :: wI x :: st) M := fun J c => c.2.2.2.2.2.2.2.2.2.2.2.2.2.2.2.2.2.2.2.2.2.2.2.2.2.2.2.2.2.1 pc q ls st M x y h1 h2 (k J c)
theorem R_iushr {X : Sx} {L : Nat} {xc : Nat → Nat → Int} {Qp : Int → Mem → Prop} {pc q : Nat} {ls st : List PV} {M : Mem} {x y : Int} (h1 : lk X.1 pc = some (.iushr, 1)) (h2 : pc + 1 = q) (k : Runs X L xc Qp q ls (wI (xiushr x y) :: st) M) : Runs X L xc Qp pc ls (wI y :: wI x :: st) M := fun J c => c.2.2.2.2.2.2.2.2.2.2.2.2.2.2.2.2.2.2.2.2.2.2.2.2.2.2.2.2.2.2.1 pc q ls st M x y h1 h2 (k J c)
theorem R_land {X : Sx} {L : Nat} {xc : Nat → Nat → Int} {Qp : Int → Mem → Prop} {pc q : Nat} {ls st : List PV} {M : Mem} {x y : Int} (h1 : lk X.1 pc = some (.land, 1)) (h2 : pc + 1 = q) (k : Runs X L xc Qp q ls (wL (xland x y) :: st) M) : Runs X L xc Qp pc ls (wL y :: wL x :: st) M := fun J c => c.2.2.2.2.2.2.2.2.2.2.2.2.2.2.2.2.2.2.2.2.2.2.2.2.2.2.2.2.2.2.2.1 pc q ls st M x y h1 h2 (k J c)
theorem R_lor {X : Sx} {L : Nat} {xc : Nat → Nat → Int} {Qp : Int → Mem → Prop} {pc q : Nat} {ls st : List PV} {M : Mem} {x y : Int} (h1 : lk X.1 pc = some (.lor, 1)) (h2 : pc + 1 = q) (k : Runs X L xc Qp q ls (wL (xlor x y) :: st) M) : Runs X L xc Qp pc ls (wL y :: wL x :: st) M := fun J c => c.2.2.2.2.2.2.2.2.2.2.2.2.2.2.2.2.2.2.2.2.2.2.2.2.2.2.2.2.2.2.2.2.1 pc q ls st M x y h1 h2 (k J c)
theorem R_lushr {X : Sx} {L : Nat} {xc : Nat → Nat → Int} {Qp : Int → Mem → Prop} {pc q : Nat} {ls st : List PV} {M : Mem} {x y : Int} (h1 : lk X.1 pc = some (.lushr, 1)) (h2 : pc + 1 = q) (k : Runs X L xc Qp q ls (wL (xlushr x y) :: st) M) : Runs X L xc Qp pc ls (wI y :: wL x :: st) M := fun J c => c.2.2.2.2.2.2.2.2.2.2.2.2.2.2.2.2.2.2.2.2.2.2.2.2.2.2.2.2.2.2.2.2.2.1 pc q ls st M x y h1 h2 (k J c)
theorem R_lshl {X : Sx} {L : Nat} {xc : Nat → Nat → Int} {Qp : Int → Mem → Prop} {pc q : Nat} {ls st : List PV} {M : Mem} {x y : Int} (h1 : lk X.1 pc = some (.lshl, 1)) (h2 : pc + 1 = q) (k : Runs X L xc Qp q ls (wL (xlshl x y) :: st) M) : Runs X L xc Qp pc ls (wI y :: wL x :: st) M := fun J c => c.2.2.2.2.2.2.2.2.2.2.2.2.2.2.2.2.2.2.2.2.2.2.2.2.2.2.2.2.2.2.2.2.2.2.1 pc q ls st M x y h1 h2 (k J c)
theorem R_i2l {X : Sx} {L : Nat} {xc : Nat → Nat → Int} {Qp : Int → Mem → Prop} {pc q : Nat} {ls st : List PV} {M : Mem} {x : Int} (h1 : lk X.1 pc = some (.i2l, 1)) (h2 : pc + 1 = q) (h3 : inr x) (k : Runs X L xc Qp q ls (wL x :: st) M) : Runs X L xc Qp pc ls (wI x :: st) M := fun J c => c.2.2.2.2.2.2.2.2.2.2.2.2.2.2.2.2.2.2.2.2.2.2.2.2.2.2.2.2.2.2.2.2.2.2.2.1 pc q ls st M x h1 h2 h3 (k J c)
theorem R_l2i {X : Sx} {L : Nat} {xc : Nat → Nat → Int} {Qp : Int → Mem → Prop} {pc q : Nat} {ls st : List PV} {M : Mem} {x : Int} (h1 : lk X.1 pc = some (.l2i, 1)) (h2 : pc + 1 = q) (h3 : inl64 x) (k : Runs X L xc Qp q ls (wI x :: st) M) : Runs X L xc Qp pc ls (wL x :: st) M := fun J c => c.2.2.2.2.2.2.2.2.2.2.2.2.2.2.2.2.2.2.2.2.2.2.2.2.2.2.2.2.2.2.2.2.2.2.2.2.1 pc q ls st M x h1 h2 h3 (k J c)
theorem R_i2c {X : Sx} {L : Nat} {xc : Nat → Nat → Int} {Qp : Int → Mem → Prop} {pc q : Nat} {ls st : List PV} {M : Mem} {x : Int} (h1 : lk X.1 pc = some (.i2c, 1)) (h2 : pc + 1 = q) (h3 : 0 ≤ x ∧ x < 65536) (k : Runs X L xc Qp q ls (wI x :: st) M) : Runs X L xc Qp pc ls (wI x :: st) M := fun J c => c.2.2.2.2.2.2.2.2.2.2.2.2.2.2.2.2.2.2.2.2.2.2.2.2.2.2.2.2.2.2.2.2.2.2.2.2.2.1 pc q ls st M x h1 h2 h3 (k J c)
theorem R_lcmp {X : Sx} {L : Nat} {xc : Nat → Nat → Int} {Qp : Int → Mem → Prop} {pc q : Nat} {ls st : List PV} {M : Mem} {x y : Int} (h1 : lk X.1 pc = some (.lcmp, 1)) (h2 : pc + 1 = q) (h3 : inl64 x) (h4 : inl64 y) (k : Runs X L xc Qp q ls (wI (if y < x then 1 else if x = y then 0 else -1) :: st) M) : Runs X L xc Qp pc ls (wL y :: wL x :: st) M := fun J c => c.2.2.2.2.2.2.2.2.2.2.2.2.2.2.2.2.2.2.2.2.2.2.2.2.2.2.2.2.2.2.2.2.2.2.2.2.2.2.1 pc q ls st M x y h1 h2 h3 h4 (k J c)
theorem R_dup {X : Sx} {L : Nat} {xc : Nat → Nat → Int} {Qp : Int → Mem → Prop} {pc q : Nat} {ls st : List PV} {M : Mem} {x : Int ⊕ (Nat ⊕ Int)} (h1 : lk X.1 pc = some (.dup, 1)) (h2 : pc + 1 = q) (h3 : isLong (some (some x)) = false) (k : Runs X L xc Qp q ls (some x :: some x :: st) M) : Runs X L xc Qp pc ls (some x :: st) M := fun J c => c.2.2.2.2.2.2.2.2.2.2.2.2.2.2.2.2.2.2.2.2.2.2.2.2.2.2.2.2.2.2.2.2.2.2.2.2.2.2.2.1 pc q ls st M x h1 h2 h3 (k J c)
theorem R_dup2 {X : Sx} {L : Nat} {xc : Nat → Nat → Int} {Qp : Int → Mem → Prop} {pc q : Nat} {ls st : List PV} {M : Mem} {x y : Int ⊕ (Nat ⊕ Int)} (h1 : lk X.1 pc = some (.dup2, 1)) (h2 : pc + 1 = q) (h3 : isLong (some (some x)) = false) (h4 : isLong (some (some y)) = false) (k : Runs X L xc Qp q ls (some y :: some x :: some y :: some x :: st) M) : Runs X L xc Qp pc ls (some y :: some x :: st) M := fun J c => c.2.2.2.2.2.2.2.2.2.2.2.2.2.2.2.2.2.2.2.2.2.2.2.2.2.2.2.2.2.2.2.2.2.2.2.2.2.2.2.2.1 pc q ls st M x y h1 h2 h3 h4 (k J c)
theorem R_pop {X : Sx} {L : Nat} {xc : Nat → Nat → Int} {Qp : Int → Mem → Prop} {pc q : Nat} {ls st : List PV} {M : Mem} {x : Int ⊕ (Nat ⊕ Int)} (h1 : lk X.1 pc = some (.pop, 1)) (h2 : pc + 1 = q) (h3 : isLong (some (some x)) = false) (k : Runs X L xc Qp q ls (st) M) : Runs X L xc Qp pc ls (some x :: st) M := fun J c => c.2.2.2.2.2.2.2.2.2.2.2.2.2.2.2.2.2.2.2.2.2.2.2.2.2.2.2.2.2.2.2.2.2.2.2.2.2.2.2.2.2.1 pc q ls st M x h1 h2 h3 (k J c)
theorem R_icmp_eq {X : Sx} {L : Nat} {xc : Nat → Nat → Int} {Qp : Int → Mem → Prop} {pc q : Nat} {ls st : List PV} {M : Mem} {x : Int} {y : Int} {off : Int} {tgt : Nat} (h1 : lk X.1 pc = some (.if_icmp .eq off, 3)) (h2 : pc + 3 = q) (h3 : (pc : Int) + off = (tgt : Int)) (h4 : inr x) (h5 : inr y) (kt : x = y → Runs X L xc Qp tgt ls st M) (kf : ¬ (x = y) → Runs X L xc Qp q ls st M) : Runs X L xc Qp pc ls (wI y :: wI x :: st) M := fun J c => c.2.2.2.2.2.2.2.2.2.2.2.2.2.2.2.2.2.2.2.2.2.2.2.2.2.2.2.2.2.2.2.2.2.2.2.2.2.2.2.2.2.2.1 pc q ls st M x y off tgt h1 h2 h3 h4 h5 ⟨fun z => kt z J c, fun z => kf z J c⟩
theorem R_if_eq {X : Sx} {L : Nat} {xc : Nat → Nat → Int} {Qp : Int → Mem → Prop} {pc q : Nat} {ls st : List PV} {M : Mem} {x : Int} {off : Int} {tgt : Nat} (h1 : lk X.1 pc = some (.ifCond .eq off, 3)) (h2 : pc + 3 = q) (h3 : (pc : Int) + off = (tgt : Int)) (h4 : inr x) (kt : x = 0 → Runs X L xc Qp tgt ls st M) (kf : ¬ (x = 0) → Runs X L xc Qp q ls st M) : Runs X L xc Qp pc ls (wI x :: st) M := fun J c => c.2.2.2.2.2.2.2.2.2.2.2.2.2.2.2.2.2.2.2.2.2.2.2.2.2.2.2.2.2.2.2.2.2.2.2.2.2.2.2.2.2.2.2.1 pc q ls st M x off tgt h1 h2 h3 h4 ⟨fun z => kt z J c, fun z => kf z J c⟩
theorem R_icmp_ne {X : Sx} {L : Nat} {xc : Nat → Nat → Int} {Qp : Int → Mem → Prop} {pc q : Nat} {ls st : List PV} {M : Mem} {x : Int} {y : Int} {off : Int} {tgt : Nat} (h1 : lk X.1 pc = some (.if_icmp .ne off, 3)) (h2 : pc + 3 = q) (h3 : (pc : Int) + off = (tgt : Int)) (h4 : inr x) (h5 : inr y) (kt : x ≠ y → Runs X L xc Qp tgt ls st M) (kf : ¬ (x ≠ y) → Runs X L xc Qp q ls st M) : Runs X L xc Qp pc ls (wI y :: wI x :: st) M := fun J c => c.2.2.2.2.2.2.2.2.2.2.2.2.2.2.2.2.2.2.2.2.2.2.2.2.2.2.2.2.2.2.2.2.2.2.2.2.2.2.2.2.2.2.2.2.1 pc q ls st M x y off tgt h1 h2 h3 h4 h5 ⟨fun z => kt z J c, fun z => kf z J c⟩
theorem R_if_ne {X : Sx} {L : Nat} {xc : Nat → Nat → Int} {Qp : Int → Mem → Prop} {pc q : Nat} {ls st : List PV} {M : Mem} {x : Int} {off : Int} {tgt : Nat} (h1 : lk X.1 pc = some (.ifCond .ne off, 3)) (h2 : pc + 3 = q) (h3 : (pc : Int) + off = (tgt : Int)) (h4 : inr x) (kt : x ≠ 0 → Runs X L xc Qp tgt ls st M) (kf : ¬ (x ≠ 0) → Runs X L xc Qp q ls st M) : Runs X L xc Qp pc ls (wI x :: st) M := fun J c => c.2.2.2.2.2.2.2.2.2.2.2.2.2.2.2.2.2.2.2.2.2.2.2.2.2.2.2.2.2.2.2.2.2.2.2.2.2.2.2.2.2.2.2.2.2.1 pc q ls st M x off tgt h1 h2 h3 h4 ⟨fun z => kt z J c, fun z => kf z J c⟩
theorem R_icmp_lt {X : Sx} {L : Nat} {xc : Nat → Nat → Int} {Qp : Int → Mem → Prop} {pc q : Nat} {ls st : List PV} {M : Mem} {x : Int} {y : Int} {off : Int} {tgt : Nat} (h1 : lk X.1 pc = some (.if_icmp .lt off, 3)) (h2 : pc + 3 = q) (h3 : (pc : Int) + off = (tgt : Int)) (h4 : inr x) (h5 : inr y) (kt : x < y → Runs X L xc Qp tgt ls st M) (kf : ¬ (x < y) → Runs X L xc Qp q ls st M) : Runs X L xc Qp pc ls (wI y :: wI x :: st) M := fun J c => c.2.2.2.2.2.2.2.2.2.2.2.2.2.2.2.2.2.2.2.2.2.2.2.2.2.2.2.2.2.2.2.2.2.2.2.2.2.2.2.2.2.2.2.2.2.2.1 pc q ls st M x y off tgt h1 h2 h3 h4 h5 ⟨fun z => kt z J c, fun z => kf z J c⟩
theorem R_if_lt {X : Sx} {L : Nat} {xc : Nat → Nat → Int} {Qp : Int → Mem → Prop} {pc q : Nat} {ls st : List PV} {M : Mem} {x : Int} {off : Int} {tgt : Nat} (h1 : lk X.1 pc = some (.ifCond .lt off, 3)) (h2 : pc + 3 = q) (h3 : (pc : Int) + off = (tgt : Int)) (h4 : inr x) (kt : x < 0 → Runs X L xc Qp tgt ls st M) (kf : ¬ (x < 0) → Runs X L xc Qp q ls st M) : Runs X L xc Qp pc ls (wI x :: st) M := fun J c => c.2.2.2.2.2.2.2.2.2.2.2.2.2.2.2.2.2.2.2.2.2.2.2.2.2.2.2.2.2.2.2.2.2.2.2.2.2.2.2.2.2.2.2.2.2.2.2.1 pc q ls st M x off tgt h1 h2 h3 h4 ⟨fun z => kt z J c, fun z => kf z J c⟩
theorem R_icmp_ge {X : Sx} {L : Nat} {xc : Nat → Nat → Int} {Qp : Int → Mem → Prop} {pc q : Nat} {ls st : List PV} {M : Mem} {x : Int} {y : Int} {off : Int} {tgt : Nat} (h1 : lk X.1 pc = some (.if_icmp .ge off, 3)) (h2 : pc + 3 = q) (h3 : (pc : Int) + off = (tgt : Int)) (h4 : inr x) (h5 : inr y) (kt : y ≤ x → Runs X L xc Qp tgt ls st M) (kf : ¬ (y ≤ x) → Runs X L xc Qp q ls st M) : Runs X L xc Qp pc ls (wI y :: wI x :: st) M := fun J c => c.2.2.2.2.2.2.2.2.2.2.2.2.2.2.2.2.2.2.2.2.2.2.2.2.2.2.2.2.2.2.2.2.2.2.2.2.2.2.2.2.2.2.2.2.2.2.2.2.1 pc q ls st M x y off tgt h1 h2 h3 h4 h5 ⟨fun z => kt z J c, fun z => kf z J c⟩
theorem R_if_ge {X : Sx} {L : Nat} {xc : Nat → Nat → Int} {Qp : Int → Mem → Prop} {pc q : Nat} {ls st : List PV} {M : Mem} {x : Int} {off : Int} {tgt : Nat} (h1 : lk X.1 pc = some (.ifCond .ge off, 3)) (h2 : pc + 3 = q) (h3 : (pc : Int) + off = (tgt : Int)) (h4 : inr x) (kt : 0 ≤ x → Runs X L xc Qp tgt ls st M) (kf : ¬ (0 ≤ x) → Runs X L xc Qp q ls st M) : Runs X L xc Qp pc ls (wI x :: st) M := fun J c => c.2.2.2.2.2.2.2.2.2.2.2.2.2.2.2.2.2.2.2.2.2.2.2.2.2.2.2.2.2.2.2.2.2.2.2.2.2.2.2.2.2.2.2.2.2.2.2.2.2.1 pc q ls st M x off tgt h1 h2 h3 h4 ⟨fun z => kt z J c, fun z => kf z J c⟩
theorem R_icmp_gt {X : Sx} {L : Nat} {xc : Nat → Nat → Int} {Qp : Int → Mem → Prop} {pc q : Nat} {ls st : List PV} {M : Mem} {x : Int} {y : Int} {off : Int} {tgt : Nat} (h1 : lk X.1 pc = some (.if_icmp .gt off, 3)) (h2 : pc + 3 = q) (h3 : (pc : Int) + off = (tgt : Int)) (h4 : inr x) (h5 : inr y) (kt : y < x → Runs X L xc Qp tgt ls st M) (kf : ¬ (y < x) → Runs X L xc Qp q ls st M) : Runs X L xc Qp pc ls (wI y :: wI x :: st) M := fun J c => c.2.2.2.2.2.2.2.2.2.2.2.2.2.2.2.2.2.2.2.2.2.2.2.2.2.2.2.2.2.2.2.2.2.2.2.2.2.2.2.2.2.2.2.2.2.2.2.2.2.2.1 pc q ls st M x y off tgt h1 h2 h3 h4 h5 ⟨fun z => kt z J c, fun z => kf z J c⟩
theorem R_if_gt {X : Sx} {L : Nat} {xc : Nat → Nat → Int} {Qp : Int → Mem → Prop} {pc q : Nat} {ls st : List PV} {M : Mem} {x : Int} {off : Int} {tgt : Nat} (h1 : lk X.1 pc = some (.ifCond .gt off, 3)) (h2 : pc + 3 = q) (h3 : (pc : Int) + off = (tgt : Int)) (h4 : inr x) (kt : 0 < x → Runs X L xc Qp tgt ls st M) (kf : ¬ (0 < x) → Runs X L xc Qp q ls st M) : Runs X L xc Qp pc ls (wI x :: st) M := fun J c => c.2.2.2.2.2.2.2.2.2.2.2.2.2.2.2.2.2.2.2.2.2.2.2.2.2.2.2.2.2.2.2.2.2.2.2.2.2.2.2.2.2.2.2.2.2.2.2.2.2.2.2.1 pc q ls st M x off tgt h1 h2 h3 h4 ⟨fun z => kt z J c, fun z => kf z J c⟩
theorem R_icmp_le {X : Sx} {L : Nat} {xc : Nat → Nat → Int} {Qp : Int → Mem → Prop} {pc q : Nat} {ls st : List PV} {M : Mem} {x : Int} {y : Int} {off : Int} {tgt : Nat} (h1 : lk X.1 pc = some (.if_icmp .le off, 3)) (h2 : pc + 3 = q) (h3 : (pc : Int) + off = (tgt : Int)) (h4 : inr x) (h5 : inr y) (kt : x ≤ y → Runs X L xc Qp tgt ls st M) (kf : ¬ (x ≤ y) → Runs X L xc Qp q ls st M) : Runs X L xc Qp pc ls (wI y :: wI x :: st) M := fun J c => c.2.2.2.2.2.2.2.2.2.2.2.2.2.2.2.2.2.2.2.2.2.2.2.2.2.2.2.2.2.2.2.2.2.2.2.2.2.2.2.2.2.2.2.2.2.2.2.2.2.2.2.2.1 pc q ls st M x y off tgt h1 h2 h3 h4 h5 ⟨fun z => kt z J c, fun z => kf z J c⟩
theorem R_if_le {X : Sx} {L : Nat} {xc : Nat → Nat → Int} {Qp : Int → Mem → Prop} {pc q : Nat} {ls st : List PV} {M : Mem} {x : Int} {off : Int} {tgt : Nat} (h1 : lk X.1 pc = some (.ifCond .le off, 3)) (h2 : pc + 3 = q) (h3 : (pc : Int) + off = (tgt : Int)) (h4 : inr x) (kt : x ≤ 0 → Runs X L xc Qp tgt ls st M) (kf : ¬ (x ≤ 0) → Runs X L xc Qp q ls st M) : Runs X L xc Qp pc ls (wI x :: st) M := fun J c => c.2.2.2.2.2.2.2.2.2.2.2.2.2.2.2.2.2.2.2.2.2.2.2.2.2.2.2.2.2.2.2.2.2.2.2.2.2.2.2.2.2.2.2.2.2.2.2.2.2.2.2.2.2.1 pc q ls st M x off tgt h1 h2 h3 h4 ⟨fun z => kt z J c, fun z => kf z J c⟩
theorem R_goto {X : Sx} {L : Nat} {xc : Nat → Nat → Int} {Qp : Int → Mem → Prop} {pc q : Nat} {ls st : List PV} {M : Mem} {off : Int} {tgt : Nat} (h1 : lk X.1 pc = some (.goto off, 3)) (h2 : pc + 3 = q) (h3 : (pc : Int) + off = (tgt : Int)) (k : Runs X L xc Qp tgt ls st M) : Runs X L xc Qp pc ls st M := fun J c => c.2.2.2.2.2.2.2.2.2.2.2.2.2.2.2.2.2.2.2.2.2.2.2.2.2.2.2.2.2.2.2.2.2.2.2.2.2.2.2.2.2.2.2.2.2.2.2.2.2.2.2.2.2.2.1 pc q ls st M off tgt h1 h2 h3 (k J c)
theorem R_tblIn {X : Sx} {L : Nat} {xc : Nat → Nat → Int} {Qp : Int → Mem → Prop} {pc q : Nat} {ls st : List PV} {M : Mem} {x dflt lo hi : Int} {offs : Array Int} {len : Nat} {off : Int} {tgt : Nat} (h1 : lk X.1 pc = some (.tableswitch dflt lo hi offs, len)) (h2 : pc + len = q) (h3 : inr x) (h4 : lo ≤ x ∧ x ≤ hi) (h5 : offs[(x - lo).toNat]? = some off) (h6 : (pc : Int) + off = (tgt : Int)) (k : Runs X L xc Qp tgt ls st M) : Runs X L xc Qp pc ls (wI x :: st) M := fun J c => c.2.2.2.2.2.2.2.2.2.2.2.2.2.2.2.2.2.2.2.2.2.2.2.2.2.2.2.2.2.2.2.2.2.2.2.2.2.2.2.2.2.2.2.2.2.2.2.2.2.2.2.2.2.2.2.1 pc q ls st M x dflt lo hi offs len off tgt h1 h2 h3 h4 h5 h6 (k J c)
theorem R_tblOut {X : Sx} {L : Nat} {xc : Nat → Nat → Int} {Qp : Int → Mem → Prop} {pc q : Nat} {ls st : List PV} {M : Mem} {x dflt lo hi : Int} {offs : Array Int} {len : Nat} {tgt : Nat} (h1 : lk X.1 pc = some (.tableswitch dflt lo hi offs, len)) (h2 : pc + len = q) (h3 : inr x) (h4 : x < lo ∨ hi < x) (h5 : (pc : Int) + dflt = (tgt : Int)) (k : Runs X L xc Qp tgt ls st M) : Runs X L xc Qp pc ls (wI x :: st) M := fun J c => c.2.2.2.2.2.2.2.2.2.2.2.2.2.2.2.2.2.2.2.2.2.2.2.2.2.2.2.2.2.2.2.2.2.2.2.2.2.2.2.2.2.2.2.2.2.2.2.2.2.2.2.2.2.2.2.2.1 pc q ls st M x dflt lo hi offs len tgt h1 h2 h3 h4 h5 (k J c)
theorem R_lookup {X : Sx} {L : Nat} {xc : Nat → Nat → Int} {Qp : Int → Mem → Prop} {pc q : Nat} {ls st : List PV} {M : Mem} {x dflt : Int} {ps : Array (Int × Int)} {len : Nat} {off : Int} {tgt : Nat} (h1 : lk X.1 pc = some (.lookupswitch dflt ps, len)) (h2 : pc + len = q) (h3 : inr x) (h4 : (ps.toList.zip (ps.toList.drop 1)).all (fun (a, next) => a.1 < next.1) = true) (h5 : Op.lookupswitch.offset ps.toList dflt x = off) (h6 : (pc : Int) + off = (tgt : Int)) (k : Runs X L xc Qp tgt ls st M) : Runs X L xc Qp pc ls (wI x :: st) M := fun J c => c.2.2.2.2.2.2.2.2.2.2.2.2.2.2.2.2.2.2.2.2.2.2.2.2.2.2.2.2.2.2.2.2.2.2.2.2.2.2.2.2.2.2.2.2.2.2.2.2.2.2.2.2.2.2.2.2.2.1 pc q ls st M x dflt ps len off tgt h1 h2 h3 h4 h5 h6 (k J c)
theorem R_getI {X : Sx} {L : Nat} {xc : Nat → Nat → Int} {Qp : Int → Mem → Prop} {pc q : Nat} {ls st : List PV} {M : Mem} {i ci k0 r : Nat} {f : Nat → Option Nat} (h1 : lk X.1 pc = some (.getfield i, 3)) (h2 : pc + 3 = q) (h3 : lk X.2.1 i = some (ci, k0)) (h4 : LAY L r = .inl (ci, f)) (h5 : f k0 = none) (h6 : 3 ≤ r ∧ r < 191) (k : Runs X L xc Qp q ls (wI (M r k0) :: st) M) : Runs X L xc Qp pc ls (wR r :: st) M := fun J c => c.2.2.2.2.2.2.2.2.2.2.2.2.2.2.2.2.2.2.2.2.2.2.2.2.2.2.2.2.2.2.2.2.2.2.2.2.2.2.2.2.2.2.2.2.2.2.2.2.2.2.2.2.2.2.2.2.2.2.1 pc q ls st M i ci k0 r f h1 h2 h3 h4 h5 h6 (k J c)
theorem R_getR {X : Sx} {L : Nat} {xc : Nat → Nat → Int} {Qp : Int → Mem → Prop} {pc q : Nat} {ls st : List PV} {M : Mem} {i ci k0 r r' : Nat} {f : Nat → Option Nat} (h1 : lk X.1 pc = some (.getfield i, 3)) (h2 : pc + 3 = q) (h3 : lk X.2.1 i = some (ci, k0)) (h4 : LAY L r = .inl (ci, f)) (h5 : f k0 = some r') (h6 : 3 ≤ r ∧ r < 191) (k : Runs X L xc Qp q ls (wR r' :: st) M) : Runs X L xc Qp pc ls (wR r :: st) M := fun J c => c.2.2.2.2.2.2.2.2.2.2.2.2.2.2.2.2.2.2.2.2.2.2.2.2.2.2.2.2.2.2.2.2.2.2.2.2.2.2.2.2.2.2.2.2.2.2.2.2.2.2.2.2.2.2.2.2.2.2.2.1 pc q ls st M i ci k0 r r' f h1 h2 h3 h4 h5 h6 (k J c)
theorem R_putI {X : Sx} {L : Nat} {xc : Nat → Nat → Int} {Qp : Int → Mem → Prop} {pc q : Nat} {ls st : List PV} {M : Mem} {i ci k0 r : Nat} {f : Nat → Option Nat} {x : Int} (h1 : lk X.1 pc = some (.putfield i, 3)) (h2 : pc + 3 = q) (h3 : lk X.2.1 i = some (ci, k0)) (h4 : LAY L r = .inl (ci, f)) (h5 : f k0 = none) (h6 : 3 ≤ r ∧ r < 191) (h7 : (TC ci k0).2.2.2 = false) (h8 : tyC ci k0 = .int) (k : Runs X L xc Qp q ls st (upM M r k0 x)) : Runs X L xc Qp pc ls (wI x :: wR r :: st) M := fun J c => c.2.2.2.2.2.2.2.2.2.2.2.2.2.2.2.2.2.2.2.2.2.2.2.2.2.2.2.2.2.2.2.2.2.2.2.2.2.2.2.2.2.2.2.2.2.2.2.2.2.2.2.2.2.2.2.2.2.2.2.2.1 pc q ls st M i ci k0 r f x h1 h2 h3 h4 h5 h6 h7 h8 (k J c)
theorem R_iald {X : Sx} {L : Nat} {xc : Nat → Nat → Int} {Qp : Int → Mem → Prop} {pc q : Nat} {ls st : List PV} {M : Mem} {i : Int} {r n : Nat} (h1 : lk X.1 pc = some (.iaload, 1)) (h2 : pc + 1 = q) (h3 : LAY L r = .inr (.inl (0, n))) (h4 : 3 ≤ r ∧ r < 191) (h5 : 0 ≤ i ∧ i < n) (k : Runs X L xc Qp q ls (wI (M r i.toNat) :: st) M) : Runs X L xc Qp pc ls (wI i :: wR r :: st) M := fun J c => c.2.2.2.2.2.2.2.2.2.2.2.2.2.2.2.2.2.2.2.2.2.2.2.2.2.2.2.2.2.2.2.2.2.2.2.2.2.2.2.2.2.2.2.2.2.2.2.2.2.2.2.2.2.2.2.2.2.2.2.2.2.1 pc q ls st M i r n h1 h2 h3 h4 h5 (k J c)
theorem R_cald {X : Sx} {L : Nat} {xc : Nat → Nat → Int} {Qp : Int → Mem → Prop} {pc q : Nat} {ls st : List PV} {M : Mem} {i : Int} {r n : Nat} (h1 : lk X.1 pc = some (.caload, 1)) (h2 : pc + 1 = q) (h3 : LAY L r = .inr (.inl (1, n))) (h4 : 3 ≤ r ∧ r < 191) (h5 : 0 ≤ i ∧ i < n) (k : Runs X L xc Qp q ls (wI (M r i.toNat) :: st) M) : Runs X L xc Qp pc ls (wI i :: wR r :: st) M := fun J c => c.2.2.2.2.2.2.2.2.2.2.2.2.2.2.2.2.2.2.2.2.2.2.2.2.2.2.2.2.2.2.2.2.2.2.2.2.2.2.2.2.2.2.2.2.2.2.2.2.2.2.2.2.2.2.2.2.2.2.2.2.2.2.1 pc q ls st M i r n h1 h2 h3 h4 h5 (k J c)
theorem R_zald {X : Sx} {L : Nat} {xc : Nat → Nat → Int} {Qp : Int → Mem → Prop} {pc q : Nat} {ls st : List PV} {M : Mem} {i : Int} {r n : Nat} (h1 : lk X.1 pc = some (.baload, 1)) (h2 : pc + 1 = q) (h3 : LAY L r = .inr (.inl (2, n))) (h4 : 3 ≤ r ∧ r < 191) (h5 : 0 ≤ i ∧ i < n) (k : Runs X L xc Qp q ls (wI (M r i.toNat) :: st) M) : Runs X L xc Qp pc ls (wI i :: wR r :: st) M := fun J c => c.2.2.2.2.2.2.2.2.2.2.2.2.2.2.2.2.2.2.2.2.2.2.2.2.2.2.2.2.2.2.2.2.2.2.2.2.2.2.2.2.2.2.2.2.2.2.2.2.2.2.2.2.2.2.2.2.2.2.2.2.2.2.2.1 pc q ls st M i r n h1 h2 h3 h4 h5 (k J c)
theorem R_iast {X : Sx} {L : Nat} {xc : Nat → Nat → Int} {Qp : Int → Mem → Prop} {pc q : Nat} {ls st : List PV} {M : Mem} {x i : Int} {r n : Nat} (h1 : lk X.1 pc = some (.iastore, 1)) (h2 : pc + 1 = q) (h3 : LAY L r = .inr (.inl (0, n))) (h4 : 3 ≤ r ∧ r < 191) (h5 : 0 ≤ i ∧ i < n) (k : Runs X L xc Qp q ls st (upM M r i.toNat x)) : Runs X L xc Qp pc ls (wI x :: wI i :: wR r :: st) M := fun J c => c.2.2.2.2.2.2.2.2.2.2.2.2.2.2.2.2.2.2.2.2.2.2.2.2.2.2.2.2.2.2.2.2.2.2.2.2.2.2.2.2.2.2.2.2.2.2.2.2.2.2.2.2.2.2.2.2.2.2.2.2.2.2.2.2.1 pc q ls st M x i r n h1 h2 h3 h4 h5 (k J c)
theorem R_cast {X : Sx} {L : Nat} {xc : Nat → Nat → Int} {Qp : Int → Mem → Prop} {pc q : Nat} {ls st : List PV} {M : Mem} {x i : Int} {r n : Nat} (h1 : lk X.1 pc = some (.castore, 1)) (h2 : pc + 1 = q) (h3 : LAY L r = .inr (.inl (1, n))) (h4 : 3 ≤ r ∧ r < 191) (h5 : 0 ≤ i ∧ i < n) (h6 : 0 ≤ x ∧ x < 65536) (k : Runs X L xc Qp q ls st (upM M r i.toNat x)) : Runs X L xc Qp pc ls (wI x :: wI i :: wR r :: st) M := fun J c => c.2.2.2.2.2.2.2.2.2.2.2.2.2.2.2.2.2.2.2.2.2.2.2.2.2.2.2.2.2.2.2.2.2.2.2.2.2.2.2.2.2.2.2.2.2.2.2.2.2.2.2.2.2.2.2.2.2.2.2.2.2.2.2.2.2.1 pc q ls st M x i r n h1 h2 h3 h4 h5 h6 (k J c)
theorem R_zast {X : Sx} {L : Nat} {xc : Nat → Nat → Int} {Qp : Int → Mem → Prop} {pc q : Nat} {ls st : List PV} {M : Mem} {x i : Int} {r n : Nat} (h1 : lk X.1 pc = some (.bastore, 1)) (h2 : pc + 1 = q) (h3 : LAY L r = .inr (.inl (2, n))) (h4 : 3 ≤ r ∧ r < 191) (h5 : 0 ≤ i ∧ i < n) (h6 : x = 0 ∨ x = 1) (k : Runs X L xc Qp q ls st (upM M r i.toNat x)) : Runs X L xc Qp pc ls (wI x :: wI i :: wR r :: st) M := fun J c => c.2.2.2.2.2.2.2.2.2.2.2.2.2.2.2.2.2.2.2.2.2.2.2.2.2.2.2.2.2.2.2.2.2.2.2.2.2.2.2.2.2.2.2.2.2.2.2.2.2.2.2.2.2.2.2.2.2.2.2.2.2.2.2.2.2.2.1 pc q ls st M x i r n h1 h2 h3 h4 h5 h6 (k J c)
theorem R_aald {X : Sx} {L : Nat} {xc : Nat → Nat → Int} {Qp : Int → Mem → Prop} {pc q : Nat} {ls st : List PV} {M : Mem} {i : Int} {r t n : Nat} {f : Nat → Nat} (h1 : lk X.1 pc = some (.aaload, 1)) (h2 : pc + 1 = q) (h3 : LAY L r = .inr (.inr (t, n, f))) (h4 : 3 ≤ r ∧ r < 191) (h5 : 0 ≤ i ∧ i < n) (k : Runs X L xc Qp q ls (wR (f i.toNat) :: st) M) : Runs X L xc Qp pc ls (wI i :: wR r :: st) M := fun J c => c.2.2.2.2.2.2.2.2.2.2.2.2.2.2.2.2.2.2.2.2.2.2.2.2.2.2.2.2.2.2.2.2.2.2.2.2.2.2.2.2.2.2.2.2.2.2.2.2.2.2.2.2.2.2.2.2.2.2.2.2.2.2.2.2.2.2.2.1 pc q ls st M i r t n f h1 h2 h3 h4 h5 (k J c)
theorem R_ialdX {X : Sx} {L : Nat} {xc : Nat → Nat → Int} {Qp : Int → Mem → Prop} {pc q : Nat} {ls st : List PV} {M : Mem} {i : Int} {r : Nat} (h1 : lk X.1 pc = some (.iaload, 1)) (h2 : pc + 1 = q) (h3 : r < 3) (h4 : 0 ≤ i ∧ i < exN L r) (k : Runs X L xc Qp q ls (wI (xc r i.toNat) :: st) M) : Runs X L xc Qp pc ls (wI i :: wR r :: st) M := fun J c => c.2.2.2.2.2.2.2.2.2.2.2.2.2.2.2.2.2.2.2.2.2.2.2.2.2.2.2.2.2.2.2.2.2.2.2.2.2.2.2.2.2.2.2.2.2.2.2.2.2.2.2.2.2.2.2.2.2.2.2.2.2.2.2.2.2.2.2.2.1 pc q ls st M i r h1 h2 h3 h4 (k J c)
theorem R_alenX {X : Sx} {L : Nat} {xc : Nat → Nat → Int} {Qp : Int → Mem → Prop} {pc q : Nat} {ls st : List PV} {M : Mem} {r : Nat} (h1 : lk X.1 pc = some (.arraylength, 1)) (h2 : pc + 1 = q) (h3 : r < 3) (k : Runs X L xc Qp q ls (wI (exN L r) :: st) M) : Runs X L xc Qp pc ls (wR r :: st) M := fun J c => c.2.2.2.2.2.2.2.2.2.2.2.2.2.2.2.2.2.2.2.2.2.2.2.2.2.2.2.2.2.2.2.2.2.2.2.2.2.2.2.2.2.2.2.2.2.2.2.2.2.2.2.2.2.2.2.2.2.2.2.2.2.2.2.2.2.2.2.2.2.1 pc q ls st M r h1 h2 h3 (k J c)
theorem R_gets {X : Sx} {L : Nat} {xc : Nat → Nat → Int} {Qp : Int → Mem → Prop} {pc q : Nat} {ls st : List PV} {M : Mem} {i r : Nat} (h1 : lk X.1 pc = some (.getstatic i, 3)) (h2 : pc + 3 = q) (h3 : lk X.2.2.2.2.1 i = some r) (k : Runs X L xc Qp q ls (wR r :: st) M) : Runs X L xc Qp pc ls st M := fun J c => c.2.2.2.2.2.2.2.2.2.2.2.2.2.2.2.2.2.2.2.2.2.2.2.2.2.2.2.2.2.2.2.2.2.2.2.2.2.2.2.2.2.2.2.2.2.2.2.2.2.2.2.2.2.2.2.2.2.2.2.2.2.2.2.2.2.2.2.2.2.2.1 pc q ls st M i r h1 h2 h3 (k J c)
theorem R_copy {X : Sx} {L : Nat} {xc : Nat → Nat → Int} {Qp : Int → Mem → Prop} {pc q : Nat} {ls st : List PV} {M : Mem} {i r0 r1 n0 n1 : Nat} {sp dp n : Int} (h1 : lk X.1 pc = some (.invokestatic i, 3)) (h2 : pc + 3 = q) (h3 : lk X.2.2.2.2.2.1 i = some 0) (h4 : LAY L r0 = .inr (.inl (0, n0))) (h5 : LAY L r1 = .inr (.inl (0, n1))) (h6 : (3 ≤ r0 ∧ r0 < 191) ∧ 3 ≤ r1 ∧ r1 < 191) (h7 : 0 ≤ sp ∧ 0 ≤ dp ∧ 0 ≤ n ∧ sp + n ≤ n0 ∧ dp + n ≤ n1) (h8 : Nat.ble (stW st) 8 = true) (k : Runs X L xc Qp q ls st (cpM M r0 sp.toNat r1 dp.toNat n.toNat)) : Runs X L xc Qp pc ls (wI n :: wI dp :: wR r1 :: wI sp :: wR r0 :: st) M := fun J c => c.2.2.2.2.2.2.2.2.2.2.2.2.2.2.2.2.2.2.2.2.2.2.2.2.2.2.2.2.2.2.2.2.2.2.2.2.2.2.2.2.2.2.2.2.2.2.2.2.2.2.2.2.2.2.2.2.2.2.2.2.2.2.2.2.2.2.2.2.2.2.2.1 pc q ls st M i r0 r1 n0 n1 sp dp n h1 h2 h3 h4 h5 h6 h7 h8 (k J c)
theorem R_mmax {X : Sx} {L : Nat} {xc : Nat → Nat → Int} {Qp : Int → Mem → Prop} {pc q : Nat} {ls st : List PV} {M : Mem} {i : Nat} {x y : Int} (h1 : lk X.1 pc = some (.invokestatic i, 3)) (h2 : pc + 3 = q) (h3 : lk X.2.2.2.2.2.1 i = some 1) (h4 : inr x) (h5 : inr y) (h6 : Nat.ble (stW st) 8 = true) (k : Runs X L xc Qp q ls (wI (if x < y then y else x) :: st) M) : Runs X L xc Qp pc ls (wI y :: wI x :: st) M := fun J c => c.2.2.2.2.2.2.2.2.2.2.2.2.2.2.2.2.2.2.2.2.2.2.2.2.2.2.2.2.2.2.2.2.2.2.2.2.2.2.2.2.2.2.2.2.2.2.2.2.2.2.2.2.2.2.2.2.2.2.2.2.2.2.2.2.2.2.2.2.2.2.2.2.1 pc q ls st M i x y h1 h2 h3 h4 h5 h6 (k J c)
theorem R_mmin {X : Sx} {L : Nat} {xc : Nat → Nat → Int} {Qp : Int → Mem → Prop} {pc q : Nat} {ls st : List PV} {M : Mem} {i : Nat} {x y : Int} (h1 : lk X.1 pc = some (.invokestatic i, 3)) (h2 : pc + 3 = q) (h3 : lk X.2.2.2.2.2.1 i = some 2) (h4 : inr x) (h5 : inr y) (h6 : Nat.ble (stW st) 8 = true) (k : Runs X L xc Qp q ls (wI (if y < x then y else x) :: st) M) : Runs X L xc Qp pc ls (wI y :: wI x :: st) M := fun J c => c.2.2.2.2.2.2.2.2.2.2.2.2.2.2.2.2.2.2.2.2.2.2.2.2.2.2.2.2.2.2.2.2.2.2.2.2.2.2.2.2.2.2.2.2.2.2.2.2.2.2.2.2.2.2.2.2.2.2.2.2.2.2.2.2.2.2.2.2.2.2.2.2.2.1 pc q ls st M i x y h1 h2 h3 h4 h5 h6 (k J c)
theorem R_mabs {X : Sx} {L : Nat} {xc : Nat → Nat → Int} {Qp : Int → Mem → Prop} {pc q : Nat} {ls st : List PV} {M : Mem} {i : Nat} {x : Int} (h1 : lk X.1 pc = some (.invokestatic i, 3)) (h2 : pc + 3 = q) (h3 : lk X.2.2.2.2.2.1 i = some 3) (h4 : inr x) (h5 : Nat.ble (stW st) 8 = true) (k : Runs X L xc Qp q ls (wI (if 0 ≤ x then x else 0 - x) :: st) M) : Runs X L xc Qp pc ls (wI x :: st) M := fun J c => c.2.2.2.2.2.2.2.2.2.2.2.2.2.2.2.2.2.2.2.2.2.2.2.2.2.2.2.2.2.2.2.2.2.2.2.2.2.2.2.2.2.2.2.2.2.2.2.2.2.2.2.2.2.2.2.2.2.2.2.2.2.2.2.2.2.2.2.2.2.2.2.2.2.2.1 pc q ls st M i x h1 h2 h3 h4 h5 (k J c)
theorem R_callVI {X : Sx} {L : Nat} {xc : Nat → Nat → Int} {Qp : Int → Mem → Prop} {pc q : Nat} {ls st : List PV} {M : Mem} {i ci : Nat} {C : Ct} {as : List PV} {r : Nat} {f : Nat → Option Nat} (h1 : lk X.1 pc = some (.invokevirtual i, 3)) (h2 : pc + 3 = q) (h3 : lk X.2.2.2.2.2.2.1 i = some (ci, C)) (h4 : (wR r :: as).length = C.1) (h5 : C.2.1 = true) (h6 : C.2.2.1 (wR r :: as) M) (h7 : Nat.ble (stW st) 8 = true) (h8 : LAY L r = .inl (ci, f)) (h9 : 3 ≤ r ∧ r < 191) (k : ∀ (x : Int) (M' : Mem), C.2.2.2 (wR r :: as) M x M' → Runs X L xc Qp q ls (wI x :: st) M') : Runs X L xc Qp pc ls (as.reverse ++ wR r :: st) M := fun J c => c.2.2.2.2.2.2.2.2.2.2.2.2.2.2.2.2.2.2.2.2.2.2.2.2.2.2.2.2.2.2.2.2.2.2.2.2.2.2.2.2.2.2.2.2.2.2.2.2.2.2.2.2.2.2.2.2.2.2.2.2.2.2.2.2.2.2.2.2.2.2.2.2.2.2.2.1 pc q ls st M i ci C as r f h1 h2 h3 h4 h5 h6 h7 h8 h9 (fun x M' h => k x M' h J c)
theorem R_callVN {X : Sx} {L : Nat} {xc : Nat → Nat → Int} {Qp : Int → Mem → Prop} {pc q : Nat} {ls st : List PV} {M : Mem} {i ci : Nat} {C : Ct} {as : List PV} {r : Nat} {f : Nat → Option Nat} (h1 : lk X.1 pc = some (.invokevirtual i, 3)) (h2 : pc + 3 = q) (h3 : lk X.2.2.2.2.2.2.1 i = some (ci, C)) (h4 : (wR r :: as).length = C.1) (h5 : C.2.1 = false) (h6 : C.2.2.1 (wR r :: as) M) (h7 : Nat.ble (stW st) 8 = true) (h8 : LAY L r = .inl (ci, f)) (h9 : 3 ≤ r ∧ r < 191) (k : ∀ (M' : Mem), C.2.2.2 (wR r :: as) M 0 M' → Runs X L xc Qp q ls st M') : Runs X L xc Qp pc ls (as.reverse ++ wR r :: st) M := fun J c => c.2.2.2.2.2.2.2.2.2.2.2.2.2.2.2.2.2.2.2.2.2.2.2.2.2.2.2.2.2.2.2.2.2.2.2.2.2.2.2.2.2.2.2.2.2.2.2.2.2.2.2.2.2.2.2.2.2.2.2.2.2.2.2.2.2.2.2.2.2.2.2.2.2.2.2.2.1 pc q ls st M i ci C as r f h1 h2 h3 h4 h5 h6 h7 h8 h9 (fun M' h => k M' h J c)
theorem R_callSI {X : Sx} {L : Nat} {xc : Nat → Nat → Int} {Qp : Int → Mem → Prop} {pc q : Nat} {ls st : List PV} {M : Mem} {i ci : Nat} {C : Ct} {as : List PV} (h1 : lk X.1 pc = some (.invokestatic i, 3)) (h2 : pc + 3 = q) (h3 : lk X.2.2.2.2.2.2.1 i = some (ci, C)) (h4 : (as).length = C.1) (h5 : C.2.1 = true) (h6 : C.2.2.1 (as) M) (h7 : Nat.ble (stW st) 8 = true) (h8 : ci = 9) (k : ∀ (x : Int) (M' : Mem), C.2.2.2 (as) M x M' → Runs X L xc Qp q ls (wI x :: st) M') : Runs X L xc Qp pc ls (as.reverse ++ st) M := fun J c => c.2.2.2.2.2.2.2.2.2.2.2.2.2.2.2.2.2.2.2.2.2.2.2.2.2.2.2.2.2.2.2.2.2.2.2.2.2.2.2.2.2.2.2.2.2.2.2.2.2.2.2.2.2.2.2.2.2.2.2.2.2.2.2.2.2.2.2.2.2.2.2.2.2.2.2.2.2.1 pc q ls st M i ci C as h1 h2 h3 h4 h5 h6 h7 h8 (fun x M' h => k x M' h J c)
theorem R_callSN {X : Sx} {L : Nat} {xc : Nat → Nat → Int} {Qp : Int → Mem → Prop} {pc q : Nat} {ls st : List PV} {M : Mem} {i ci : Nat} {C : Ct} {as : List PV} (h1 : lk X.1 pc = some (.invokestatic i, 3)) (h2 : pc + 3 = q) (h3 : lk X.2.2.2.2.2.2.1 i = some (ci, C)) (h4 : (as).length = C.1) (h5 : C.2.1 = false) (h6 : C.2.2.1 (as) M) (h7 : Nat.ble (stW st) 8 = true) (h8 : ci = 9) (k : ∀ (M' : Mem), C.2.2.2 (as) M 0 M' → Runs X L xc Qp q ls st M') : Runs X L xc Qp pc ls (as.reverse ++ st) M := fun J c => c.2.2.2.2.2.2.2.2.2.2.2.2.2.2.2.2.2.2.2.2.2.2.2.2.2.2.2.2.2.2.2.2.2.2.2.2.2.2.2.2.2.2.2.2.2.2.2.2.2.2.2.2.2.2.2.2.2.2.2.2.2.2.2.2.2.2.2.2.2.2.2.2.2.2.2.2.2.2.1 pc q ls st M i ci C as h1 h2 h3 h4 h5 h6 h7 h8 (fun M' h => k M' h J c)
theorem R_ret {X : Sx} {L : Nat} {xc : Nat → Nat → Int} {Qp : Int → Mem → Prop} {pc : Nat} {ls : List PV} {M : Mem} {x : Int} (h1 : lk X.1 pc = some (.ireturn, 1)) (h2 : X.2.2.2.2.2.2.2 = 1 ∨ (X.2.2.2.2.2.2.2 = 2 ∧ (x = 0 ∨ x = 1))) (k : Qp x M) : Runs X L xc Qp pc ls [wI x] M := fun J c => c.2.2.2.2.2.2.2.2.2.2.2.2.2.2.2.2.2.2.2.2.2.2.2.2.2.2.2.2.2.2.2.2.2.2.2.2.2.2.2.2.2.2.2.2.2.2.2.2.2.2.2.2.2.2.2.2.2.2.2.2.2.2.2.2.2.2.2.2.2.2.2.2.2.2.2.2.2.2.2.1 pc ls M x h1 h2 k
theorem R_vret {X : Sx} {L : Nat} {xc : Nat → Nat → Int} {Qp : Int → Mem → Prop} {pc : Nat} {ls : List PV} {M : Mem} (h1 : lk X.1 pc = some (.return_, 1)) (h2 : X.2.2.2.2.2.2.2 = 0) (k : Qp 0 M) : Runs X L xc Qp pc ls [] M := fun J c => c.2.2.2.2.2.2.2.2.2.2.2.2.2.2.2.2.2.2.2.2.2.2.2.2.2.2.2.2.2.2.2.2.2.2.2.2.2.2.2.2.2.2.2.2.2.2.2.2.2.2.2.2.2.2.2.2.2.2.2.2.2.2.2.2.2.2.2.2.2.2.2.2.2.2.2.2.2.2.2.2 pc ls M h1 h2 k
end
section

/-! SOUNDNESS: the machine's own judgement is closed under the clauses -/
def Fx (X : Sx) (L : Nat) (scr : Nat → Int) (p : Program) (s : State) (m : MethodId) (args : Array Value) (c : Code) (own : String) (cc : ByteArray) (nL : Nat) (R : Room) (ca sl : Nat) (D : va_G) (cA : Nat → ClassId) (ad : Nat → Nat) (A : Nat → Prop) : Prop :=
  p.tables.exec = Jvm.exec ∧ c.code = cc ∧ c.maxLocals = nL ∧ s.vm.findClass own = some m.cls ∧ (∀ w ∈ GT, w.before args s = true) ∧ va_K D clsL (tysL cA) s ∧ adOK ad A ∧ Ext ad L (xcF scr) A s s.heap ∧ L < 2147483648 ∧
  (∀ e ∈ X.1, decode cc e.1 = .ok e.2) ∧ (∀ e ∈ X.2.1, FdOK own e) ∧ (∀ e ∈ X.2.2.1, Cond.constantLong own e.1 (Int64.ofInt e.2) ∈ GT) ∧ (∀ e ∈ X.2.2.2.1, Cond.constant own e.1 (Int32.ofInt e.2) ∈ GT) ∧ (∀ e ∈ X.2.2.2.2.1, SgOK own e) ∧ (∀ e ∈ X.2.2.2.2.2.1, NtOK own e) ∧ (∀ e ∈ X.2.2.2.2.2.2.1, ClOK own R e) ∧
  1 ≤ R.frames ∧ 60 ≤ R.locals ∧ ca ≤ R.cells ∧ sl ≤ R.slots
def JW (p : Program) (l : Launch) (e : Env) (R : Room) (s : State) (m : MethodId) (args : Array Value) (below : List Frame) (meth : Method) (c : Code) (nL ca sl : Nat) (Q : State → Prop) (D : va_G) (cA : Nat → ClassId) (ad : Nat → Nat) (A : Nat → Prop) (L : Nat) (pc : Nat) (lp st : List PV) (M : Mem) : Prop :=
  ∀ (H : Heap) (locs : List Loc) (ls : Array Slot), va_P D clsL (wld ad cA L M) H → va_S A s.heap H locs → LR ad nL lp ls → W p l e R s m args below meth c H locs ca sl Q (F0 m pc ls (st.map (vp ad)))

set_option maxHeartbeats 1000000 in
theorem s_iconst {X : Sx} {L : Nat} {scr : Nat → Int} {p : Program} {l : Launch} {e : Env} {R : Room} {s : State} {m : MethodId} {args : Array Value} {below : List Frame} {meth : Method} {c : Code} {own : String} {cc : ByteArray} {nL ca sl : Nat} {Q : State → Prop} {D : va_G} {cA : Nat → ClassId} {ad : Nat → Nat} {A : Nat → Prop} (F : Fx X L scr p s m args c own cc nL R ca sl D cA ad A) : k_iconst X L (xcF scr) (JW p l e R s m args below meth c nL ca sl Q D cA ad A L) := by
  obtain ⟨hx, hb, hml, hown, hts, hK, had, hE, hL, htab, hfd, hkL, hkI, hsg, hnt, hcl, hR1, hR2, hRc, hRs⟩ := F
  intro pc q lp st M v h1 h2 k
  have hdg := htab _ (lk_mem h1)
  subst h2
  intro H locs ls hP hS hl
  exact lv_iconst hx hb hdg rfl (k H locs ls hP hS hl)
set_option maxHeartbeats 1000000 in
theorem s_bipush {X : Sx} {L : Nat} {scr : Nat → Int} {p : Program} {l : Launch} {e : Env} {R : Room} {s : State} {m : MethodId} {args : Array Value} {below : List Frame} {meth : Method} {c : Code} {own : String} {cc : ByteArray} {nL ca sl : Nat} {Q : State → Prop} {D : va_G} {cA : Nat → ClassId} {ad : Nat → Nat} {A : Nat → Prop} (F : Fx X L scr p s m args c own cc nL R ca sl D cA ad A) : k_bipush X L (xcF scr) (JW p l e R s m args below meth c nL ca sl Q D cA ad A L) := by
  obtain ⟨hx, hb, hml, hown, hts, hK, had, hE, hL, htab, hfd, hkL, hkI, hsg, hnt, hcl, hR1, hR2, hRc, hRs⟩ := F
  intro pc q lp st M v h1 h2 h3 k
  have hdg := htab _ (lk_mem h1)
  subst h2
  intro H locs ls hP hS hl
  exact lv_bipush hx hb hdg (of_i8 h3) (k H locs ls hP hS hl)
set_option maxHeartbeats 1000000 in
theorem s_sipush {X : Sx} {L : Nat} {scr : Nat → Int} {p : Program} {l : Launch} {e : Env} {R : Room} {s : State} {m : MethodId} {args : Array Value} {below : List Frame} {meth : Method} {c : Code} {own : String} {cc : ByteArray} {nL ca sl : Nat} {Q : State → Prop} {D : va_G} {cA : Nat → ClassId} {ad : Nat → Nat} {A : Nat → Prop} (F : Fx X L scr p s m args c own cc nL R ca sl D cA ad A) : k_sipush X L (xcF scr) (JW p l e R s m args below meth c nL ca sl Q D cA ad A L) := by
  obtain ⟨hx, hb, hml, hown, hts, hK, had, hE, hL, htab, hfd, hkL, hkI, hsg, hnt, hcl, hR1, hR2, hRc, hRs⟩ := F
  intro pc q lp st M v h1 h2 h3 k
  have hdg := htab _ (lk_mem h1)
  subst h2
  intro H locs ls hP hS hl
  exact lv_sipush hx hb hdg (of_i16 h3) (k H locs ls hP hS hl)
set_option maxHeartbeats 1000000 in
theorem s_lconst {X : Sx} {L : Nat} {scr : Nat → Int} {p : Program} {l : Launch} {e : Env} {R : Room} {s : State} {m : MethodId} {args : Array Value} {below : List Frame} {meth : Method} {c : Code} {own : String} {cc : ByteArray} {nL ca sl : Nat} {Q : State → Prop} {D : va_G} {cA : Nat → ClassId} {ad : Nat → Nat} {A : Nat → Prop} (F : Fx X L scr p s m args c own cc nL R ca sl D cA ad A) : k_lconst X L (xcF scr) (JW p l e R s m args below meth c nL ca sl Q D cA ad A L) := by
  obtain ⟨hx, hb, hml, hown, hts, hK, had, hE, hL, htab, hfd, hkL, hkI, hsg, hnt, hcl, hR1, hR2, hRc, hRs⟩ := F
  intro pc q lp st M n v h1 h2 h3 k
  have hdg := htab _ (lk_mem h1)
  subst h2
  intro H locs ls hP hS hl
  subst h3
  exact lv_lconst hx hb hdg (of_nL _) (k H locs ls hP hS hl)
set_option maxHeartbeats 1000000 in
theorem s_ldc2 {X : Sx} {L : Nat} {scr : Nat → Int} {p : Program} {l : Launch} {e : Env} {R : Room} {s : State} {m : MethodId} {args : Array Value} {below : List Frame} {meth : Method} {c : Code} {own : String} {cc : ByteArray} {nL ca sl : Nat} {Q : State → Prop} {D : va_G} {cA : Nat → ClassId} {ad : Nat → Nat} {A : Nat → Prop} (F : Fx X L scr p s m args c own cc nL R ca sl D cA ad A) : k_ldc2 X L (xcF scr) (JW p l e R s m args below meth c nL ca sl Q D cA ad A L) := by
  obtain ⟨hx, hb, hml, hown, hts, hK, had, hE, hL, htab, hfd, hkL, hkI, hsg, hnt, hcl, hR1, hR2, hRc, hRs⟩ := F
  intro pc q lp st M i v h1 h2 h3 k
  have hdg := htab _ (lk_mem h1)
  subst h2
  intro H locs ls hP hS hl
  exact lv_ldc2 hx hb hown (hts _ (hkL _ (lk_mem h3))) hdg (k H locs ls hP hS hl)
set_option maxHeartbeats 1000000 in
theorem s_ldcw {X : Sx} {L : Nat} {scr : Nat → Int} {p : Program} {l : Launch} {e : Env} {R : Room} {s : State} {m : MethodId} {args : Array Value} {below : List Frame} {meth : Method} {c : Code} {own : String} {cc : ByteArray} {nL ca sl : Nat} {Q : State → Prop} {D : va_G} {cA : Nat → ClassId} {ad : Nat → Nat} {A : Nat → Prop} (F : Fx X L scr p s m args c own cc nL R ca sl D cA ad A) : k_ldcw X L (xcF scr) (JW p l e R s m args below meth c nL ca sl Q D cA ad A L) := by
  obtain ⟨hx, hb, hml, hown, hts, hK, had, hE, hL, htab, hfd, hkL, hkI, hsg, hnt, hcl, hR1, hR2, hRc, hRs⟩ := F
  intro pc q lp st M i v h1 h2 h3 k
  have hdg := htab _ (lk_mem h1)
  subst h2
  intro H locs ls hP hS hl
  exact lv_ldcw hx hb hown (hts _ (hkI _ (lk_mem h3))) hdg (k H locs ls hP hS hl)
set_option maxHeartbeats 1000000 in
theorem s_iload_n {X : Sx} {L : Nat} {scr : Nat → Int} {p : Program} {l : Launch} {e : Env} {R : Room} {s : State} {m : MethodId} {args : Array Value} {below : List Frame} {meth : Method} {c : Code} {own : String} {cc : ByteArray} {nL ca sl : Nat} {Q : State → Prop} {D : va_G} {cA : Nat → ClassId} {ad : Nat → Nat} {A : Nat → Prop} (F : Fx X L scr p s m args c own cc nL R ca sl D cA ad A) : k_iload_n X L (xcF scr) (JW p l e R s m args below meth c nL ca sl Q D cA ad A L) := by
  obtain ⟨hx, hb, hml, hown, hts, hK, had, hE, hL, htab, hfd, hkL, hkI, hsg, hnt, hcl, hR1, hR2, hRc, hRs⟩ := F
  intro pc q lp st M k4 i x h1 h2 h3 h4 k
  have hdg := htab _ (lk_mem h1)
  subst h2
  intro H locs ls hP hS hl
  exact lv_iload_n hx hb hdg h3 (hl.get h4) (k H locs ls hP hS hl)
set_option maxHeartbeats 1000000 in
theorem s_iload {X : Sx} {L : Nat} {scr : Nat → Int} {p : Program} {l : Launch} {e : Env} {R : Room} {s : State} {m : MethodId} {args : Array Value} {below : List Frame} {meth : Method} {c : Code} {own : String} {cc : ByteArray} {nL ca sl : Nat} {Q : State → Prop} {D : va_G} {cA : Nat → ClassId} {ad : Nat → Nat} {A : Nat → Prop} (F : Fx X L scr p s m args c own cc nL R ca sl D cA ad A) : k_iload X L (xcF scr) (JW p l e R s m args below meth c nL ca sl Q D cA ad A L) := by
  obtain ⟨hx, hb, hml, hown, hts, hK, had, hE, hL, htab, hfd, hkL, hkI, hsg, hnt, hcl, hR1, hR2, hRc, hRs⟩ := F
  intro pc q lp st M i x h1 h2 h3 k
  have hdg := htab _ (lk_mem h1)
  subst h2
  intro H locs ls hP hS hl
  exact lv_iload hx hb hdg (hl.get h3) (k H locs ls hP hS hl)
set_option maxHeartbeats 1000000 in
theorem s_lload_n {X : Sx} {L : Nat} {scr : Nat → Int} {p : Program} {l : Launch} {e : Env} {R : Room} {s : State} {m : MethodId} {args : Array Value} {below : List Frame} {meth : Method} {c : Code} {own : String} {cc : ByteArray} {nL ca sl : Nat} {Q : State → Prop} {D : va_G} {cA : Nat → ClassId} {ad : Nat → Nat} {A : Nat → Prop} (F : Fx X L scr p s m args c own cc nL R ca sl D cA ad A) : k_lload_n X L (xcF scr) (JW p l e R s m args below meth c nL ca sl Q D cA ad A L) := by
  obtain ⟨hx, hb, hml, hown, hts, hK, had, hE, hL, htab, hfd, hkL, hkI, hsg, hnt, hcl, hR1, hR2, hRc, hRs⟩ := F
  intro pc q lp st M k4 i x h1 h2 h3 h4 k
  have hdg := htab _ (lk_mem h1)
  subst h2
  intro H locs ls hP hS hl
  exact lv_lload_n hx hb hdg h3 (hl.get h4) (k H locs ls hP hS hl)
set_option maxHeartbeats 1000000 in
theorem s_lload {X : Sx} {L : Nat} {scr : Nat → Int} {p : Program} {l : Launch} {e : Env} {R : Room} {s : State} {m : MethodId} {args : Array Value} {below : List Frame} {meth : Method} {c : Code} {own : String} {cc : ByteArray} {nL ca sl : Nat} {Q : State → Prop} {D : va_G} {cA : Nat → ClassId} {ad : Nat → Nat} {A : Nat → Prop} (F : Fx X L scr p s m args c own cc nL R ca sl D cA ad A) : k_lload X L (xcF scr) (JW p l e R s m args below meth c nL ca sl Q D cA ad A L) := by
  obtain ⟨hx, hb, hml, hown, hts, hK, had, hE, hL, htab, hfd, hkL, hkI, hsg, hnt, hcl, hR1, hR2, hRc, hRs⟩ := F
  intro pc q lp st M i x h1 h2 h3 k
  have hdg := htab _ (lk_mem h1)
  subst h2
  intro H locs ls hP hS hl
  exact lv_lload hx hb hdg (hl.get h3) (k H locs ls hP hS hl)
set_option maxHeartbeats 1000000 in
theorem s_aload_n {X : Sx} {L : Nat} {scr : Nat → Int} {p : Program} {l : Launch} {e : Env} {R : Room} {s : State} {m : MethodId} {args : Array Value} {below : List Frame} {meth : Method} {c : Code} {own : String} {cc : ByteArray} {nL ca sl : Nat} {Q : State → Prop} {D : va_G} {cA : Nat → ClassId} {ad : Nat → Nat} {A : Nat → Prop} (F : Fx X L scr p s m args c own cc nL R ca sl D cA ad A) : k_aload_n X L (xcF scr) (JW p l e R s m args below meth c nL ca sl Q D cA ad A L) := by
  obtain ⟨hx, hb, hml, hown, hts, hK, had, hE, hL, htab, hfd, hkL, hkI, hsg, hnt, hcl, hR1, hR2, hRc, hRs⟩ := F
  intro pc q lp st M k4 i r h1 h2 h3 h4 k
  have hdg := htab _ (lk_mem h1)
  subst h2
  intro H locs ls hP hS hl
  exact lv_aload_n hx hb hdg h3 (hl.get h4) (k H locs ls hP hS hl)
set_option maxHeartbeats 1000000 in
theorem s_aload {X : Sx} {L : Nat} {scr : Nat → Int} {p : Program} {l : Launch} {e : Env} {R : Room} {s : State} {m : MethodId} {args : Array Value} {below : List Frame} {meth : Method} {c : Code} {own : String} {cc : ByteArray} {nL ca sl : Nat} {Q : State → Prop} {D : va_G} {cA : Nat → ClassId} {ad : Nat → Nat} {A : Nat → Prop} (F : Fx X L scr p s m args c own cc nL R ca sl D cA ad A) : k_aload X L (xcF scr) (JW p l e R s m args below meth c nL ca sl Q D cA ad A L) := by
  obtain ⟨hx, hb, hml, hown, hts, hK, had, hE, hL, htab, hfd, hkL, hkI, hsg, hnt, hcl, hR1, hR2, hRc, hRs⟩ := F
  intro pc q lp st M i r h1 h2 h3 k
  have hdg := htab _ (lk_mem h1)
  subst h2
  intro H locs ls hP hS hl
  exact lv_aload hx hb hdg (hl.get h3) (k H locs ls hP hS hl)
set_option maxHeartbeats 1000000 in
theorem s_istore_n {X : Sx} {L : Nat} {scr : Nat → Int} {p : Program} {l : Launch} {e : Env} {R : Room} {s : State} {m : MethodId} {args : Array Value} {below : List Frame} {meth : Method} {c : Code} {own : String} {cc : ByteArray} {nL ca sl : Nat} {Q : State → Prop} {D : va_G} {cA : Nat → ClassId} {ad : Nat → Nat} {A : Nat → Prop} (F : Fx X L scr p s m args c own cc nL R ca sl D cA ad A) : k_istore_n X L (xcF scr) (JW p l e R s m args below meth c nL ca sl Q D cA ad A L) := by
  obtain ⟨hx, hb, hml, hown, hts, hK, had, hE, hL, htab, hfd, hkL, hkI, hsg, hnt, hcl, hR1, hR2, hRc, hRs⟩ := F
  intro pc q lp st M k4 i x h1 h2 h3 h4 k
  have hdg := htab _ (lk_mem h1)
  subst h2
  intro H locs ls hP hS hl
  obtain ⟨l0, g1, g2, g3⟩ := hl
  have hi := okS_lt h4
  exact lv_istore_n hx hb hdg h3 g1 (g2 ▸ hi) rfl (fun ls' h' => k H locs ls' hP hS (LR.put g2 g3 h4 h'))
set_option maxHeartbeats 1000000 in
theorem s_istore {X : Sx} {L : Nat} {scr : Nat → Int} {p : Program} {l : Launch} {e : Env} {R : Room} {s : State} {m : MethodId} {args : Array Value} {below : List Frame} {meth : Method} {c : Code} {own : String} {cc : ByteArray} {nL ca sl : Nat} {Q : State → Prop} {D : va_G} {cA : Nat → ClassId} {ad : Nat → Nat} {A : Nat → Prop} (F : Fx X L scr p s m args c own cc nL R ca sl D cA ad A) : k_istore X L (xcF scr) (JW p l e R s m args below meth c nL ca sl Q D cA ad A L) := by
  obtain ⟨hx, hb, hml, hown, hts, hK, had, hE, hL, htab, hfd, hkL, hkI, hsg, hnt, hcl, hR1, hR2, hRc, hRs⟩ := F
  intro pc q lp st M i x h1 h2 h3 k
  have hdg := htab _ (lk_mem h1)
  subst h2
  intro H locs ls hP hS hl
  obtain ⟨l0, g1, g2, g3⟩ := hl
  have hi := okS_lt h3
  exact lv_istore hx hb hdg g1 (g2 ▸ hi) rfl (fun ls' h' => k H locs ls' hP hS (LR.put g2 g3 h3 h'))
set_option maxHeartbeats 1000000 in
theorem s_astore_n {X : Sx} {L : Nat} {scr : Nat → Int} {p : Program} {l : Launch} {e : Env} {R : Room} {s : State} {m : MethodId} {args : Array Value} {below : List Frame} {meth : Method} {c : Code} {own : String} {cc : ByteArray} {nL ca sl : Nat} {Q : State → Prop} {D : va_G} {cA : Nat → ClassId} {ad : Nat → Nat} {A : Nat → Prop} (F : Fx X L scr p s m args c own cc nL R ca sl D cA ad A) : k_astore_n X L (xcF scr) (JW p l e R s m args below meth c nL ca sl Q D cA ad A L) := by
  obtain ⟨hx, hb, hml, hown, hts, hK, had, hE, hL, htab, hfd, hkL, hkI, hsg, hnt, hcl, hR1, hR2, hRc, hRs⟩ := F
  intro pc q lp st M k4 i r h1 h2 h3 h4 k
  have hdg := htab _ (lk_mem h1)
  subst h2
  intro H locs ls hP hS hl
  obtain ⟨l0, g1, g2, g3⟩ := hl
  have hi := okS_lt h4
  exact lv_astore_n hx hb hdg h3 g1 (g2 ▸ hi) rfl (fun ls' h' => k H locs ls' hP hS (LR.put g2 g3 h4 h'))
set_option maxHeartbeats 1000000 in
theorem s_astore {X : Sx} {L : Nat} {scr : Nat → Int} {p : Program} {l : Launch} {e : Env} {R : Room} {s : State} {m : MethodId} {args : Array Value} {below : List Frame} {meth : Method} {c : Code} {own : String} {cc : ByteArray} {nL ca sl : Nat} {Q : State → Prop} {D : va_G} {cA : Nat → ClassId} {ad : Nat → Nat} {A : Nat → Prop} (F : Fx X L scr p s m args c own cc nL R ca sl D cA ad A) : k_astore X L (xcF scr) (JW p l e R s m args below meth c nL ca sl Q D cA ad A L) := by
  obtain ⟨hx, hb, hml, hown, hts, hK, had, hE, hL, htab, hfd, hkL, hkI, hsg, hnt, hcl, hR1, hR2, hRc, hRs⟩ := F
  intro pc q lp st M i r h1 h2 h3 k
  have hdg := htab _ (lk_mem h1)
  subst h2
  intro H locs ls hP hS hl
  obtain ⟨l0, g1, g2, g3⟩ := hl
  have hi := okS_lt h3
  exact lv_astore hx hb hdg g1 (g2 ▸ hi) rfl (fun ls' h' => k H locs ls' hP hS (LR.put g2 g3 h3 h'))
set_option maxHeartbeats 1000000 in
theorem s_lstore_n {X : Sx} {L : Nat} {scr : Nat → Int} {p : Program} {l : Launch} {e : Env} {R : Room} {s : State} {m : MethodId} {args : Array Value} {below : List Frame} {meth : Method} {c : Code} {own : String} {cc : ByteArray} {nL ca sl : Nat} {Q : State → Prop} {D : va_G} {cA : Nat → ClassId} {ad : Nat → Nat} {A : Nat → Prop} (F : Fx X L scr p s m args c own cc nL R ca sl D cA ad A) : k_lstore_n X L (xcF scr) (JW p l e R s m args below meth c nL ca sl Q D cA ad A L) := by
  obtain ⟨hx, hb, hml, hown, hts, hK, had, hE, hL, htab, hfd, hkL, hkI, hsg, hnt, hcl, hR1, hR2, hRc, hRs⟩ := F
  intro pc q lp st M k4 i x h1 h2 h3 h4 h5 k
  have hdg := htab _ (lk_mem h1)
  subst h2
  intro H locs ls hP hS hl
  obtain ⟨l0, g1, g2, g3⟩ := hl
  have hi := Nat.lt_of_lt_of_eq (Nat.lt_of_lt_of_le (Nat.lt_succ_self _) (Nat.le_of_ble_eq_true h5)) g2
  exact lv_lstore_n hx hb hdg h3 g1 (Nat.lt_of_lt_of_eq (Nat.lt_of_succ_le (Nat.le_of_ble_eq_true h5)) g2) rfl (fun ls' h' => k H locs ls' hP hS (LR.put2 g2 g3 h4 h'))
set_option maxHeartbeats 1000000 in
theorem s_lstore {X : Sx} {L : Nat} {scr : Nat → Int} {p : Program} {l : Launch} {e : Env} {R : Room} {s : State} {m : MethodId} {args : Array Value} {below : List Frame} {meth : Method} {c : Code} {own : String} {cc : ByteArray} {nL ca sl : Nat} {Q : State → Prop} {D : va_G} {cA : Nat → ClassId} {ad : Nat → Nat} {A : Nat → Prop} (F : Fx X L scr p s m args c own cc nL R ca sl D cA ad A) : k_lstore X L (xcF scr) (JW p l e R s m args below meth c nL ca sl Q D cA ad A L) := by
  obtain ⟨hx, hb, hml, hown, hts, hK, had, hE, hL, htab, hfd, hkL, hkI, hsg, hnt, hcl, hR1, hR2, hRc, hRs⟩ := F
  intro pc q lp st M i x h1 h2 h3 h4 k
  have hdg := htab _ (lk_mem h1)
  subst h2
  intro H locs ls hP hS hl
  obtain ⟨l0, g1, g2, g3⟩ := hl
  have hi := Nat.lt_of_lt_of_eq (Nat.lt_of_lt_of_le (Nat.lt_succ_self _) (Nat.le_of_ble_eq_true h4)) g2
  exact lv_lstore hx hb hdg g1 (Nat.lt_of_lt_of_eq (Nat.lt_of_succ_le (Nat.le_of_ble_eq_true h4)) g2) rfl (fun ls' h' => k H locs ls' hP hS (LR.put2 g2 g3 h3 h'))
set_option maxHeartbeats 1000000 in
theorem s_iinc {X : Sx} {L : Nat} {scr : Nat → Int} {p : Program} {l : Launch} {e : Env} {R : Room} {s : State} {m : MethodId} {args : Array Value} {below : List Frame} {meth : Method} {c : Code} {own : String} {cc : ByteArray} {nL ca sl : Nat} {Q : State → Prop} {D : va_G} {cA : Nat → ClassId} {ad : Nat → Nat} {A : Nat → Prop} (F : Fx X L scr p s m args c own cc nL R ca sl D cA ad A) : k_iinc X L (xcF scr) (JW p l e R s m args below meth c nL ca sl Q D cA ad A L) := by
  obtain ⟨hx, hb, hml, hown, hts, hK, had, hE, hL, htab, hfd, hkL, hkI, hsg, hnt, hcl, hR1, hR2, hRc, hRs⟩ := F
  intro pc q lp st M i n x h1 h2 h3 h4 k
  have hdg := htab _ (lk_mem h1)
  subst h2
  intro H locs ls hP hS hl
  obtain ⟨l0, g1, g2, g3⟩ := hl
  have hi := okS_lt h4
  obtain ⟨k0, hk0⟩ := List.getElem?_of_mem (g3 i _ h3)
  exact lv_iinc hx hb hdg g1 hk0 (Int32.ofInt_add x n).symm (g2 ▸ hi) rfl (fun ls' h' => k H locs ls' hP hS (LR.put (w := .inl (x + n)) g2 g3 h4 h'))
set_option maxHeartbeats 1000000 in
theorem s_iadd {X : Sx} {L : Nat} {scr : Nat → Int} {p : Program} {l : Launch} {e : Env} {R : Room} {s : State} {m : MethodId} {args : Array Value} {below : List Frame} {meth : Method} {c : Code} {own : String} {cc : ByteArray} {nL ca sl : Nat} {Q : State → Prop} {D : va_G} {cA : Nat → ClassId} {ad : Nat → Nat} {A : Nat → Prop} (F : Fx X L scr p s m args c own cc nL R ca sl D cA ad A) : k_iadd X L (xcF scr) (JW p l e R s m args below meth c nL ca sl Q D cA ad A L) := by
  obtain ⟨hx, hb, hml, hown, hts, hK, had, hE, hL, htab, hfd, hkL, hkI, hsg, hnt, hcl, hR1, hR2, hRc, hRs⟩ := F
  intro pc q lp st M x y h1 h2 k
  have hdg := htab _ (lk_mem h1)
  subst h2
  intro H locs ls hP hS hl
  exact lv_iadd hx hb hdg (by have := k H locs ls hP hS hl; simp only [List.map_cons, vp] at this; rw [Int32.ofInt_add] at this; exact this)
set_option maxHeartbeats 1000000 in
theorem s_isub {X : Sx} {L : Nat} {scr : Nat → Int} {p : Program} {l : Launch} {e : Env} {R : Room} {s : State} {m : MethodId} {args : Array Value} {below : List Frame} {meth : Method} {c : Code} {own : String} {cc : ByteArray} {nL ca sl : Nat} {Q : State → Prop} {D : va_G} {cA : Nat → ClassId} {ad : Nat → Nat} {A : Nat → Prop} (F : Fx X L scr p s m args c own cc nL R ca sl D cA ad A) : k_isub X L (xcF scr) (JW p l e R s m args below meth c nL ca sl Q D cA ad A L) := by
  obtain ⟨hx, hb, hml, hown, hts, hK, had, hE, hL, htab, hfd, hkL, hkI, hsg, hnt, hcl, hR1, hR2, hRc, hRs⟩ := F
  intro pc q lp st M x y h1 h2 k
  have hdg := htab _ (lk_mem h1)
  subst h2
  intro H locs ls hP hS hl
  exact lv_isub hx hb hdg (by have := k H locs ls hP hS hl; simp only [List.map_cons, vp] at this; rw [Int32.ofInt_sub] at this; exact this)
set_option maxHeartbeats 1000000 in
theorem s_imul {X : Sx} {L : Nat} {scr : Nat → Int} {p : Program} {l : Launch} {e : Env} {R : Room} {s : State} {m : MethodId} {args : Array Value} {below : List Frame} {meth : Method} {c : Code} {own : String} {cc : ByteArray} {nL ca sl : Nat} {Q : State → Prop} {D : va_G} {cA : Nat → ClassId} {ad : Nat → Nat} {A : Nat → Prop} (F : Fx X L scr p s m args c own cc nL R ca sl D cA ad A) : k_imul X L (xcF scr) (JW p l e R s m args below meth c nL ca sl Q D cA ad A L) := by
  obtain ⟨hx, hb, hml, hown, hts, hK, had, hE, hL, htab, hfd, hkL, hkI, hsg, hnt, hcl, hR1, hR2, hRc, hRs⟩ := F
  intro pc q lp st M x y h1 h2 k
  have hdg := htab _ (lk_mem h1)
  subst h2
  intro H locs ls hP hS hl
  exact lv_imul hx hb hdg (by have := k H locs ls hP hS hl; simp only [List.map_cons, vp] at this; rw [Int32.ofInt_mul] at this; exact this)
set_option maxHeartbeats 1000000 in
theorem s_idiv {X : Sx} {L : Nat} {scr : Nat → Int} {p : Program} {l : Launch} {e : Env} {R : Room} {s : State} {m : MethodId} {args : Array Value} {below : List Frame} {meth : Method} {c : Code} {own : String} {cc : ByteArray} {nL ca sl : Nat} {Q : State → Prop} {D : va_G} {cA : Nat → ClassId} {ad : Nat → Nat} {A : Nat → Prop} (F : Fx X L scr p s m args c own cc nL R ca sl D cA ad A) : k_idiv X L (xcF scr) (JW p l e R s m args below meth c nL ca sl Q D cA ad A L) := by
  obtain ⟨hx, hb, hml, hown, hts, hK, had, hE, hL, htab, hfd, hkL, hkI, hsg, hnt, hcl, hR1, hR2, hRc, hRs⟩ := F
  intro pc q lp st M x y h1 h2 h3 k
  have hdg := htab _ (lk_mem h1)
  subst h2
  intro H locs ls hP hS hl
  exact lv_idiv hx hb hdg (fun e => h3.2 ((of_eq h3.1 ⟨by decide, by decide⟩).mp e)) (by have := k H locs ls hP hS hl; simp only [List.map_cons, vp, i32div, of_i32] at this; exact this)
set_option maxHeartbeats 1000000 in
theorem s_irem {X : Sx} {L : Nat} {scr : Nat → Int} {p : Program} {l : Launch} {e : Env} {R : Room} {s : State} {m : MethodId} {args : Array Value} {below : List Frame} {meth : Method} {c : Code} {own : String} {cc : ByteArray} {nL ca sl : Nat} {Q : State → Prop} {D : va_G} {cA : Nat → ClassId} {ad : Nat → Nat} {A : Nat → Prop} (F : Fx X L scr p s m args c own cc nL R ca sl D cA ad A) : k_irem X L (xcF scr) (JW p l e R s m args below meth c nL ca sl Q D cA ad A L) := by
  obtain ⟨hx, hb, hml, hown, hts, hK, had, hE, hL, htab, hfd, hkL, hkI, hsg, hnt, hcl, hR1, hR2, hRc, hRs⟩ := F
  intro pc q lp st M x y h1 h2 h3 k
  have hdg := htab _ (lk_mem h1)
  subst h2
  intro H locs ls hP hS hl
  exact lv_irem hx hb hdg (fun e => h3.2 ((of_eq h3.1 ⟨by decide, by decide⟩).mp e)) (by have := k H locs ls hP hS hl; simp only [List.map_cons, vp, i32rem, of_i32] at this; exact this)
set_option maxHeartbeats 1000000 in
theorem s_ineg {X : Sx} {L : Nat} {scr : Nat → Int} {p : Program} {l : Launch} {e : Env} {R : Room} {s : State} {m : MethodId} {args : Array Value} {below : List Frame} {meth : Method} {c : Code} {own : String} {cc : ByteArray} {nL ca sl : Nat} {Q : State → Prop} {D : va_G} {cA : Nat → ClassId} {ad : Nat → Nat} {A : Nat → Prop} (F : Fx X L scr p s m args c own cc nL R ca sl D cA ad A) : k_ineg X L (xcF scr) (JW p l e R s m args below meth c nL ca sl Q D cA ad A L) := by
  obtain ⟨hx, hb, hml, hown, hts, hK, had, hE, hL, htab, hfd, hkL, hkI, hsg, hnt, hcl, hR1, hR2, hRc, hRs⟩ := F
  intro pc q lp st M x h1 h2 k
  have hdg := htab _ (lk_mem h1)
  subst h2
  intro H locs ls hP hS hl
  exact lv_ineg hx hb hdg (by have := k H locs ls hP hS hl; simp only [List.map_cons, vp] at this; rw [Int32.ofInt_neg] at this; exact this)
set_option maxHeartbeats 1000000 in
theorem s_ishl {X : Sx} {L : Nat} {scr : Nat → Int} {p : Program} {l : Launch} {e : Env} {R : Room} {s : State} {m : MethodId} {args : Array Value} {below : List Frame} {meth : Method} {c : Code} {own : String} {cc : ByteArray} {nL ca sl : Nat} {Q : State → Prop} {D : va_G} {cA : Nat → ClassId} {ad : Nat → Nat} {A : Nat → Prop} (F : Fx X L scr p s m args c own cc nL R ca sl D cA ad A) : k_ishl X L (xcF scr) (JW p l e R s m args below meth c nL ca sl Q D cA ad A L) := by
  obtain ⟨hx, hb, hml, hown, hts, hK, had, hE, hL, htab, hfd, hkL, hkI, hsg, hnt, hcl, hR1, hR2, hRc, hRs⟩ := F
  intro pc q lp st M x y h1 h2 k
  have hdg := htab _ (lk_mem h1)
  subst h2
  intro H locs ls hP hS hl
  exact lv_ishl hx hb hdg  (by have := k H locs ls hP hS hl; simp only [List.map_cons, vp, xishl, of_i32] at this; exact this)
set_option maxHeartbeats 1000000 in
theorem s_ishr {X : Sx} {L : Nat} {scr : Nat → Int} {p : Program} {l : Launch} {e : Env} {R : Room} {s : State} {m : MethodId} {args : Array Value} {below : List Frame} {meth : Method} {c : Code} {own : String} {cc : ByteArray} {nL ca sl : Nat} {Q : State → Prop} {D : va_G} {cA : Nat → ClassId} {ad : Nat → Nat} {A : Nat → Prop} (F : Fx X L scr p s m args c own cc nL R ca sl D cA ad A) : k_ishr X L (xcF scr) (JW p l e R s m args below meth c nL ca sl Q D cA ad A L) := by
  obtain ⟨hx, hb, hml, hown, hts, hK, had, hE, hL, htab, hfd, hkL, hkI, hsg, hnt, hcl, hR1, hR2, hRc, hRs⟩ := F
  intro pc q lp st M x y h1 h2 k
  have hdg := htab _ (lk_mem h1)
  subst h2
  intro H locs ls hP hS hl
  exact lv_ishr hx hb hdg  (by have := k H locs ls hP hS hl; simp only [List.map_cons, vp, xishr, of_i32] at this; exact this)
set_option maxHeartbeats 1000000 in
theorem s_iand {X : Sx} {L : Nat} {scr : Nat → Int} {p : Program} {l : Launch} {e : Env} {R : Room} {s : State} {m : MethodId} {args : Array Value} {below : List Frame} {meth : Method} {c : Code} {own : String} {cc : ByteArray} {nL ca sl : Nat} {Q : State → Prop} {D : va_G} {cA : Nat → ClassId} {ad : Nat → Nat} {A : Nat → Prop} (F : Fx X L scr p s m args c own cc nL R ca sl D cA ad A) : k_iand X L (xcF scr) (JW p l e R s m args below meth c nL ca sl Q D cA ad A L) := by
  obtain ⟨hx, hb, hml, hown, hts, hK, had, hE, hL, htab, hfd, hkL, hkI, hsg, hnt, hcl, hR1, hR2, hRc, hRs⟩ := F
  intro pc q lp st M x y h1 h2 k
  have hdg := htab _ (lk_mem h1)
  subst h2
  intro H locs ls hP hS hl
  exact lv_iand hx hb hdg  (by have := k H locs ls hP hS hl; simp only [List.map_cons, vp, xiand, of_i32] at this; exact this)
set_option maxHeartbeats 1000000 in
theorem s_ior {X : Sx} {L : Nat} {scr : Nat → Int} {p : Program} {l : Launch} {e : Env} {R : Room} {s : State} {m : MethodId} {args : Array Value} {below : List Frame} {meth : Method} {c : Code} {own : String} {cc : ByteArray} {nL ca sl : Nat} {Q : State → Prop} {D : va_G} {cA : Nat → ClassId} {ad : Nat → Nat} {A : Nat → Prop} (F : Fx X L scr p s m args c own cc nL R ca sl D cA ad A) : k_ior X L (xcF scr) (JW p l e R s m args below meth c nL ca sl Q D cA ad A L) := by
  obtain ⟨hx, hb, hml, hown, hts, hK, had, hE, hL, htab, hfd, hkL, hkI, hsg, hnt, hcl, hR1, hR2, hRc, hRs⟩ := F
  intro pc q lp st M x y h1 h2 k
  have hdg := htab _ (lk_mem h1)
  subst h2
  intro H locs ls hP hS hl
  exact lv_ior hx hb hdg  (by have := k H locs ls hP hS hl; simp only [List.map_cons, vp, xior, of_i32] at this; exact this)
set_option maxHeartbeats 1000000 in
theorem s_ixor {X : Sx} {L : Nat} {scr : Nat → Int} {p : Program} {l : Launch} {e : Env} {R : Room} {s : State} {m : MethodId} {args : Array Value} {below : List Frame} {meth : Method} {c : Code} {own : String} {cc : ByteArray} {nL ca sl : Nat} {Q : State → Prop} {D : va_G} {cA : Nat → ClassId} {ad : Nat → Nat} {A : Nat → Prop} (F : Fx X L scr p s m args c own cc nL R ca sl D cA ad A) : k_ixor X L (xcF scr) (JW p l e R s m args below meth c nL ca sl Q D cA ad A L) := by
  obtain ⟨hx, hb, hml, hown, hts, hK, had, hE, hL, htab, hfd, hkL, hkI, hsg, hnt, hcl, hR1, hR2, hRc, hRs⟩ := F
  intro pc q lp st M x y h1 h2 k
  have hdg := htab _ (lk_mem h1)
  subst h2
  intro H locs ls hP hS hl
  exact lv_ixor hx hb hdg  (by have := k H locs ls hP hS hl; simp only [List.map_cons, vp, xixor, of_i32] at this; exact this)
set_option maxHeartbeats 1000000 in
theorem s_iushr {X : Sx} {L : Nat} {scr : Nat → Int} {p : Program} {l : Launch} {e : Env} {R : Room} {s : State} {m : MethodId} {args : Array Value} {below : List Frame} {meth : Method} {c : Code} {own : String} {cc : ByteArray} {nL ca sl : Nat} {Q : State → Prop} {D : va_G} {cA : Nat → ClassId} {ad : Nat → Nat} {A : Nat → Prop} (F : Fx X L scr p s m args c own cc nL R ca sl D cA ad A) : k_iushr X L (xcF scr) (JW p l e R s m args below meth c nL ca sl Q D cA ad A L) := by
  obtain ⟨hx, hb, hml, hown, hts, hK, had, hE, hL, htab, hfd, hkL, hkI, hsg, hnt, hcl, hR1, hR2, hRc, hRs⟩ := F
  intro pc q lp st M x y h1 h2 k
  have hdg := htab _ (lk_mem h1)
  subst h2
  intro H locs ls hP hS hl
  exact lv_iushr hx hb hdg rfl (by have := k H locs ls hP hS hl; simp only [List.map_cons, vp, xiushr, of_i32] at this; exact this)
set_option maxHeartbeats 1000000 in
theorem s_land {X : Sx} {L : Nat} {scr : Nat → Int} {p : Program} {l : Launch} {e : Env} {R : Room} {s : State} {m : MethodId} {args : Array Value} {below : List Frame} {meth : Method} {c : Code} {own : String} {cc : ByteArray} {nL ca sl : Nat} {Q : State → Prop} {D : va_G} {cA : Nat → ClassId} {ad : Nat → Nat} {A : Nat → Prop} (F : Fx X L scr p s m args c own cc nL R ca sl D cA ad A) : k_land X L (xcF scr) (JW p l e R s m args below meth c nL ca sl Q D cA ad A L) := by
  obtain ⟨hx, hb, hml, hown, hts, hK, had, hE, hL, htab, hfd, hkL, hkI, hsg, hnt, hcl, hR1, hR2, hRc, hRs⟩ := F
  intro pc q lp st M x y h1 h2 k
  have hdg := htab _ (lk_mem h1)
  subst h2
  intro H locs ls hP hS hl
  exact lv_land hx hb hdg (by have := k H locs ls hP hS hl; simp only [List.map_cons, vp, xland, of_i64] at this; exact this)
set_option maxHeartbeats 1000000 in
theorem s_lor {X : Sx} {L : Nat} {scr : Nat → Int} {p : Program} {l : Launch} {e : Env} {R : Room} {s : State} {m : MethodId} {args : Array Value} {below : List Frame} {meth : Method} {c : Code} {own : String} {cc : ByteArray} {nL ca sl : Nat} {Q : State → Prop} {D : va_G} {cA : Nat → ClassId} {ad : Nat → Nat} {A : Nat → Prop} (F : Fx X L scr p s m args c own cc nL R ca sl D cA ad A) : k_lor X L (xcF scr) (JW p l e R s m args below meth c nL ca sl Q D cA ad A L) := by
  obtain ⟨hx, hb, hml, hown, hts, hK, had, hE, hL, htab, hfd, hkL, hkI, hsg, hnt, hcl, hR1, hR2, hRc, hRs⟩ := F
  intro pc q lp st M x y h1 h2 k
  have hdg := htab _ (lk_mem h1)
  subst h2
  intro H locs ls hP hS hl
  exact lv_lor hx hb hdg (by have := k H locs ls hP hS hl; simp only [List.map_cons, vp, xlor, of_i64] at this; exact this)
set_option maxHeartbeats 1000000 in
theorem s_lushr {X : Sx} {L : Nat} {scr : Nat → Int} {p : Program} {l : Launch} {e : Env} {R : Room} {s : State} {m : MethodId} {args : Array Value} {below : List Frame} {meth : Method} {c : Code} {own : String} {cc : ByteArray} {nL ca sl : Nat} {Q : State → Prop} {D : va_G} {cA : Nat → ClassId} {ad : Nat → Nat} {A : Nat → Prop} (F : Fx X L scr p s m args c own cc nL R ca sl D cA ad A) : k_lushr X L (xcF scr) (JW p l e R s m args below meth c nL ca sl Q D cA ad A L) := by
  obtain ⟨hx, hb, hml, hown, hts, hK, had, hE, hL, htab, hfd, hkL, hkI, hsg, hnt, hcl, hR1, hR2, hRc, hRs⟩ := F
  intro pc q lp st M x y h1 h2 k
  have hdg := htab _ (lk_mem h1)
  subst h2
  intro H locs ls hP hS hl
  exact lv_lushr hx hb hdg rfl (by have := k H locs ls hP hS hl; simp only [List.map_cons, vp, xlushr, of_i64] at this; exact this)
set_option maxHeartbeats 1000000 in
theorem s_lshl {X : Sx} {L : Nat} {scr : Nat → Int} {p : Program} {l : Launch} {e : Env} {R : Room} {s : State} {m : MethodId} {args : Array Value} {below : List Frame} {meth : Method} {c : Code} {own : String} {cc : ByteArray} {nL ca sl : Nat} {Q : State → Prop} {D : va_G} {cA : Nat → ClassId} {ad : Nat → Nat} {A : Nat → Prop} (F : Fx X L scr p s m args c own cc nL R ca sl D cA ad A) : k_lshl X L (xcF scr) (JW p l e R s m args below meth c nL ca sl Q D cA ad A L) := by
  obtain ⟨hx, hb, hml, hown, hts, hK, had, hE, hL, htab, hfd, hkL, hkI, hsg, hnt, hcl, hR1, hR2, hRc, hRs⟩ := F
  intro pc q lp st M x y h1 h2 k
  have hdg := htab _ (lk_mem h1)
  subst h2
  intro H locs ls hP hS hl
  exact lv_lshl hx hb hdg rfl (by have := k H locs ls hP hS hl; simp only [List.map_cons, vp, xlshl, of_i64] at this; exact this)
set_option maxHeartbeats 1000000 in
theorem s_i2l {X : Sx} {L : Nat} {scr : Nat → Int} {p : Program} {l : Launch} {e : Env} {R : Room} {s : State} {m : MethodId} {args : Array Value} {below : List Frame} {meth : Method} {c : Code} {own : String} {cc : ByteArray} {nL ca sl : Nat} {Q : State → Prop} {D : va_G} {cA : Nat → ClassId} {ad : Nat → Nat} {A : Nat → Prop} (F : Fx X L scr p s m args c own cc nL R ca sl D cA ad A) : k_i2l X L (xcF scr) (JW p l e R s m args below meth c nL ca sl Q D cA ad A L) := by
  obtain ⟨hx, hb, hml, hown, hts, hK, had, hE, hL, htab, hfd, hkL, hkI, hsg, hnt, hcl, hR1, hR2, hRc, hRs⟩ := F
  intro pc q lp st M x h1 h2 h3 k
  have hdg := htab _ (lk_mem h1)
  subst h2
  intro H locs ls hP hS hl
  exact lv_i2l hx hb hdg (of_i2l h3) (k H locs ls hP hS hl)
set_option maxHeartbeats 1000000 in
theorem s_l2i {X : Sx} {L : Nat} {scr : Nat → Int} {p : Program} {l : Launch} {e : Env} {R : Room} {s : State} {m : MethodId} {args : Array Value} {below : List Frame} {meth : Method} {c : Code} {own : String} {cc : ByteArray} {nL ca sl : Nat} {Q : State → Prop} {D : va_G} {cA : Nat → ClassId} {ad : Nat → Nat} {A : Nat → Prop} (F : Fx X L scr p s m args c own cc nL R ca sl D cA ad A) : k_l2i X L (xcF scr) (JW p l e R s m args below meth c nL ca sl Q D cA ad A L) := by
  obtain ⟨hx, hb, hml, hown, hts, hK, had, hE, hL, htab, hfd, hkL, hkI, hsg, hnt, hcl, hR1, hR2, hRc, hRs⟩ := F
  intro pc q lp st M x h1 h2 h3 k
  have hdg := htab _ (lk_mem h1)
  subst h2
  intro H locs ls hP hS hl
  exact lv_l2i hx hb hdg (of_l2i h3) (k H locs ls hP hS hl)
set_option maxHeartbeats 1000000 in
theorem s_i2c {X : Sx} {L : Nat} {scr : Nat → Int} {p : Program} {l : Launch} {e : Env} {R : Room} {s : State} {m : MethodId} {args : Array Value} {below : List Frame} {meth : Method} {c : Code} {own : String} {cc : ByteArray} {nL ca sl : Nat} {Q : State → Prop} {D : va_G} {cA : Nat → ClassId} {ad : Nat → Nat} {A : Nat → Prop} (F : Fx X L scr p s m args c own cc nL R ca sl D cA ad A) : k_i2c X L (xcF scr) (JW p l e R s m args below meth c nL ca sl Q D cA ad A L) := by
  obtain ⟨hx, hb, hml, hown, hts, hK, had, hE, hL, htab, hfd, hkL, hkI, hsg, hnt, hcl, hR1, hR2, hRc, hRs⟩ := F
  intro pc q lp st M x h1 h2 h3 k
  have hdg := htab _ (lk_mem h1)
  subst h2
  intro H locs ls hP hS hl
  exact lv_i2c hx hb hdg (of_i2c h3) (k H locs ls hP hS hl)
set_option maxHeartbeats 1000000 in
theorem s_lcmp {X : Sx} {L : Nat} {scr : Nat → Int} {p : Program} {l : Launch} {e : Env} {R : Room} {s : State} {m : MethodId} {args : Array Value} {below : List Frame} {meth : Method} {c : Code} {own : String} {cc : ByteArray} {nL ca sl : Nat} {Q : State → Prop} {D : va_G} {cA : Nat → ClassId} {ad : Nat → Nat} {A : Nat → Prop} (F : Fx X L scr p s m args c own cc nL R ca sl D cA ad A) : k_lcmp X L (xcF scr) (JW p l e R s m args below meth c nL ca sl Q D cA ad A L) := by
  obtain ⟨hx, hb, hml, hown, hts, hK, had, hE, hL, htab, hfd, hkL, hkI, hsg, hnt, hcl, hR1, hR2, hRc, hRs⟩ := F
  intro pc q lp st M x y h1 h2 h3 h4 k
  have hdg := htab _ (lk_mem h1)
  subst h2
  intro H locs ls hP hS hl
  exact W.lcmp hx hb hdg (by have := k H locs ls hP hS hl; simp only [List.map_cons, vp] at this; rw [of_lcmp h3 h4]; exact this)
set_option maxHeartbeats 1000000 in
theorem s_dup {X : Sx} {L : Nat} {scr : Nat → Int} {p : Program} {l : Launch} {e : Env} {R : Room} {s : State} {m : MethodId} {args : Array Value} {below : List Frame} {meth : Method} {c : Code} {own : String} {cc : ByteArray} {nL ca sl : Nat} {Q : State → Prop} {D : va_G} {cA : Nat → ClassId} {ad : Nat → Nat} {A : Nat → Prop} (F : Fx X L scr p s m args c own cc nL R ca sl D cA ad A) : k_dup X L (xcF scr) (JW p l e R s m args below meth c nL ca sl Q D cA ad A L) := by
  obtain ⟨hx, hb, hml, hown, hts, hK, had, hE, hL, htab, hfd, hkL, hkI, hsg, hnt, hcl, hR1, hR2, hRc, hRs⟩ := F
  intro pc q lp st M x h1 h2 h3 k
  have hdg := htab _ (lk_mem h1)
  subst h2
  intro H locs ls hP hS hl
  exact lv_dup hx hb hdg (cat1 ad h3) (k H locs ls hP hS hl)
set_option maxHeartbeats 1000000 in
theorem s_dup2 {X : Sx} {L : Nat} {scr : Nat → Int} {p : Program} {l : Launch} {e : Env} {R : Room} {s : State} {m : MethodId} {args : Array Value} {below : List Frame} {meth : Method} {c : Code} {own : String} {cc : ByteArray} {nL ca sl : Nat} {Q : State → Prop} {D : va_G} {cA : Nat → ClassId} {ad : Nat → Nat} {A : Nat → Prop} (F : Fx X L scr p s m args c own cc nL R ca sl D cA ad A) : k_dup2 X L (xcF scr) (JW p l e R s m args below meth c nL ca sl Q D cA ad A L) := by
  obtain ⟨hx, hb, hml, hown, hts, hK, had, hE, hL, htab, hfd, hkL, hkI, hsg, hnt, hcl, hR1, hR2, hRc, hRs⟩ := F
  intro pc q lp st M x y h1 h2 h3 h4 k
  have hdg := htab _ (lk_mem h1)
  subst h2
  intro H locs ls hP hS hl
  exact lv_dup2_11 hx hb hdg (cat1 ad h4) (cat1 ad h3) (k H locs ls hP hS hl)
set_option maxHeartbeats 1000000 in
theorem s_pop {X : Sx} {L : Nat} {scr : Nat → Int} {p : Program} {l : Launch} {e : Env} {R : Room} {s : State} {m : MethodId} {args : Array Value} {below : List Frame} {meth : Method} {c : Code} {own : String} {cc : ByteArray} {nL ca sl : Nat} {Q : State → Prop} {D : va_G} {cA : Nat → ClassId} {ad : Nat → Nat} {A : Nat → Prop} (F : Fx X L scr p s m args c own cc nL R ca sl D cA ad A) : k_pop X L (xcF scr) (JW p l e R s m args below meth c nL ca sl Q D cA ad A L) := by
  obtain ⟨hx, hb, hml, hown, hts, hK, had, hE, hL, htab, hfd, hkL, hkI, hsg, hnt, hcl, hR1, hR2, hRc, hRs⟩ := F
  intro pc q lp st M x h1 h2 h3 k
  have hdg := htab _ (lk_mem h1)
  subst h2
  intro H locs ls hP hS hl
  exact lv_pop hx hb hdg (cat1 ad h3) (k H locs ls hP hS hl)
set_option maxHeartbeats 1000000 in
theorem s_icmp_eq {X : Sx} {L : Nat} {scr : Nat → Int} {p : Program} {l : Launch} {e : Env} {R : Room} {s : State} {m : MethodId} {args : Array Value} {below : List Frame} {meth : Method} {c : Code} {own : String} {cc : ByteArray} {nL ca sl : Nat} {Q : State → Prop} {D : va_G} {cA : Nat → ClassId} {ad : Nat → Nat} {A : Nat → Prop} (F : Fx X L scr p s m args c own cc nL R ca sl D cA ad A) : k_icmp_eq X L (xcF scr) (JW p l e R s m args below meth c nL ca sl Q D cA ad A L) := by
  obtain ⟨hx, hb, hml, hown, hts, hK, had, hE, hL, htab, hfd, hkL, hkI, hsg, hnt, hcl, hR1, hR2, hRc, hRs⟩ := F
  intro pc q lp st M x y off tgt h1 h2 h3 h4 h5 k
  have hdg := htab _ (lk_mem h1)
  subst h2
  intro H locs ls hP hS hl
  exact lv_icmp_eq hx hb hdg h3 (fun z => k.1 ((of_eq h4 h5).mp z) H locs ls hP hS hl) (fun z => k.2 (fun e => z ((of_eq h4 h5).mpr e)) H locs ls hP hS hl)
set_option maxHeartbeats 1000000 in
theorem s_if_eq {X : Sx} {L : Nat} {scr : Nat → Int} {p : Program} {l : Launch} {e : Env} {R : Room} {s : State} {m : MethodId} {args : Array Value} {below : List Frame} {meth : Method} {c : Code} {own : String} {cc : ByteArray} {nL ca sl : Nat} {Q : State → Prop} {D : va_G} {cA : Nat → ClassId} {ad : Nat → Nat} {A : Nat → Prop} (F : Fx X L scr p s m args c own cc nL R ca sl D cA ad A) : k_if_eq X L (xcF scr) (JW p l e R s m args below meth c nL ca sl Q D cA ad A L) := by
  obtain ⟨hx, hb, hml, hown, hts, hK, had, hE, hL, htab, hfd, hkL, hkI, hsg, hnt, hcl, hR1, hR2, hRc, hRs⟩ := F
  intro pc q lp st M x off tgt h1 h2 h3 h4 k
  have hdg := htab _ (lk_mem h1)
  subst h2
  intro H locs ls hP hS hl
  exact lv_if_eq hx hb hdg h3 (fun z => k.1 ((of_eq h4 ⟨by decide, by decide⟩).mp z) H locs ls hP hS hl) (fun z => k.2 (fun e => z ((of_eq h4 ⟨by decide, by decide⟩).mpr e)) H locs ls hP hS hl)
set_option maxHeartbeats 1000000 in
theorem s_icmp_ne {X : Sx} {L : Nat} {scr : Nat → Int} {p : Program} {l : Launch} {e : Env} {R : Room} {s : State} {m : MethodId} {args : Array Value} {below : List Frame} {meth : Method} {c : Code} {own : String} {cc : ByteArray} {nL ca sl : Nat} {Q : State → Prop} {D : va_G} {cA : Nat → ClassId} {ad : Nat → Nat} {A : Nat → Prop} (F : Fx X L scr p s m args c own cc nL R ca sl D cA ad A) : k_icmp_ne X L (xcF scr) (JW p l e R s m args below meth c nL ca sl Q D cA ad A L) := by
  obtain ⟨hx, hb, hml, hown, hts, hK, had, hE, hL, htab, hfd, hkL, hkI, hsg, hnt, hcl, hR1, hR2, hRc, hRs⟩ := F
  intro pc q lp st M x y off tgt h1 h2 h3 h4 h5 k
  have hdg := htab _ (lk_mem h1)
  subst h2
  intro H locs ls hP hS hl
  exact lv_icmp_ne hx hb hdg h3 (fun z => k.1 (fun e => z ((of_eq h4 h5).mpr e)) H locs ls hP hS hl) (fun z => k.2 (fun g => g ((of_eq h4 h5).mp z)) H locs ls hP hS hl)
set_option maxHeartbeats 1000000 in
theorem s_if_ne {X : Sx} {L : Nat} {scr : Nat → Int} {p : Program} {l : Launch} {e : Env} {R : Room} {s : State} {m : MethodId} {args : Array Value} {below : List Frame} {meth : Method} {c : Code} {own : String} {cc : ByteArray} {nL ca sl : Nat} {Q : State → Prop} {D : va_G} {cA : Nat → ClassId} {ad : Nat → Nat} {A : Nat → Prop} (F : Fx X L scr p s m args c own cc nL R ca sl D cA ad A) : k_if_ne X L (xcF scr) (JW p l e R s m args below meth c nL ca sl Q D cA ad A L) := by
  obtain ⟨hx, hb, hml, hown, hts, hK, had, hE, hL, htab, hfd, hkL, hkI, hsg, hnt, hcl, hR1, hR2, hRc, hRs⟩ := F
  intro pc q lp st M x off tgt h1 h2 h3 h4 k
  have hdg := htab _ (lk_mem h1)
  subst h2
  intro H locs ls hP hS hl
  exact lv_if_ne hx hb hdg h3 (fun z => k.1 (fun e => z ((of_eq h4 ⟨by decide, by decide⟩).mpr e)) H locs ls hP hS hl) (fun z => k.2 (fun g => g ((of_eq h4 ⟨by decide, by decide⟩).mp z)) H locs ls hP hS hl)
set_option maxHeartbeats 1000000 in
theorem s_icmp_lt {X : Sx} {L : Nat} {scr : Nat → Int} {p : Program} {l : Launch} {e : Env} {R : Room} {s : State} {m : MethodId} {args : Array Value} {below : List Frame} {meth : Method} {c : Code} {own : String} {cc : ByteArray} {nL ca sl : Nat} {Q : State → Prop} {D : va_G} {cA : Nat → ClassId} {ad : Nat → Nat} {A : Nat → Prop} (F : Fx X L scr p s m args c own cc nL R ca sl D cA ad A) : k_icmp_lt X L (xcF scr) (JW p l e R s m args below meth c nL ca sl Q D cA ad A L) := by
  obtain ⟨hx, hb, hml, hown, hts, hK, had, hE, hL, htab, hfd, hkL, hkI, hsg, hnt, hcl, hR1, hR2, hRc, hRs⟩ := F
  intro pc q lp st M x y off tgt h1 h2 h3 h4 h5 k
  have hdg := htab _ (lk_mem h1)
  subst h2
  intro H locs ls hP hS hl
  exact lv_icmp_lt hx hb hdg h3 (fun z => k.1 ((of_lt h4 h5).mp z) H locs ls hP hS hl) (fun z => k.2 (fun e => z ((of_lt h4 h5).mpr e)) H locs ls hP hS hl)
set_option maxHeartbeats 1000000 in
theorem s_if_lt {X : Sx} {L : Nat} {scr : Nat → Int} {p : Program} {l : Launch} {e : Env} {R : Room} {s : State} {m : MethodId} {args : Array Value} {below : List Frame} {meth : Method} {c : Code} {own : String} {cc : ByteArray} {nL ca sl : Nat} {Q : State → Prop} {D : va_G} {cA : Nat → ClassId} {ad : Nat → Nat} {A : Nat → Prop} (F : Fx X L scr p s m args c own cc nL R ca sl D cA ad A) : k_if_lt X L (xcF scr) (JW p l e R s m args below meth c nL ca sl Q D cA ad A L) := by
  obtain ⟨hx, hb, hml, hown, hts, hK, had, hE, hL, htab, hfd, hkL, hkI, hsg, hnt, hcl, hR1, hR2, hRc, hRs⟩ := F
  intro pc q lp st M x off tgt h1 h2 h3 h4 k
  have hdg := htab _ (lk_mem h1)
  subst h2
  intro H locs ls hP hS hl
  exact lv_if_lt hx hb hdg h3 (fun z => k.1 ((of_lt h4 ⟨by decide, by decide⟩).mp z) H locs ls hP hS hl) (fun z => k.2 (fun e => z ((of_lt h4 ⟨by decide, by decide⟩).mpr e)) H locs ls hP hS hl)
set_option maxHeartbeats 1000000 in
theorem s_icmp_ge {X : Sx} {L : Nat} {scr : Nat → Int} {p : Program} {l : Launch} {e : Env} {R : Room} {s : State} {m : MethodId} {args : Array Value} {below : List Frame} {meth : Method} {c : Code} {own : String} {cc : ByteArray} {nL ca sl : Nat} {Q : State → Prop} {D : va_G} {cA : Nat → ClassId} {ad : Nat → Nat} {A : Nat → Prop} (F : Fx X L scr p s m args c own cc nL R ca sl D cA ad A) : k_icmp_ge X L (xcF scr) (JW p l e R s m args below meth c nL ca sl Q D cA ad A L) := by
  obtain ⟨hx, hb, hml, hown, hts, hK, had, hE, hL, htab, hfd, hkL, hkI, hsg, hnt, hcl, hR1, hR2, hRc, hRs⟩ := F
  intro pc q lp st M x y off tgt h1 h2 h3 h4 h5 k
  have hdg := htab _ (lk_mem h1)
  subst h2
  intro H locs ls hP hS hl
  exact lv_icmp_ge hx hb hdg h3 (fun z => k.1 ((of_le h5 h4).mp z) H locs ls hP hS hl) (fun z => k.2 (fun e => z ((of_le h5 h4).mpr e)) H locs ls hP hS hl)
set_option maxHeartbeats 1000000 in
theorem s_if_ge {X : Sx} {L : Nat} {scr : Nat → Int} {p : Program} {l : Launch} {e : Env} {R : Room} {s : State} {m : MethodId} {args : Array Value} {below : List Frame} {meth : Method} {c : Code} {own : String} {cc : ByteArray} {nL ca sl : Nat} {Q : State → Prop} {D : va_G} {cA : Nat → ClassId} {ad : Nat → Nat} {A : Nat → Prop} (F : Fx X L scr p s m args c own cc nL R ca sl D cA ad A) : k_if_ge X L (xcF scr) (JW p l e R s m args below meth c nL ca sl Q D cA ad A L) := by
  obtain ⟨hx, hb, hml, hown, hts, hK, had, hE, hL, htab, hfd, hkL, hkI, hsg, hnt, hcl, hR1, hR2, hRc, hRs⟩ := F
  intro pc q lp st M x off tgt h1 h2 h3 h4 k
  have hdg := htab _ (lk_mem h1)
  subst h2
  intro H locs ls hP hS hl
  exact lv_if_ge hx hb hdg h3 (fun z => k.1 ((of_le ⟨by decide, by decide⟩ h4).mp z) H locs ls hP hS hl) (fun z => k.2 (fun e => z ((of_le ⟨by decide, by decide⟩ h4).mpr e)) H locs ls hP hS hl)
set_option maxHeartbeats 1000000 in
theorem s_icmp_gt {X : Sx} {L : Nat} {scr : Nat → Int} {p : Program} {l : Launch} {e : Env} {R : Room} {s : State} {m : MethodId} {args : Array Value} {below : List Frame} {meth : Method} {c : Code} {own : String} {cc : ByteArray} {nL ca sl : Nat} {Q : State → Prop} {D : va_G} {cA : Nat → ClassId} {ad : Nat → Nat} {A : Nat → Prop} (F : Fx X L scr p s m args c own cc nL R ca sl D cA ad A) : k_icmp_gt X L (xcF scr) (JW p l e R s m args below meth c nL ca sl Q D cA ad A L) := by
  obtain ⟨hx, hb, hml, hown, hts, hK, had, hE, hL, htab, hfd, hkL, hkI, hsg, hnt, hcl, hR1, hR2, hRc, hRs⟩ := F
  intro pc q lp st M x y off tgt h1 h2 h3 h4 h5 k
  have hdg := htab _ (lk_mem h1)
  subst h2
  intro H locs ls hP hS hl
  exact lv_icmp_gt hx hb hdg h3 (fun z => k.1 ((of_lt h5 h4).mp z) H locs ls hP hS hl) (fun z => k.2 (fun e => z ((of_lt h5 h4).mpr e)) H locs ls hP hS hl)
set_option maxHeartbeats 1000000 in
theorem s_if_gt {X : Sx} {L : Nat} {scr : Nat → Int} {p : Program} {l : Launch} {e : Env} {R : Room} {s : State} {m : MethodId} {args : Array Value} {below : List Frame} {meth : Method} {c : Code} {own : String} {cc : ByteArray} {nL ca sl : Nat} {Q : State → Prop} {D : va_G} {cA : Nat → ClassId} {ad : Nat → Nat} {A : Nat → Prop} (F : Fx X L scr p s m args c own cc nL R ca sl D cA ad A) : k_if_gt X L (xcF scr) (JW p l e R s m args below meth c nL ca sl Q D cA ad A L) := by
  obtain ⟨hx, hb, hml, hown, hts, hK, had, hE, hL, htab, hfd, hkL, hkI, hsg, hnt, hcl, hR1, hR2, hRc, hRs⟩ := F
  intro pc q lp st M x off tgt h1 h2 h3 h4 k
  have hdg := htab _ (lk_mem h1)
  subst h2
  intro H locs ls hP hS hl
  exact lv_if_gt hx hb hdg h3 (fun z => k.1 ((of_lt ⟨by decide, by decide⟩ h4).mp z) H locs ls hP hS hl) (fun z => k.2 (fun e => z ((of_lt ⟨by decide, by decide⟩ h4).mpr e)) H locs ls hP hS hl)
set_option maxHeartbeats 1000000 in
theorem s_icmp_le {X : Sx} {L : Nat} {scr : Nat → Int} {p : Program} {l : Launch} {e : Env} {R : Room} {s : State} {m : MethodId} {args : Array Value} {below : List Frame} {meth : Method} {c : Code} {own : String} {cc : ByteArray} {nL ca sl : Nat} {Q : State → Prop} {D : va_G} {cA : Nat → ClassId} {ad : Nat → Nat} {A : Nat → Prop} (F : Fx X L scr p s m args c own cc nL R ca sl D cA ad A) : k_icmp_le X L (xcF scr) (JW p l e R s m args below meth c nL ca sl Q D cA ad A L) := by
  obtain ⟨hx, hb, hml, hown, hts, hK, had, hE, hL, htab, hfd, hkL, hkI, hsg, hnt, hcl, hR1, hR2, hRc, hRs⟩ := F
  intro pc q lp st M x y off tgt h1 h2 h3 h4 h5 k
  have hdg := htab _ (lk_mem h1)
  subst h2
  intro H locs ls hP hS hl
  exact lv_icmp_le hx hb hdg h3 (fun z => k.1 ((of_le h4 h5).mp z) H locs ls hP hS hl) (fun z => k.2 (fun e => z ((of_le h4 h5).mpr e)) H locs ls hP hS hl)
set_option maxHeartbeats 1000000 in
theorem s_if_le {X : Sx} {L : Nat} {scr : Nat → Int} {p : Program} {l : Launch} {e : Env} {R : Room} {s : State} {m : MethodId} {args : Array Value} {below : List Frame} {meth : Method} {c : Code} {own : String} {cc : ByteArray} {nL ca sl : Nat} {Q : State → Prop} {D : va_G} {cA : Nat → ClassId} {ad : Nat → Nat} {A : Nat → Prop} (F : Fx X L scr p s m args c own cc nL R ca sl D cA ad A) : k_if_le X L (xcF scr) (JW p l e R s m args below meth c nL ca sl Q D cA ad A L) := by
  obtain ⟨hx, hb, hml, hown, hts, hK, had, hE, hL, htab, hfd, hkL, hkI, hsg, hnt, hcl, hR1, hR2, hRc, hRs⟩ := F
  intro pc q lp st M x off tgt h1 h2 h3 h4 k
  have hdg := htab _ (lk_mem h1)
  subst h2
  intro H locs ls hP hS hl
  exact lv_if_le hx hb hdg h3 (fun z => k.1 ((of_le h4 ⟨by decide, by decide⟩).mp z) H locs ls hP hS hl) (fun z => k.2 (fun e => z ((of_le h4 ⟨by decide, by decide⟩).mpr e)) H locs ls hP hS hl)
set_option maxHeartbeats 1000000 in
theorem s_goto {X : Sx} {L : Nat} {scr : Nat → Int} {p : Program} {l : Launch} {e : Env} {R : Room} {s : State} {m : MethodId} {args : Array Value} {below : List Frame} {meth : Method} {c : Code} {own : String} {cc : ByteArray} {nL ca sl : Nat} {Q : State → Prop} {D : va_G} {cA : Nat → ClassId} {ad : Nat → Nat} {A : Nat → Prop} (F : Fx X L scr p s m args c own cc nL R ca sl D cA ad A) : k_goto X L (xcF scr) (JW p l e R s m args below meth c nL ca sl Q D cA ad A L) := by
  obtain ⟨hx, hb, hml, hown, hts, hK, had, hE, hL, htab, hfd, hkL, hkI, hsg, hnt, hcl, hR1, hR2, hRc, hRs⟩ := F
  intro pc q lp st M off tgt h1 h2 h3 k
  have hdg := htab _ (lk_mem h1)
  subst h2
  intro H locs ls hP hS hl
  exact lv_goto hx hb hdg h3 (k H locs ls hP hS hl)
set_option maxHeartbeats 1000000 in
theorem s_tblIn {X : Sx} {L : Nat} {scr : Nat → Int} {p : Program} {l : Launch} {e : Env} {R : Room} {s : State} {m : MethodId} {args : Array Value} {below : List Frame} {meth : Method} {c : Code} {own : String} {cc : ByteArray} {nL ca sl : Nat} {Q : State → Prop} {D : va_G} {cA : Nat → ClassId} {ad : Nat → Nat} {A : Nat → Prop} (F : Fx X L scr p s m args c own cc nL R ca sl D cA ad A) : k_tblIn X L (xcF scr) (JW p l e R s m args below meth c nL ca sl Q D cA ad A L) := by
  obtain ⟨hx, hb, hml, hown, hts, hK, had, hE, hL, htab, hfd, hkL, hkI, hsg, hnt, hcl, hR1, hR2, hRc, hRs⟩ := F
  intro pc q lp st M x dflt lo hi offs len off tgt h1 h2 h3 h4 h5 h6 k
  have hdg := htab _ (lk_mem h1)
  subst h2
  intro H locs ls hP hS hl
  have e := i32_id h3
  unfold i32 at e
  exact lv_tableIn hx hb hdg (by rw [e]; omega) (by rw [e]; omega) (by rw [e]; exact h5) h6 (k H locs ls hP hS hl)
set_option maxHeartbeats 1000000 in
theorem s_tblOut {X : Sx} {L : Nat} {scr : Nat → Int} {p : Program} {l : Launch} {e : Env} {R : Room} {s : State} {m : MethodId} {args : Array Value} {below : List Frame} {meth : Method} {c : Code} {own : String} {cc : ByteArray} {nL ca sl : Nat} {Q : State → Prop} {D : va_G} {cA : Nat → ClassId} {ad : Nat → Nat} {A : Nat → Prop} (F : Fx X L scr p s m args c own cc nL R ca sl D cA ad A) : k_tblOut X L (xcF scr) (JW p l e R s m args below meth c nL ca sl Q D cA ad A L) := by
  obtain ⟨hx, hb, hml, hown, hts, hK, had, hE, hL, htab, hfd, hkL, hkI, hsg, hnt, hcl, hR1, hR2, hRc, hRs⟩ := F
  intro pc q lp st M x dflt lo hi offs len tgt h1 h2 h3 h4 h5 k
  have hdg := htab _ (lk_mem h1)
  subst h2
  intro H locs ls hP hS hl
  have e := i32_id h3
  unfold i32 at e
  exact lv_tableOut hx hb hdg (by rw [e]; exact h4) h5 (k H locs ls hP hS hl)
set_option maxHeartbeats 1000000 in
theorem s_lookup {X : Sx} {L : Nat} {scr : Nat → Int} {p : Program} {l : Launch} {e : Env} {R : Room} {s : State} {m : MethodId} {args : Array Value} {below : List Frame} {meth : Method} {c : Code} {own : String} {cc : ByteArray} {nL ca sl : Nat} {Q : State → Prop} {D : va_G} {cA : Nat → ClassId} {ad : Nat → Nat} {A : Nat → Prop} (F : Fx X L scr p s m args c own cc nL R ca sl D cA ad A) : k_lookup X L (xcF scr) (JW p l e R s m args below meth c nL ca sl Q D cA ad A L) := by
  obtain ⟨hx, hb, hml, hown, hts, hK, had, hE, hL, htab, hfd, hkL, hkI, hsg, hnt, hcl, hR1, hR2, hRc, hRs⟩ := F
  intro pc q lp st M x dflt ps len off tgt h1 h2 h3 h4 h5 h6 k
  have hdg := htab _ (lk_mem h1)
  subst h2
  intro H locs ls hP hS hl
  have e := i32_id h3
  unfold i32 at e
  exact lv_lookup hx hb hdg h4 (by rw [e]; exact h5) h6 (k H locs ls hP hS hl)
set_option maxHeartbeats 1000000 in
theorem s_getI {X : Sx} {L : Nat} {scr : Nat → Int} {p : Program} {l : Launch} {e : Env} {R : Room} {s : State} {m : MethodId} {args : Array Value} {below : List Frame} {meth : Method} {c : Code} {own : String} {cc : ByteArray} {nL ca sl : Nat} {Q : State → Prop} {D : va_G} {cA : Nat → ClassId} {ad : Nat → Nat} {A : Nat → Prop} (F : Fx X L scr p s m args c own cc nL R ca sl D cA ad A) : k_getI X L (xcF scr) (JW p l e R s m args below meth c nL ca sl Q D cA ad A L) := by
  obtain ⟨hx, hb, hml, hown, hts, hK, had, hE, hL, htab, hfd, hkL, hkI, hsg, hnt, hcl, hR1, hR2, hRc, hRs⟩ := F
  intro pc q lp st M i ci k0 r f h1 h2 h3 h4 h5 h6 k
  have hdg := htab _ (lk_mem h1)
  subst h2
  intro H locs ls hP hS hl
  obtain ⟨f1, f2, f3⟩ := hfd _ (lk_mem h3)
  have he := wld_at (ad := ad) (cA := cA) (L := L) (M := M) h6.1 h6.2
  rw [h4] at he
  exact va_get hx hb hts (clsW f1) hown hK hP _ he (clsL_at f1) k0 f2 (hts _ f3) (fun _ z => z) ((ceV_at f2).trans (congrArg some (by simp only [ceV, h5]; rfl))) hdg (k H locs ls hP hS hl)
set_option maxHeartbeats 1000000 in
theorem s_getR {X : Sx} {L : Nat} {scr : Nat → Int} {p : Program} {l : Launch} {e : Env} {R : Room} {s : State} {m : MethodId} {args : Array Value} {below : List Frame} {meth : Method} {c : Code} {own : String} {cc : ByteArray} {nL ca sl : Nat} {Q : State → Prop} {D : va_G} {cA : Nat → ClassId} {ad : Nat → Nat} {A : Nat → Prop} (F : Fx X L scr p s m args c own cc nL R ca sl D cA ad A) : k_getR X L (xcF scr) (JW p l e R s m args below meth c nL ca sl Q D cA ad A L) := by
  obtain ⟨hx, hb, hml, hown, hts, hK, had, hE, hL, htab, hfd, hkL, hkI, hsg, hnt, hcl, hR1, hR2, hRc, hRs⟩ := F
  intro pc q lp st M i ci k0 r r' f h1 h2 h3 h4 h5 h6 k
  have hdg := htab _ (lk_mem h1)
  subst h2
  intro H locs ls hP hS hl
  obtain ⟨f1, f2, f3⟩ := hfd _ (lk_mem h3)
  have he := wld_at (ad := ad) (cA := cA) (L := L) (M := M) h6.1 h6.2
  rw [h4] at he
  exact va_get hx hb hts (clsW f1) hown hK hP _ he (clsL_at f1) k0 f2 (hts _ f3) (fun _ z => z) ((ceV_at f2).trans (congrArg some (by simp only [ceV, h5]; rfl))) hdg (k H locs ls hP hS hl)
set_option maxHeartbeats 1000000 in
theorem s_putI {X : Sx} {L : Nat} {scr : Nat → Int} {p : Program} {l : Launch} {e : Env} {R : Room} {s : State} {m : MethodId} {args : Array Value} {below : List Frame} {meth : Method} {c : Code} {own : String} {cc : ByteArray} {nL ca sl : Nat} {Q : State → Prop} {D : va_G} {cA : Nat → ClassId} {ad : Nat → Nat} {A : Nat → Prop} (F : Fx X L scr p s m args c own cc nL R ca sl D cA ad A) : k_putI X L (xcF scr) (JW p l e R s m args below meth c nL ca sl Q D cA ad A L) := by
  obtain ⟨hx, hb, hml, hown, hts, hK, had, hE, hL, htab, hfd, hkL, hkI, hsg, hnt, hcl, hR1, hR2, hRc, hRs⟩ := F
  intro pc q lp st M i ci k0 r f x h1 h2 h3 h4 h5 h6 h7 h8 k
  have hdg := htab _ (lk_mem h1)
  subst h2
  intro H locs ls hP hS hl
  obtain ⟨f1, f2, f3⟩ := hfd _ (lk_mem h3)
  have he := wld_at (ad := ad) (cA := cA) (L := L) (M := M) h6.1 h6.2
  rw [h4] at he
  refine va_put (ty := .int) hx hb hts (clsW f1) (tyC ci) (tyC_ok f1) (nmC_ok f1) hown hK hP (had.D cA L M) hS _ he (clsL_at f1) k0 f2 (hts _ f3) (fun _ z => z) h7 ((tyC_ok f1 k0 f2).trans (congrArg some h8)) rfl rfl (by simpa using f2) hdg (fun H1 locs1 hP1 hD1 hS1 => ?_)
  rw [show vp ad (wI x) = Value.int (Int32.ofInt x) from rfl, ceV_set h5 (upM_eq (r := r) (k := k0) (x := x) (M := M))] at hP1
  have hw := wld_set (ad := ad) (cA := cA) (L := L) (M := M) (M' := upM M r k0 x) h6.1 h6.2 upM_ne
  rw [h4] at hw
  exact k H1 locs1 ls (hw ▸ hP1) hS1 hl
set_option maxHeartbeats 1000000 in
theorem s_iald {X : Sx} {L : Nat} {scr : Nat → Int} {p : Program} {l : Launch} {e : Env} {R : Room} {s : State} {m : MethodId} {args : Array Value} {below : List Frame} {meth : Method} {c : Code} {own : String} {cc : ByteArray} {nL ca sl : Nat} {Q : State → Prop} {D : va_G} {cA : Nat → ClassId} {ad : Nat → Nat} {A : Nat → Prop} (F : Fx X L scr p s m args c own cc nL R ca sl D cA ad A) : k_iald X L (xcF scr) (JW p l e R s m args below meth c nL ca sl Q D cA ad A L) := by
  obtain ⟨hx, hb, hml, hown, hts, hK, had, hE, hL, htab, hfd, hkL, hkI, hsg, hnt, hcl, hR1, hR2, hRc, hRs⟩ := F
  intro pc q lp st M i r n h1 h2 h3 h4 h5 k
  have hdg := htab _ (lk_mem h1)
  subst h2
  intro H locs ls hP hS hl
  have he := wld_at (ad := ad) (cA := cA) (L := L) (M := M) h4.1 h4.2
  rw [h3] at he
  obtain ⟨g1, g2⟩ := of_in h5.1 h5.2 ((LAY_ok hL r).2.1 _ _ h3).2
  exact va_iald hx hb hK hP _ 0 he (tysL_at cA (by decide)) g1 hdg (by rw [g2]; exact k H locs ls hP hS hl)
set_option maxHeartbeats 1000000 in
theorem s_cald {X : Sx} {L : Nat} {scr : Nat → Int} {p : Program} {l : Launch} {e : Env} {R : Room} {s : State} {m : MethodId} {args : Array Value} {below : List Frame} {meth : Method} {c : Code} {own : String} {cc : ByteArray} {nL ca sl : Nat} {Q : State → Prop} {D : va_G} {cA : Nat → ClassId} {ad : Nat → Nat} {A : Nat → Prop} (F : Fx X L scr p s m args c own cc nL R ca sl D cA ad A) : k_cald X L (xcF scr) (JW p l e R s m args below meth c nL ca sl Q D cA ad A L) := by
  obtain ⟨hx, hb, hml, hown, hts, hK, had, hE, hL, htab, hfd, hkL, hkI, hsg, hnt, hcl, hR1, hR2, hRc, hRs⟩ := F
  intro pc q lp st M i r n h1 h2 h3 h4 h5 k
  have hdg := htab _ (lk_mem h1)
  subst h2
  intro H locs ls hP hS hl
  have he := wld_at (ad := ad) (cA := cA) (L := L) (M := M) h4.1 h4.2
  rw [h3] at he
  obtain ⟨g1, g2⟩ := of_in h5.1 h5.2 ((LAY_ok hL r).2.1 _ _ h3).2
  exact va_cald hx hb hK hP _ 1 he (tysL_at cA (by decide)) g1 hdg (by rw [g2]; exact k H locs ls hP hS hl)
set_option maxHeartbeats 1000000 in
theorem s_zald {X : Sx} {L : Nat} {scr : Nat → Int} {p : Program} {l : Launch} {e : Env} {R : Room} {s : State} {m : MethodId} {args : Array Value} {below : List Frame} {meth : Method} {c : Code} {own : String} {cc : ByteArray} {nL ca sl : Nat} {Q : State → Prop} {D : va_G} {cA : Nat → ClassId} {ad : Nat → Nat} {A : Nat → Prop} (F : Fx X L scr p s m args c own cc nL R ca sl D cA ad A) : k_zald X L (xcF scr) (JW p l e R s m args below meth c nL ca sl Q D cA ad A L) := by
  obtain ⟨hx, hb, hml, hown, hts, hK, had, hE, hL, htab, hfd, hkL, hkI, hsg, hnt, hcl, hR1, hR2, hRc, hRs⟩ := F
  intro pc q lp st M i r n h1 h2 h3 h4 h5 k
  have hdg := htab _ (lk_mem h1)
  subst h2
  intro H locs ls hP hS hl
  have he := wld_at (ad := ad) (cA := cA) (L := L) (M := M) h4.1 h4.2
  rw [h3] at he
  obtain ⟨g1, g2⟩ := of_in h5.1 h5.2 ((LAY_ok hL r).2.1 _ _ h3).2
  exact va_zald hx hb hK hP _ 2 he (tysL_at cA (by decide)) g1 hdg (by rw [g2]; exact k H locs ls hP hS hl)
set_option maxHeartbeats 1000000 in
theorem s_iast {X : Sx} {L : Nat} {scr : Nat → Int} {p : Program} {l : Launch} {e : Env} {R : Room} {s : State} {m : MethodId} {args : Array Value} {below : List Frame} {meth : Method} {c : Code} {own : String} {cc : ByteArray} {nL ca sl : Nat} {Q : State → Prop} {D : va_G} {cA : Nat → ClassId} {ad : Nat → Nat} {A : Nat → Prop} (F : Fx X L scr p s m args c own cc nL R ca sl D cA ad A) : k_iast X L (xcF scr) (JW p l e R s m args below meth c nL ca sl Q D cA ad A L) := by
  obtain ⟨hx, hb, hml, hown, hts, hK, had, hE, hL, htab, hfd, hkL, hkI, hsg, hnt, hcl, hR1, hR2, hRc, hRs⟩ := F
  intro pc q lp st M x i r n h1 h2 h3 h4 h5 k
  have hdg := htab _ (lk_mem h1)
  subst h2
  intro H locs ls hP hS hl
  have he := wld_at (ad := ad) (cA := cA) (L := L) (M := M) h4.1 h4.2
  rw [h3] at he
  obtain ⟨g1, g2⟩ := of_in h5.1 h5.2 ((LAY_ok hL r).2.1 _ _ h3).2
  refine va_iast hx hb hK hP (had.D cA L M) hS _ 0 he (tysL_at cA (by decide)) g1 hdg (fun H1 locs1 hP1 hD1 hS1 => ?_)
  rw [g2, upd_of] at hP1
  have hw := wld_set (ad := ad) (cA := cA) (L := L) (M := M) (M' := upM M r i.toNat x) h4.1 h4.2 upM_ne
  rw [h3, upM_eq] at hw
  exact k H1 locs1 ls (hw ▸ hP1) hS1 hl
set_option maxHeartbeats 1000000 in
theorem s_cast {X : Sx} {L : Nat} {scr : Nat → Int} {p : Program} {l : Launch} {e : Env} {R : Room} {s : State} {m : MethodId} {args : Array Value} {below : List Frame} {meth : Method} {c : Code} {own : String} {cc : ByteArray} {nL ca sl : Nat} {Q : State → Prop} {D : va_G} {cA : Nat → ClassId} {ad : Nat → Nat} {A : Nat → Prop} (F : Fx X L scr p s m args c own cc nL R ca sl D cA ad A) : k_cast X L (xcF scr) (JW p l e R s m args below meth c nL ca sl Q D cA ad A L) := by
  obtain ⟨hx, hb, hml, hown, hts, hK, had, hE, hL, htab, hfd, hkL, hkI, hsg, hnt, hcl, hR1, hR2, hRc, hRs⟩ := F
  intro pc q lp st M x i r n h1 h2 h3 h4 h5 h6 k
  have hdg := htab _ (lk_mem h1)
  subst h2
  intro H locs ls hP hS hl
  have he := wld_at (ad := ad) (cA := cA) (L := L) (M := M) h4.1 h4.2
  rw [h3] at he
  obtain ⟨g1, g2⟩ := of_in h5.1 h5.2 ((LAY_ok hL r).2.1 _ _ h3).2
  refine va_cast hx hb hK hP (had.D cA L M) hS _ 1 he (tysL_at cA (by decide)) g1 hdg (fun H1 locs1 hP1 hD1 hS1 => ?_)
  rw [g2, nar_c h6, upd_of] at hP1
  have hw := wld_set (ad := ad) (cA := cA) (L := L) (M := M) (M' := upM M r i.toNat x) h4.1 h4.2 upM_ne
  rw [h3, upM_eq] at hw
  exact k H1 locs1 ls (hw ▸ hP1) hS1 hl
set_option maxHeartbeats 1000000 in
theorem s_zast {X : Sx} {L : Nat} {scr : Nat → Int} {p : Program} {l : Launch} {e : Env} {R : Room} {s : State} {m : MethodId} {args : Array Value} {below : List Frame} {meth : Method} {c : Code} {own : String} {cc : ByteArray} {nL ca sl : Nat} {Q : State → Prop} {D : va_G} {cA : Nat → ClassId} {ad : Nat → Nat} {A : Nat → Prop} (F : Fx X L scr p s m args c own cc nL R ca sl D cA ad A) : k_zast X L (xcF scr) (JW p l e R s m args below meth c nL ca sl Q D cA ad A L) := by
  obtain ⟨hx, hb, hml, hown, hts, hK, had, hE, hL, htab, hfd, hkL, hkI, hsg, hnt, hcl, hR1, hR2, hRc, hRs⟩ := F
  intro pc q lp st M x i r n h1 h2 h3 h4 h5 h6 k
  have hdg := htab _ (lk_mem h1)
  subst h2
  intro H locs ls hP hS hl
  have he := wld_at (ad := ad) (cA := cA) (L := L) (M := M) h4.1 h4.2
  rw [h3] at he
  obtain ⟨g1, g2⟩ := of_in h5.1 h5.2 ((LAY_ok hL r).2.1 _ _ h3).2
  refine va_zast hx hb hK hP (had.D cA L M) hS _ 2 he (tysL_at cA (by decide)) g1 hdg (fun H1 locs1 hP1 hD1 hS1 => ?_)
  rw [g2, nar_z h6, upd_of] at hP1
  have hw := wld_set (ad := ad) (cA := cA) (L := L) (M := M) (M' := upM M r i.toNat x) h4.1 h4.2 upM_ne
  rw [h3, upM_eq] at hw
  exact k H1 locs1 ls (hw ▸ hP1) hS1 hl
set_option maxHeartbeats 1000000 in
theorem s_aald {X : Sx} {L : Nat} {scr : Nat → Int} {p : Program} {l : Launch} {e : Env} {R : Room} {s : State} {m : MethodId} {args : Array Value} {below : List Frame} {meth : Method} {c : Code} {own : String} {cc : ByteArray} {nL ca sl : Nat} {Q : State → Prop} {D : va_G} {cA : Nat → ClassId} {ad : Nat → Nat} {A : Nat → Prop} (F : Fx X L scr p s m args c own cc nL R ca sl D cA ad A) : k_aald X L (xcF scr) (JW p l e R s m args below meth c nL ca sl Q D cA ad A L) := by
  obtain ⟨hx, hb, hml, hown, hts, hK, had, hE, hL, htab, hfd, hkL, hkI, hsg, hnt, hcl, hR1, hR2, hRc, hRs⟩ := F
  intro pc q lp st M i r t n f h1 h2 h3 h4 h5 k
  have hdg := htab _ (lk_mem h1)
  subst h2
  intro H locs ls hP hS hl
  have he := wld_at (ad := ad) (cA := cA) (L := L) (M := M) h4.1 h4.2
  rw [h3] at he
  obtain ⟨t1, t2, t3⟩ := (LAY_ok hL r).2.2 _ _ _ h3
  obtain ⟨g1, g2⟩ := of_in h5.1 h5.2 t3
  have hlt : i.toNat < n := by omega
  have hq := (hK.2 t _ (tysL_at cA t1)).1 n (fun j => va_rf (if j < n then some (ad (f j)) else none))
  exact W.aald (v := .ref (ad (f i.toNat))) (ty := tagT t) hx hb (hP _ _ he) hq (tag_ref t1 t2) (fun z => by cases z) (by show ¬ (_ < 0 ∨ (arrV _ _ _).slots.size ≤ _); rw [arrV_size]; exact g1) (by show (arrV _ _ _).slots[_]? = _; rw [g2, arrV_read _ _ hlt]; show some (va_rf (if i.toNat < n then some (ad (f i.toNat)) else none)) = _; rw [if_pos hlt]; rfl) rfl rfl hdg (k H locs ls hP hS hl)
set_option maxHeartbeats 1000000 in
theorem s_ialdX {X : Sx} {L : Nat} {scr : Nat → Int} {p : Program} {l : Launch} {e : Env} {R : Room} {s : State} {m : MethodId} {args : Array Value} {below : List Frame} {meth : Method} {c : Code} {own : String} {cc : ByteArray} {nL ca sl : Nat} {Q : State → Prop} {D : va_G} {cA : Nat → ClassId} {ad : Nat → Nat} {A : Nat → Prop} (F : Fx X L scr p s m args c own cc nL R ca sl D cA ad A) : k_ialdX X L (xcF scr) (JW p l e R s m args below meth c nL ca sl Q D cA ad A L) := by
  obtain ⟨hx, hb, hml, hown, hts, hK, had, hE, hL, htab, hfd, hkL, hkI, hsg, hnt, hcl, hR1, hR2, hRc, hRs⟩ := F
  intro pc q lp st M i r h1 h2 h3 h4 k
  have hdg := htab _ (lk_mem h1)
  subst h2
  intro H locs ls hP hS hl
  obtain ⟨cell, e1, e2, e3, e4, e5, e6, e7⟩ := hE.1 r h3
  have hn : exN L r < 2147483648 := by unfold exN; split <;> omega
  obtain ⟨g1, g2⟩ := of_in h4.1 h4.2 hn
  have hlt : i.toNat < exN L r := by omega
  exact W.iald (v := .int (Int32.ofInt (xcF scr r i.toNat))) hx hb (by rw [hS.2.1 _ (Array.getElem?_eq_some_iff.mp e1).1 e7]; exact e1) e2 e3 (fun z => g1 (z.imp id (fun z => Nat.le_trans e4 z))) (by rw [g2]; exact e6 _ hlt) rfl rfl hdg (k H locs ls hP hS hl)
set_option maxHeartbeats 1000000 in
theorem s_alenX {X : Sx} {L : Nat} {scr : Nat → Int} {p : Program} {l : Launch} {e : Env} {R : Room} {s : State} {m : MethodId} {args : Array Value} {below : List Frame} {meth : Method} {c : Code} {own : String} {cc : ByteArray} {nL ca sl : Nat} {Q : State → Prop} {D : va_G} {cA : Nat → ClassId} {ad : Nat → Nat} {A : Nat → Prop} (F : Fx X L scr p s m args c own cc nL R ca sl D cA ad A) : k_alenX X L (xcF scr) (JW p l e R s m args below meth c nL ca sl Q D cA ad A L) := by
  obtain ⟨hx, hb, hml, hown, hts, hK, had, hE, hL, htab, hfd, hkL, hkI, hsg, hnt, hcl, hR1, hR2, hRc, hRs⟩ := F
  intro pc q lp st M r h1 h2 h3 k
  have hdg := htab _ (lk_mem h1)
  subst h2
  intro H locs ls hP hS hl
  obtain ⟨cell, e1, e2, e3, e4, e5, e6, e7⟩ := hE.1 r h3
  exact W.alen hx hb (by rw [hS.2.1 _ (Array.getElem?_eq_some_iff.mp e1).1 e7]; exact e1) e2 (e5.trans (of_nI _).symm) rfl rfl hdg (k H locs ls hP hS hl)
set_option maxHeartbeats 1000000 in
theorem s_gets {X : Sx} {L : Nat} {scr : Nat → Int} {p : Program} {l : Launch} {e : Env} {R : Room} {s : State} {m : MethodId} {args : Array Value} {below : List Frame} {meth : Method} {c : Code} {own : String} {cc : ByteArray} {nL ca sl : Nat} {Q : State → Prop} {D : va_G} {cA : Nat → ClassId} {ad : Nat → Nat} {A : Nat → Prop} (F : Fx X L scr p s m args c own cc nL R ca sl D cA ad A) : k_gets X L (xcF scr) (JW p l e R s m args below meth c nL ca sl Q D cA ad A L) := by
  obtain ⟨hx, hb, hml, hown, hts, hK, had, hE, hL, htab, hfd, hkL, hkI, hsg, hnt, hcl, hR1, hR2, hRc, hRs⟩ := F
  intro pc q lp st M i r h1 h2 h3 k
  have hdg := htab _ (lk_mem h1)
  subst h2
  intro H locs ls hP hS hl
  rcases hsg _ (lk_mem h3) with ⟨s1, s2⟩ | ⟨s1, s2⟩
  · subst s1
    exact va_gets hx hb hE.2.1 hS hown (hts _ s2) (fun _ z => z) hdg (k H locs ls hP hS hl)
  · subst s1
    exact va_gets hx hb hE.2.2 hS hown (hts _ s2) (fun _ z => z) hdg (k H locs ls hP hS hl)
set_option maxHeartbeats 1000000 in
theorem s_copy {X : Sx} {L : Nat} {scr : Nat → Int} {p : Program} {l : Launch} {e : Env} {R : Room} {s : State} {m : MethodId} {args : Array Value} {below : List Frame} {meth : Method} {c : Code} {own : String} {cc : ByteArray} {nL ca sl : Nat} {Q : State → Prop} {D : va_G} {cA : Nat → ClassId} {ad : Nat → Nat} {A : Nat → Prop} (F : Fx X L scr p s m args c own cc nL R ca sl D cA ad A) : k_copy X L (xcF scr) (JW p l e R s m args below meth c nL ca sl Q D cA ad A L) := by
  obtain ⟨hx, hb, hml, hown, hts, hK, had, hE, hL, htab, hfd, hkL, hkI, hsg, hnt, hcl, hR1, hR2, hRc, hRs⟩ := F
  intro pc q lp st M i r0 r1 n0 n1 sp dp n h1 h2 h3 h4 h5 h6 h7 h8 k
  have hdg := htab _ (lk_mem h1)
  subst h2
  intro H locs ls hP hS hl
  obtain ⟨w1, w2⟩ := hnt _ (lk_mem h3)
  have w1 := w1 rfl
  have he0 := wld_at (ad := ad) (cA := cA) (L := L) (M := M) h6.1.1 h6.1.2
  have he1 := wld_at (ad := ad) (cA := cA) (L := L) (M := M) h6.2.1 h6.2.2
  rw [h4] at he0
  rw [h5] at he1
  have b0 := ((LAY_ok hL r0).2.1 _ _ h4).2
  have b1 := ((LAY_ok hL r1).2.1 _ _ h5).2
  obtain ⟨z1, z2, z3, z4, z5⟩ := h7
  have c1 := of_pos z1 (by omega)
  have c2 := of_pos z2 (by omega)
  have c3 := of_pos z3 (by omega)
  refine va_copyi (ty := .int) hx hb (hml.trans hl.size.symm) hown (hts _ w1.1) (hts _ w1.2.1) (hts _ w1.2.2.1) (hts _ w1.2.2.2) hK hP (had.D cA L M) hS _ _ 0 0 he0 he1 (tysL_at cA (by decide)) (tysL_at cA (by decide)) rfl c1.1 c2.1 c3.1 (by rw [c1.2, c3.2]; omega) (by rw [c2.2, c3.2]; omega) (fun _ _ => rfl) hR1 ?_ hdg (fun H1 locs1 hP1 hD1 hS1 => ?_)
  · have := stk8 ad st h8
    exact Nat.le_trans (Nat.add_le_add_right this _) (Nat.le_trans (by decide) hR2)
  · rw [c1.2, c2.2, c3.2, cpy_of] at hP1
    have hw := wld_set (ad := ad) (cA := cA) (L := L) (M := M) (M' := cpM M r0 sp.toNat r1 dp.toNat n.toNat) h6.2.1 h6.2.2 cpM_ne
    rw [h5, cpM_eq] at hw
    exact k H1 locs1 ls (hw ▸ hP1) hS1 hl
set_option maxHeartbeats 1000000 in
theorem s_mmax {X : Sx} {L : Nat} {scr : Nat → Int} {p : Program} {l : Launch} {e : Env} {R : Room} {s : State} {m : MethodId} {args : Array Value} {below : List Frame} {meth : Method} {c : Code} {own : String} {cc : ByteArray} {nL ca sl : Nat} {Q : State → Prop} {D : va_G} {cA : Nat → ClassId} {ad : Nat → Nat} {A : Nat → Prop} (F : Fx X L scr p s m args c own cc nL R ca sl D cA ad A) : k_mmax X L (xcF scr) (JW p l e R s m args below meth c nL ca sl Q D cA ad A L) := by
  obtain ⟨hx, hb, hml, hown, hts, hK, had, hE, hL, htab, hfd, hkL, hkI, hsg, hnt, hcl, hR1, hR2, hRc, hRs⟩ := F
  intro pc q lp st M i x y h1 h2 h3 h4 h5 h6 k
  have hdg := htab _ (lk_mem h1)
  subst h2
  intro H locs ls hP hS hl
  obtain ⟨w0, w1, w2, w3⟩ := hnt _ (lk_mem h3)
  have w := w1 rfl
  have h8 := stk8 ad st h6
  exact va_mmax hx hb (hml.trans hl.size.symm) hown (hts _ w.1) (hts _ w.2.1) (hts _ w.2.2.1) (hts _ w.2.2.2) hR1 (by omega) hRc hRs hdg (by have := k H locs ls hP hS hl; simp only [List.map_cons, vp] at this; rw [← of_max h4 h5] at this; exact this)
set_option maxHeartbeats 1000000 in
theorem s_mmin {X : Sx} {L : Nat} {scr : Nat → Int} {p : Program} {l : Launch} {e : Env} {R : Room} {s : State} {m : MethodId} {args : Array Value} {below : List Frame} {meth : Method} {c : Code} {own : String} {cc : ByteArray} {nL ca sl : Nat} {Q : State → Prop} {D : va_G} {cA : Nat → ClassId} {ad : Nat → Nat} {A : Nat → Prop} (F : Fx X L scr p s m args c own cc nL R ca sl D cA ad A) : k_mmin X L (xcF scr) (JW p l e R s m args below meth c nL ca sl Q D cA ad A L) := by
  obtain ⟨hx, hb, hml, hown, hts, hK, had, hE, hL, htab, hfd, hkL, hkI, hsg, hnt, hcl, hR1, hR2, hRc, hRs⟩ := F
  intro pc q lp st M i x y h1 h2 h3 h4 h5 h6 k
  have hdg := htab _ (lk_mem h1)
  subst h2
  intro H locs ls hP hS hl
  obtain ⟨w0, w1, w2, w3⟩ := hnt _ (lk_mem h3)
  have w := w2 rfl
  have h8 := stk8 ad st h6
  exact va_mmin hx hb (hml.trans hl.size.symm) hown (hts _ w.1) (hts _ w.2.1) (hts _ w.2.2.1) (hts _ w.2.2.2) hR1 (by omega) hRc hRs hdg (by have := k H locs ls hP hS hl; simp only [List.map_cons, vp] at this; rw [← of_min h4 h5] at this; exact this)
set_option maxHeartbeats 1000000 in
theorem s_mabs {X : Sx} {L : Nat} {scr : Nat → Int} {p : Program} {l : Launch} {e : Env} {R : Room} {s : State} {m : MethodId} {args : Array Value} {below : List Frame} {meth : Method} {c : Code} {own : String} {cc : ByteArray} {nL ca sl : Nat} {Q : State → Prop} {D : va_G} {cA : Nat → ClassId} {ad : Nat → Nat} {A : Nat → Prop} (F : Fx X L scr p s m args c own cc nL R ca sl D cA ad A) : k_mabs X L (xcF scr) (JW p l e R s m args below meth c nL ca sl Q D cA ad A L) := by
  obtain ⟨hx, hb, hml, hown, hts, hK, had, hE, hL, htab, hfd, hkL, hkI, hsg, hnt, hcl, hR1, hR2, hRc, hRs⟩ := F
  intro pc q lp st M i x h1 h2 h3 h4 h5 k
  have hdg := htab _ (lk_mem h1)
  subst h2
  intro H locs ls hP hS hl
  obtain ⟨w0, w1, w2, w3⟩ := hnt _ (lk_mem h3)
  have w := w3 rfl
  have h8 := stk8 ad st h5
  exact va_mabs hx hb (hml.trans hl.size.symm) hown (hts _ w.1) (hts _ w.2.1) (hts _ w.2.2.1) (hts _ w.2.2.2) hR1 (by omega) hRc hRs hdg (by have := k H locs ls hP hS hl; simp only [List.map_cons, vp] at this; rw [← of_abs h4] at this; exact this)
set_option maxHeartbeats 1000000 in
theorem s_callVI {X : Sx} {L : Nat} {scr : Nat → Int} {p : Program} {l : Launch} {e : Env} {R : Room} {s : State} {m : MethodId} {args : Array Value} {below : List Frame} {meth : Method} {c : Code} {own : String} {cc : ByteArray} {nL ca sl : Nat} {Q : State → Prop} {D : va_G} {cA : Nat → ClassId} {ad : Nat → Nat} {A : Nat → Prop} (F : Fx X L scr p s m args c own cc nL R ca sl D cA ad A) : k_callVI X L (xcF scr) (JW p l e R s m args below meth c nL ca sl Q D cA ad A L) := by
  obtain ⟨hx, hb, hml, hown, hts, hK, had, hE, hL, htab, hfd, hkL, hkI, hsg, hnt, hcl, hR1, hR2, hRc, hRs⟩ := F
  intro pc q lp st M i ci C as r f h1 h2 h3 h4 h5 h6 h7 h8 h9 k
  have hdg := htab _ (lk_mem h1)
  subst h2
  intro H locs ls hP hS hl
  obtain ⟨y, b, mL, ret, d, hM, e1, e2, e3, e4, e5, e6⟩ := hcl _ (lk_mem h3)
  rw [if_pos (ciLt hL h8)] at e6
  obtain ⟨k1, k2, k3, k4⟩ := e6
  have hpl : (parseMethodDescriptor y.desc).map (fun d => d.parameters.length) = some as.length := by
    have z := e4.2.2
    rw [if_pos (ciLt hL h8)] at z
    rw [z, ← h4]
    rfl
  have hM := hM l D cA ad A L scr (wR r :: as) M hL had h4 h6
  unfold QcC at hM
  rw [if_pos h5] at hM
  have he := wld_at (ad := ad) (cA := cA) (L := L) (M := M) h9.1 h9.2
  rw [h8] at he
  have hrv := va_recv hK hP (clsL_at (ciLt hL h8)) he
  rw [show (RC ci, TC ci, nfC ci).1 = y.cls from k3.symm] at hrv
  have hcw := cwV (own := own) (index := i) (R := R) (rm := rmD d) (mc := 0) (ms := 0) (ws := .code y b mL ret :: GT) (ws' := GT) (bytes := b) (maxL := mL) (ret := ret) (Ts := GT) (args := args) (s := s) (n := as.length) hts (goodV e1 e2 e3 k1 k2) rfl rfl rfl ⟨rfl, e4.1, e4.2.1, hpl⟩ e5
  rw [List.map_append, List.map_reverse]
  refine va_calli (va_runV (As := as.map (vp ad)) (rest := st.map (vp ad)) ⟨hx, hb, hml, hown, hts⟩ hM hcw ⟨fun a U g mk q => ⟨q.1, q.2.1, va_K.moved (u := U) (U := U.calling g mk a) (Vm.Alike.refl U.vm) q.2.2.1, Ext.moved (u := U) (U := U.calling g mk a) (Vm.Alike.refl U.vm) q.2.2.2⟩, hrv, fun U hU hW => ⟨rfl, by rw [hU]; exact hP, va_K.moved hW.alike hK, by rw [hU]; exact (Ext.moved hW.alike hE).kept (fun a g1 g2 => hS.2.1 a g1 g2)⟩⟩ rfl (by simp) hl.size rfl (lv_room (stk8 ad st h7)) hdg ⟨hRc, hRs⟩) hS (fun _ _ z => z) (fun _ z => z) ?_
  rintro r0 M' t H1 locs1 ht hvm ⟨x, rfl, hp⟩ hB hz hk hS1
  exact k x M' hp H1 locs1 ls (ht ▸ hB) hS1 hl
set_option maxHeartbeats 1000000 in
theorem s_callVN {X : Sx} {L : Nat} {scr : Nat → Int} {p : Program} {l : Launch} {e : Env} {R : Room} {s : State} {m : MethodId} {args : Array Value} {below : List Frame} {meth : Method} {c : Code} {own : String} {cc : ByteArray} {nL ca sl : Nat} {Q : State → Prop} {D : va_G} {cA : Nat → ClassId} {ad : Nat → Nat} {A : Nat → Prop} (F : Fx X L scr p s m args c own cc nL R ca sl D cA ad A) : k_callVN X L (xcF scr) (JW p l e R s m args below meth c nL ca sl Q D cA ad A L) := by
  obtain ⟨hx, hb, hml, hown, hts, hK, had, hE, hL, htab, hfd, hkL, hkI, hsg, hnt, hcl, hR1, hR2, hRc, hRs⟩ := F
  intro pc q lp st M i ci C as r f h1 h2 h3 h4 h5 h6 h7 h8 h9 k
  have hdg := htab _ (lk_mem h1)
  subst h2
  intro H locs ls hP hS hl
  obtain ⟨y, b, mL, ret, d, hM, e1, e2, e3, e4, e5, e6⟩ := hcl _ (lk_mem h3)
  rw [if_pos (ciLt hL h8)] at e6
  obtain ⟨k1, k2, k3, k4⟩ := e6
  have hpl : (parseMethodDescriptor y.desc).map (fun d => d.parameters.length) = some as.length := by
    have z := e4.2.2
    rw [if_pos (ciLt hL h8)] at z
    rw [z, ← h4]
    rfl
  have hM := hM l D cA ad A L scr (wR r :: as) M hL had h4 h6
  unfold QcC at hM
  rw [if_neg (by rw [h5]; decide)] at hM
  have he := wld_at (ad := ad) (cA := cA) (L := L) (M := M) h9.1 h9.2
  rw [h8] at he
  have hrv := va_recv hK hP (clsL_at (ciLt hL h8)) he
  rw [show (RC ci, TC ci, nfC ci).1 = y.cls from k3.symm] at hrv
  have hcw := cwV (own := own) (index := i) (R := R) (rm := rmD d) (mc := 0) (ms := 0) (ws := .code y b mL ret :: GT) (ws' := GT) (bytes := b) (maxL := mL) (ret := ret) (Ts := GT) (args := args) (s := s) (n := as.length) hts (goodV e1 e2 e3 k1 k2) rfl rfl rfl ⟨rfl, e4.1, e4.2.1, hpl⟩ e5
  rw [List.map_append, List.map_reverse]
  refine va_callv (va_runV (As := as.map (vp ad)) (rest := st.map (vp ad)) ⟨hx, hb, hml, hown, hts⟩ hM hcw ⟨fun a U g mk q => ⟨q.1, q.2.1, va_K.moved (u := U) (U := U.calling g mk a) (Vm.Alike.refl U.vm) q.2.2.1, Ext.moved (u := U) (U := U.calling g mk a) (Vm.Alike.refl U.vm) q.2.2.2⟩, hrv, fun U hU hW => ⟨rfl, by rw [hU]; exact hP, va_K.moved hW.alike hK, by rw [hU]; exact (Ext.moved hW.alike hE).kept (fun a g1 g2 => hS.2.1 a g1 g2)⟩⟩ rfl (by simp) hl.size rfl (lv_room (stk8 ad st h7)) hdg ⟨hRc, hRs⟩) hS (fun _ _ z => z) (fun _ z => z) ?_
  intro M' t H1 locs1 ht hvm hp hB hz hk hS1
  exact k M' hp H1 locs1 ls (ht ▸ hB) hS1 hl
set_option maxHeartbeats 1000000 in
theorem s_callSI {X : Sx} {L : Nat} {scr : Nat → Int} {p : Program} {l : Launch} {e : Env} {R : Room} {s : State} {m : MethodId} {args : Array Value} {below : List Frame} {meth : Method} {c : Code} {own : String} {cc : ByteArray} {nL ca sl : Nat} {Q : State → Prop} {D : va_G} {cA : Nat → ClassId} {ad : Nat → Nat} {A : Nat → Prop} (F : Fx X L scr p s m args c own cc nL R ca sl D cA ad A) : k_callSI X L (xcF scr) (JW p l e R s m args below meth c nL ca sl Q D cA ad A L) := by
  obtain ⟨hx, hb, hml, hown, hts, hK, had, hE, hL, htab, hfd, hkL, hkI, hsg, hnt, hcl, hR1, hR2, hRc, hRs⟩ := F
  intro pc q lp st M i ci C as h1 h2 h3 h4 h5 h6 h7 h8 k
  have hdg := htab _ (lk_mem h1)
  subst h2
  intro H locs ls hP hS hl
  obtain ⟨y, b, mL, ret, d, hM, e1, e2, e3, e4, e5, e6⟩ := hcl _ (lk_mem h3)
  rw [if_neg (fun z => by have z : ci < 8 := z; omega)] at e6
  have hpl : (parseMethodDescriptor y.desc).map (fun d => d.parameters.length) = some as.length := by
    have z := e4.2.2
    rw [if_neg (fun z => by have z : ci < 8 := z; omega)] at z
    rw [z, ← h4]
  have hM := hM l D cA ad A L scr (as) M hL had h4 h6
  unfold QcC at hM
  rw [if_pos h5] at hM
  have hcw := callS_of (own := own) (i := i) (R := R) (y := y) (b := b) (mL := mL) (ret := ret) (d := d) (args := args) (s := s) (n := as.length) hts e1 e2 e3 e6.1 ⟨e4.1, e4.2.1, hpl⟩ e5
  rw [List.map_append, List.map_reverse]
  refine va_calli (va_runS (As := as.map (vp ad)) (rest := st.map (vp ad)) ⟨hx, hb, hml, hown, hts⟩ hM hcw ⟨fun a U g mk q => ⟨q.1, q.2.1, va_K.moved (u := U) (U := U.calling g mk a) (Vm.Alike.refl U.vm) q.2.2.1, Ext.moved (u := U) (U := U.calling g mk a) (Vm.Alike.refl U.vm) q.2.2.2⟩, fun U hU hW => ⟨rfl, by rw [hU]; exact hP, va_K.moved hW.alike hK, by rw [hU]; exact (Ext.moved hW.alike hE).kept (fun a g1 g2 => hS.2.1 a g1 g2)⟩⟩ rfl (by simp) hl.size rfl (lv_room (stk8 ad st h7)) hdg ⟨hRc, hRs⟩) hS (fun _ _ z => z) (fun _ z => z) ?_
  rintro r0 M' t H1 locs1 ht hvm ⟨x, rfl, hp⟩ hB hz hk hS1
  exact k x M' hp H1 locs1 ls (ht ▸ hB) hS1 hl
set_option maxHeartbeats 1000000 in
theorem s_callSN {X : Sx} {L : Nat} {scr : Nat → Int} {p : Program} {l : Launch} {e : Env} {R : Room} {s : State} {m : MethodId} {args : Array Value} {below : List Frame} {meth : Method} {c : Code} {own : String} {cc : ByteArray} {nL ca sl : Nat} {Q : State → Prop} {D : va_G} {cA : Nat → ClassId} {ad : Nat → Nat} {A : Nat → Prop} (F : Fx X L scr p s m args c own cc nL R ca sl D cA ad A) : k_callSN X L (xcF scr) (JW p l e R s m args below meth c nL ca sl Q D cA ad A L) := by
  obtain ⟨hx, hb, hml, hown, hts, hK, had, hE, hL, htab, hfd, hkL, hkI, hsg, hnt, hcl, hR1, hR2, hRc, hRs⟩ := F
  intro pc q lp st M i ci C as h1 h2 h3 h4 h5 h6 h7 h8 k
  have hdg := htab _ (lk_mem h1)
  subst h2
  intro H locs ls hP hS hl
  obtain ⟨y, b, mL, ret, d, hM, e1, e2, e3, e4, e5, e6⟩ := hcl _ (lk_mem h3)
  rw [if_neg (fun z => by have z : ci < 8 := z; omega)] at e6
  have hpl : (parseMethodDescriptor y.desc).map (fun d => d.parameters.length) = some as.length := by
    have z := e4.2.2
    rw [if_neg (fun z => by have z : ci < 8 := z; omega)] at z
    rw [z, ← h4]
  have hM := hM l D cA ad A L scr (as) M hL had h4 h6
  unfold QcC at hM
  rw [if_neg (by rw [h5]; decide)] at hM
  have hcw := callS_of (own := own) (i := i) (R := R) (y := y) (b := b) (mL := mL) (ret := ret) (d := d) (args := args) (s := s) (n := as.length) hts e1 e2 e3 e6.1 ⟨e4.1, e4.2.1, hpl⟩ e5
  rw [List.map_append, List.map_reverse]
  refine va_callv (va_runS (As := as.map (vp ad)) (rest := st.map (vp ad)) ⟨hx, hb, hml, hown, hts⟩ hM hcw ⟨fun a U g mk q => ⟨q.1, q.2.1, va_K.moved (u := U) (U := U.calling g mk a) (Vm.Alike.refl U.vm) q.2.2.1, Ext.moved (u := U) (U := U.calling g mk a) (Vm.Alike.refl U.vm) q.2.2.2⟩, fun U hU hW => ⟨rfl, by rw [hU]; exact hP, va_K.moved hW.alike hK, by rw [hU]; exact (Ext.moved hW.alike hE).kept (fun a g1 g2 => hS.2.1 a g1 g2)⟩⟩ rfl (by simp) hl.size rfl (lv_room (stk8 ad st h7)) hdg ⟨hRc, hRs⟩) hS (fun _ _ z => z) (fun _ z => z) ?_
  intro M' t H1 locs1 ht hvm hp hB hz hk hS1
  exact k M' hp H1 locs1 ls (ht ▸ hB) hS1 hl
theorem sound {X : Sx} {L : Nat} {scr : Nat → Int} {p : Program} {l : Launch} {e : Env} {R : Room} {s : State} {m : MethodId} {args : Array Value} {below : List Frame} {meth : Method} {c : Code} {own : String} {cc : ByteArray} {nL ca sl : Nat} {Q : State → Prop} {D : va_G} {cA : Nat → ClassId} {ad : Nat → Nat} {A : Nat → Prop} {Qp : Int → Mem → Prop} (F : Fx X L scr p s m args c own cc nL R ca sl D cA ad A) (hr : k_ret X Qp (JW p l e R s m args below meth c nL ca sl Q D cA ad A L)) (hv : k_vret X Qp (JW p l e R s m args below meth c nL ca sl Q D cA ad A L)) : Clo X L (xcF scr) Qp (JW p l e R s m args below meth c nL ca sl Q D cA ad A L) :=
  ⟨s_iconst F, s_bipush F, s_sipush F, s_lconst F, s_ldc2 F, s_ldcw F, s_iload_n F, s_iload F, s_lload_n F, s_lload F, s_aload_n F, s_aload F, s_istore_n F, s_istore F, s_astore_n F, s_astore F, s_lstore_n F, s_lstore F, s_iinc F, s_iadd F, s_isub F, s_imul F, s_idiv F, s_irem F, s_ineg F, s_ishl F, s_ishr F, s_iand F, s_ior F, s_ixor F, s_iushr F, s_land F, s_lor F, s_lushr F, s_lshl F, s_i2l F, s_l2i F, s_i2c F, s_lcmp F, s_dup F, s_dup2 F, s_pop F, s_icmp_eq F, s_if_eq F, s_icmp_ne F, s_if_ne F, s_icmp_lt F, s_if_lt F, s_icmp_ge F, s_if_ge F, s_icmp_gt F, s_if_gt F, s_icmp_le F, s_if_le F, s_goto F, s_tblIn F, s_tblOut F, s_lookup F, s_getI F, s_getR F, s_putI F, s_iald F, s_cald F, s_zald F, s_iast F, s_cast F, s_zast F, s_aald F, s_ialdX F, s_alenX F, s_gets F, s_copy F, s_mmax F, s_mmin F, s_mabs F, s_callVI F, s_callVN F, s_callSI F, s_callSN F, hr, hv⟩

/-- a contract out of the pure machine -/
theorem mt_of {y : MethodName} {b : ByteArray} {mL : Nat} {ret : Option FieldType} {d : Nat} {C : Ct} (X : Sx) (hy : plainName y.cls = true) (hfin : (ret = some .int ∧ X.2.2.2.2.2.2.2 = 1 ∧ C.2.1 = true) ∨ (ret = some .boolean ∧ X.2.2.2.2.2.2.2 = 2 ∧ C.2.1 = true) ∨ (ret = none ∧ X.2.2.2.2.2.2.2 = 0 ∧ C.2.1 = false))
    (htab : X.1.all (fun e => decide (decode b e.1 = .ok e.2)) = true) (hfd : ∀ e ∈ X.2.1, FdOK y.cls e) (hkL : ∀ e ∈ X.2.2.1, Cond.constantLong y.cls e.1 (Int64.ofInt e.2) ∈ GT) (hkI : ∀ e ∈ X.2.2.2.1, Cond.constant y.cls e.1 (Int32.ofInt e.2) ∈ GT) (hsg : ∀ e ∈ X.2.2.2.2.1, SgOK y.cls e) (hnt : ∀ e ∈ X.2.2.2.2.2.1, NtOK y.cls e) (hcl : ∀ e ∈ X.2.2.2.2.2.2.1, ClOK y.cls (rmD d) e)
    (hlen : ∀ as M, as.length = C.1 → C.2.2.1 as M → (iniL as).length ≤ mL)
    (hrun : ∀ (L : Nat) (scr : Nat → Int) (as : List PV) (M : Mem), as.length = C.1 → C.2.2.1 as M → Runs X L (xcF scr) (fun x M' => C.2.2.2 as M x M') 0 (iniN as mL) [] M) : MtOK y b mL ret d C := by
  intro l D cA ad A L scr as M hL had has hpre
  refine Met.ofW (cc := b) (maxL := mL) (ret := ret) hy rfl ?_
  intro p e s m args below meth c s₁ B hml hv
  obtain ⟨rfl, hP, hK, hE⟩ := hv
  have hts0 := atoms_spec (ws := .code y b mL ret :: GT) B.pre
  have hts : ∀ w ∈ GT, w.before (as.map (vp ad)).toArray s = true := fun w hw => hts0 w (List.mem_cons_of_mem _ hw)
  have hown : s.vm.findClass y.cls = some m.cls := findClass_of_methodNamed B.named
  have hlocks := B.notSynchronized
  have hx := B.exec
  have hb := B.bytes
  have hr := B.returns
  have F : Fx X L scr p s m (as.map (vp ad)).toArray c y.cls b mL (headSpec (.code y b mL ret :: GT) (rmD d)).room 0 0 D cA ad A :=
    ⟨hx, hb, hml, hown, hts, hK, had, hE, hL, fun z hz => by simpa using List.all_eq_true.mp htab z hz, hfd, hkL, hkI, hsg, hnt, hcl, by show 1 ≤ d + 1; omega, by show 60 ≤ 60 + 30 * d; omega, Nat.zero_le _, Nat.zero_le _⟩
  rw [lg_entry_eq]
  refine hrun L scr as M has hpre _ (sound (below := below) (meth := meth) (e := e) (l := l) (Q := MQ below (QcC C as M D cA ad A L) (as.map (vp ad)).toArray s 0 0 A) F ?_ ?_) s.heap [] _ hP va_S.rf (LR.ini ad as (hlen as M has hpre))
  · intro pc lp M' x h1 h2 hq H locs ls hP' hS hl
    have hdg := F.2.2.2.2.2.2.2.2.2.1 _ (lk_mem h1)
    have hpost : C.2.1 = true → ∀ t : State, t.heap = H → s.WarmedH t.vm → QcC C as M D cA ad A L (as.map (vp ad)).toArray s (.returned (some (.int (Int32.ofInt x)))) t := by
      intro hans t ht hW
      unfold QcC
      rw [if_pos hans]
      exact ⟨⟨_, M', rfl, ⟨x, rfl, hq⟩, by show va_P D clsL (wld ad cA L M') t.heap; rw [ht]; exact hP'⟩, hS.F ht⟩
    rcases hfin with ⟨hret, hz, hans⟩ | ⟨hret, hz, hans⟩ | ⟨hret, hz, hans⟩
    · subst hret
      exact W.iret (v := Int32.ofInt x) hx hb hr (hpost hans) hS.2.2 hdg
    · subst hret
      refine W.zret (v := Int32.ofInt x) (ty := .boolean) hx hb hr ?_ (hpost hans) hS.2.2 hdg
      rcases h2 with h2 | ⟨-, rfl | rfl⟩
      · rw [hz] at h2
        cases h2
      · decide +kernel
      · decide +kernel
    · rw [hz] at h2
      rcases h2 with h2 | ⟨h2, -⟩ <;> cases h2
  · intro pc lp M' h1 hz' hq H locs ls hP' hS hl
    have hdg := F.2.2.2.2.2.2.2.2.2.1 _ (lk_mem h1)
    rcases hfin with ⟨hret, hz, hans⟩ | ⟨hret, hz, hans⟩ | ⟨hret, hz, hans⟩
    · rw [hz] at hz'
      cases hz'
    · rw [hz] at hz'
      cases hz'
    · subst hret
      refine W.vret hx hb hr (fun t ht hW => ?_) hS.2.2 hdg
      unfold QcC
      rw [if_neg (by rw [hans]; decide)]
      exact ⟨⟨M', rfl, hq, by show va_P D clsL (wld ad cA L M') t.heap; rw [ht]; exact hP'⟩, hS.F ht⟩
end
