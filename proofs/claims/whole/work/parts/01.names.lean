-- ===== PART A: goes FIRST, ahead of the names: the tables' words, and 'selects' of the private methods out of them =====
/-- a private method of a class that the tables say can be made, by its rows of tables_1 -/
def lw_okq (q : MethodName × Nat) : Prop := (q.1.cls ≠ "java/lang/invoke/MethodHandle" ∧ q.1.cls ≠ "java/lang/invoke/VarHandle") ∧ Cond.instantiable q.1.cls q.2 ∈ tables_1 ∧ Cond.privateMethod q.1 ∈ tables_1 ∧ Cond.instanceMethod q.1 ∈ tables_1
theorem lw_p0 : lw_okq (⟨"DoubtfulTrunks$Pad", "isNext", "(CC)Z"⟩, 5) := ⟨⟨by decide +kernel, by decide +kernel⟩, List.mem_of_getElem? (i := 164) (by decide +kernel), List.mem_of_getElem? (i := 262) (by decide +kernel), List.mem_of_getElem? (i := 263) (by decide +kernel)⟩
theorem lw_p1 : lw_okq (⟨"DoubtfulTrunks$Pad", "skips", "(C)Z"⟩, 5) := ⟨⟨by decide +kernel, by decide +kernel⟩, List.mem_of_getElem? (i := 164) (by decide +kernel), List.mem_of_getElem? (i := 266) (by decide +kernel), List.mem_of_getElem? (i := 267) (by decide +kernel)⟩
theorem lw_p2 : lw_okq (⟨"DoubtfulTrunks$Pad", "readPaper", "(I)Z"⟩, 5) := ⟨⟨by decide +kernel, by decide +kernel⟩, List.mem_of_getElem? (i := 164) (by decide +kernel), List.mem_of_getElem? (i := 270) (by decide +kernel), List.mem_of_getElem? (i := 271) (by decide +kernel)⟩
theorem lw_p3 : lw_okq (⟨"DoubtfulTrunks$State", "actAtTop", "()V"⟩, 9) := ⟨⟨by decide +kernel, by decide +kernel⟩, List.mem_of_getElem? (i := 21) (by decide +kernel), List.mem_of_getElem? (i := 350) (by decide +kernel), List.mem_of_getElem? (i := 351) (by decide +kernel)⟩
theorem lw_p4 : lw_okq (⟨"DoubtfulTrunks$State", "letPass", "(ILDoubtfulTrunks$Desk;I)V"⟩, 9) := ⟨⟨by decide +kernel, by decide +kernel⟩, List.mem_of_getElem? (i := 21) (by decide +kernel), List.mem_of_getElem? (i := 355) (by decide +kernel), List.mem_of_getElem? (i := 356) (by decide +kernel)⟩
theorem lw_p5 : lw_okq (⟨"DoubtfulTrunks$State", "fine", "(I)V"⟩, 9) := ⟨⟨by decide +kernel, by decide +kernel⟩, List.mem_of_getElem? (i := 21) (by decide +kernel), List.mem_of_getElem? (i := 360) (by decide +kernel), List.mem_of_getElem? (i := 361) (by decide +kernel)⟩
theorem lw_p6 : lw_okq (⟨"DoubtfulTrunks$State", "actBelowTop", "(I)V"⟩, 9) := ⟨⟨by decide +kernel, by decide +kernel⟩, List.mem_of_getElem? (i := 21) (by decide +kernel), List.mem_of_getElem? (i := 377) (by decide +kernel), List.mem_of_getElem? (i := 378) (by decide +kernel)⟩
theorem lw_p7 : lw_okq (⟨"DoubtfulTrunks$State", "takeFee", "(I)V"⟩, 9) := ⟨⟨by decide +kernel, by decide +kernel⟩, List.mem_of_getElem? (i := 21) (by decide +kernel), List.mem_of_getElem? (i := 381) (by decide +kernel), List.mem_of_getElem? (i := 382) (by decide +kernel)⟩
theorem lw_p8 : lw_okq (⟨"DoubtfulTrunks$State", "takeDelays", "()V"⟩, 9) := ⟨⟨by decide +kernel, by decide +kernel⟩, List.mem_of_getElem? (i := 21) (by decide +kernel), List.mem_of_getElem? (i := 385) (by decide +kernel), List.mem_of_getElem? (i := 386) (by decide +kernel)⟩
theorem lw_p9 : lw_okq (⟨"DoubtfulTrunks", "turnsUntilGone", "(I)I"⟩, 6) := ⟨⟨by decide +kernel, by decide +kernel⟩, List.mem_of_getElem? (i := 13) (by decide +kernel), List.mem_of_getElem? (i := 445) (by decide +kernel), List.mem_of_getElem? (i := 446) (by decide +kernel)⟩
theorem lw_p10 : lw_okq (⟨"DoubtfulTrunksModel", "sets", "(II)I"⟩, 7) := ⟨⟨by decide +kernel, by decide +kernel⟩, List.mem_of_getElem? (i := 513) (by decide +kernel), List.mem_of_getElem? (i := 560) (by decide +kernel), List.mem_of_getElem? (i := 561) (by decide +kernel)⟩
theorem lw_p11 : lw_okq (⟨"DoubtfulTrunksModel", "changes", "()V"⟩, 7) := ⟨⟨by decide +kernel, by decide +kernel⟩, List.mem_of_getElem? (i := 513) (by decide +kernel), List.mem_of_getElem? (i := 564) (by decide +kernel), List.mem_of_getElem? (i := 565) (by decide +kernel)⟩
theorem lw_p12 : lw_okq (⟨"DoubtfulTrunksModel", "copies", "(II)V"⟩, 7) := ⟨⟨by decide +kernel, by decide +kernel⟩, List.mem_of_getElem? (i := 513) (by decide +kernel), List.mem_of_getElem? (i := 568) (by decide +kernel), List.mem_of_getElem? (i := 569) (by decide +kernel)⟩
theorem lw_p13 : lw_okq (⟨"DoubtfulTrunksModel", "isHere", "(II)Z"⟩, 7) := ⟨⟨by decide +kernel, by decide +kernel⟩, List.mem_of_getElem? (i := 513) (by decide +kernel), List.mem_of_getElem? (i := 601) (by decide +kernel), List.mem_of_getElem? (i := 602) (by decide +kernel)⟩
theorem lw_p14 : lw_okq (⟨"DoubtfulTrunksModel", "takesSign", "(I)Z"⟩, 7) := ⟨⟨by decide +kernel, by decide +kernel⟩, List.mem_of_getElem? (i := 513) (by decide +kernel), List.mem_of_getElem? (i := 605) (by decide +kernel), List.mem_of_getElem? (i := 606) (by decide +kernel)⟩
theorem lw_p15 : lw_okq (⟨"DoubtfulTrunksModel", "readsPaper", "()Z"⟩, 7) := ⟨⟨by decide +kernel, by decide +kernel⟩, List.mem_of_getElem? (i := 513) (by decide +kernel), List.mem_of_getElem? (i := 612) (by decide +kernel), List.mem_of_getElem? (i := 613) (by decide +kernel)⟩
def lw_privs_1 : List (MethodName × Nat) := [(⟨"DoubtfulTrunks$Pad", "isNext", "(CC)Z"⟩, 5), (⟨"DoubtfulTrunks$Pad", "skips", "(C)Z"⟩, 5), (⟨"DoubtfulTrunks$Pad", "readPaper", "(I)Z"⟩, 5), (⟨"DoubtfulTrunks$State", "actAtTop", "()V"⟩, 9), (⟨"DoubtfulTrunks$State", "letPass", "(ILDoubtfulTrunks$Desk;I)V"⟩, 9), (⟨"DoubtfulTrunks$State", "fine", "(I)V"⟩, 9), (⟨"DoubtfulTrunks$State", "actBelowTop", "(I)V"⟩, 9), (⟨"DoubtfulTrunks$State", "takeFee", "(I)V"⟩, 9), (⟨"DoubtfulTrunks$State", "takeDelays", "()V"⟩, 9), (⟨"DoubtfulTrunks", "turnsUntilGone", "(I)I"⟩, 6), (⟨"DoubtfulTrunksModel", "sets", "(II)I"⟩, 7), (⟨"DoubtfulTrunksModel", "changes", "()V"⟩, 7), (⟨"DoubtfulTrunksModel", "copies", "(II)V"⟩, 7), (⟨"DoubtfulTrunksModel", "isHere", "(II)Z"⟩, 7), (⟨"DoubtfulTrunksModel", "takesSign", "(I)Z"⟩, 7), (⟨"DoubtfulTrunksModel", "readsPaper", "()Z"⟩, 7)]
theorem lw_r1 : ∀ q ∈ lw_privs_1, lw_okq q := List.forall_mem_cons.mpr ⟨lw_p0, List.forall_mem_cons.mpr ⟨lw_p1, List.forall_mem_cons.mpr ⟨lw_p2, List.forall_mem_cons.mpr ⟨lw_p3, List.forall_mem_cons.mpr ⟨lw_p4, List.forall_mem_cons.mpr ⟨lw_p5, List.forall_mem_cons.mpr ⟨lw_p6, List.forall_mem_cons.mpr ⟨lw_p7, List.forall_mem_cons.mpr ⟨lw_p8, List.forall_mem_cons.mpr ⟨lw_p9, List.forall_mem_cons.mpr ⟨lw_p10, List.forall_mem_cons.mpr ⟨lw_p11, List.forall_mem_cons.mpr ⟨lw_p12, List.forall_mem_cons.mpr ⟨lw_p13, List.forall_mem_cons.mpr ⟨lw_p14, List.forall_mem_cons.mpr ⟨lw_p15, fun _ h => absurd h List.not_mem_nil⟩⟩⟩⟩⟩⟩⟩⟩⟩⟩⟩⟩⟩⟩⟩⟩
theorem lw_p16 : lw_okq (⟨"DoubtfulTrunksModel", "waiting", "()I"⟩, 7) := ⟨⟨by decide +kernel, by decide +kernel⟩, List.mem_of_getElem? (i := 513) (by decide +kernel), List.mem_of_getElem? (i := 619) (by decide +kernel), List.mem_of_getElem? (i := 620) (by decide +kernel)⟩
theorem lw_p17 : lw_okq (⟨"DoubtfulTrunksModel", "joins", "(III)V"⟩, 7) := ⟨⟨by decide +kernel, by decide +kernel⟩, List.mem_of_getElem? (i := 513) (by decide +kernel), List.mem_of_getElem? (i := 626) (by decide +kernel), List.mem_of_getElem? (i := 627) (by decide +kernel)⟩
theorem lw_p18 : lw_okq (⟨"DoubtfulTrunksModel", "isWaiting", "(I)Z"⟩, 7) := ⟨⟨by decide +kernel, by decide +kernel⟩, List.mem_of_getElem? (i := 513) (by decide +kernel), List.mem_of_getElem? (i := 637) (by decide +kernel), List.mem_of_getElem? (i := 638) (by decide +kernel)⟩
theorem lw_p19 : lw_okq (⟨"DoubtfulTrunksModel", "isTrunk", "(I)Z"⟩, 7) := ⟨⟨by decide +kernel, by decide +kernel⟩, List.mem_of_getElem? (i := 513) (by decide +kernel), List.mem_of_getElem? (i := 641) (by decide +kernel), List.mem_of_getElem? (i := 642) (by decide +kernel)⟩
theorem lw_p20 : lw_okq (⟨"DoubtfulTrunksModel", "doubt", "(II)I"⟩, 7) := ⟨⟨by decide +kernel, by decide +kernel⟩, List.mem_of_getElem? (i := 513) (by decide +kernel), List.mem_of_getElem? (i := 648) (by decide +kernel), List.mem_of_getElem? (i := 649) (by decide +kernel)⟩
theorem lw_p21 : lw_okq (⟨"DoubtfulTrunksModel", "disagreeing", "(II)I"⟩, 7) := ⟨⟨by decide +kernel, by decide +kernel⟩, List.mem_of_getElem? (i := 513) (by decide +kernel), List.mem_of_getElem? (i := 652) (by decide +kernel), List.mem_of_getElem? (i := 653) (by decide +kernel)⟩
theorem lw_p22 : lw_okq (⟨"DoubtfulTrunksModel", "differs", "(III)I"⟩, 7) := ⟨⟨by decide +kernel, by decide +kernel⟩, List.mem_of_getElem? (i := 513) (by decide +kernel), List.mem_of_getElem? (i := 656) (by decide +kernel), List.mem_of_getElem? (i := 657) (by decide +kernel)⟩
theorem lw_p23 : lw_okq (⟨"DoubtfulTrunksModel", "deskOf", "(I)I"⟩, 7) := ⟨⟨by decide +kernel, by decide +kernel⟩, List.mem_of_getElem? (i := 513) (by decide +kernel), List.mem_of_getElem? (i := 664) (by decide +kernel), List.mem_of_getElem? (i := 665) (by decide +kernel)⟩
theorem lw_p24 : lw_okq (⟨"DoubtfulTrunksModel", "placeIn", "(II)I"⟩, 7) := ⟨⟨by decide +kernel, by decide +kernel⟩, List.mem_of_getElem? (i := 513) (by decide +kernel), List.mem_of_getElem? (i := 668) (by decide +kernel), List.mem_of_getElem? (i := 669) (by decide +kernel)⟩
theorem lw_p25 : lw_okq (⟨"DoubtfulTrunksModel", "removes", "(III)V"⟩, 7) := ⟨⟨by decide +kernel, by decide +kernel⟩, List.mem_of_getElem? (i := 513) (by decide +kernel), List.mem_of_getElem? (i := 672) (by decide +kernel), List.mem_of_getElem? (i := 673) (by decide +kernel)⟩
theorem lw_p26 : lw_okq (⟨"DoubtfulTrunksModel", "turnsBy", "(II)I"⟩, 7) := ⟨⟨by decide +kernel, by decide +kernel⟩, List.mem_of_getElem? (i := 513) (by decide +kernel), List.mem_of_getElem? (i := 681) (by decide +kernel), List.mem_of_getElem? (i := 682) (by decide +kernel)⟩
theorem lw_p27 : lw_okq (⟨"DoubtfulTrunksModel", "gone", "(I)I"⟩, 7) := ⟨⟨by decide +kernel, by decide +kernel⟩, List.mem_of_getElem? (i := 513) (by decide +kernel), List.mem_of_getElem? (i := 685) (by decide +kernel), List.mem_of_getElem? (i := 686) (by decide +kernel)⟩
theorem lw_p28 : lw_okq (⟨"DoubtfulTrunksModel", "turn1", "(I)V"⟩, 7) := ⟨⟨by decide +kernel, by decide +kernel⟩, List.mem_of_getElem? (i := 513) (by decide +kernel), List.mem_of_getElem? (i := 689) (by decide +kernel), List.mem_of_getElem? (i := 690) (by decide +kernel)⟩
theorem lw_p29 : lw_okq (⟨"DoubtfulTrunksModel", "looks", "(III)Z"⟩, 7) := ⟨⟨by decide +kernel, by decide +kernel⟩, List.mem_of_getElem? (i := 513) (by decide +kernel), List.mem_of_getElem? (i := 693) (by decide +kernel), List.mem_of_getElem? (i := 694) (by decide +kernel)⟩
theorem lw_p30 : lw_okq (⟨"DoubtfulTrunksModel", "passes", "(IIII)V"⟩, 7) := ⟨⟨by decide +kernel, by decide +kernel⟩, List.mem_of_getElem? (i := 513) (by decide +kernel), List.mem_of_getElem? (i := 697) (by decide +kernel), List.mem_of_getElem? (i := 698) (by decide +kernel)⟩
theorem lw_p31 : lw_okq (⟨"DoubtfulTrunksModel", "takes", "(IIII)V"⟩, 7) := ⟨⟨by decide +kernel, by decide +kernel⟩, List.mem_of_getElem? (i := 513) (by decide +kernel), List.mem_of_getElem? (i := 701) (by decide +kernel), List.mem_of_getElem? (i := 702) (by decide +kernel)⟩
def lw_privs_2 : List (MethodName × Nat) := [(⟨"DoubtfulTrunksModel", "waiting", "()I"⟩, 7), (⟨"DoubtfulTrunksModel", "joins", "(III)V"⟩, 7), (⟨"DoubtfulTrunksModel", "isWaiting", "(I)Z"⟩, 7), (⟨"DoubtfulTrunksModel", "isTrunk", "(I)Z"⟩, 7), (⟨"DoubtfulTrunksModel", "doubt", "(II)I"⟩, 7), (⟨"DoubtfulTrunksModel", "disagreeing", "(II)I"⟩, 7), (⟨"DoubtfulTrunksModel", "differs", "(III)I"⟩, 7), (⟨"DoubtfulTrunksModel", "deskOf", "(I)I"⟩, 7), (⟨"DoubtfulTrunksModel", "placeIn", "(II)I"⟩, 7), (⟨"DoubtfulTrunksModel", "removes", "(III)V"⟩, 7), (⟨"DoubtfulTrunksModel", "turnsBy", "(II)I"⟩, 7), (⟨"DoubtfulTrunksModel", "gone", "(I)I"⟩, 7), (⟨"DoubtfulTrunksModel", "turn1", "(I)V"⟩, 7), (⟨"DoubtfulTrunksModel", "looks", "(III)Z"⟩, 7), (⟨"DoubtfulTrunksModel", "passes", "(IIII)V"⟩, 7), (⟨"DoubtfulTrunksModel", "takes", "(IIII)V"⟩, 7)]
theorem lw_r2 : ∀ q ∈ lw_privs_2, lw_okq q := List.forall_mem_cons.mpr ⟨lw_p16, List.forall_mem_cons.mpr ⟨lw_p17, List.forall_mem_cons.mpr ⟨lw_p18, List.forall_mem_cons.mpr ⟨lw_p19, List.forall_mem_cons.mpr ⟨lw_p20, List.forall_mem_cons.mpr ⟨lw_p21, List.forall_mem_cons.mpr ⟨lw_p22, List.forall_mem_cons.mpr ⟨lw_p23, List.forall_mem_cons.mpr ⟨lw_p24, List.forall_mem_cons.mpr ⟨lw_p25, List.forall_mem_cons.mpr ⟨lw_p26, List.forall_mem_cons.mpr ⟨lw_p27, List.forall_mem_cons.mpr ⟨lw_p28, List.forall_mem_cons.mpr ⟨lw_p29, List.forall_mem_cons.mpr ⟨lw_p30, List.forall_mem_cons.mpr ⟨lw_p31, fun _ h => absurd h List.not_mem_nil⟩⟩⟩⟩⟩⟩⟩⟩⟩⟩⟩⟩⟩⟩⟩⟩
theorem lw_p32 : lw_okq (⟨"DoubtfulTrunksModel", "opens", "(II)V"⟩, 7) := ⟨⟨by decide +kernel, by decide +kernel⟩, List.mem_of_getElem? (i := 513) (by decide +kernel), List.mem_of_getElem? (i := 705) (by decide +kernel), List.mem_of_getElem? (i := 706) (by decide +kernel)⟩
theorem lw_p33 : lw_okq (⟨"DoubtfulTrunksModel", "beyondTare", "(I)I"⟩, 7) := ⟨⟨by decide +kernel, by decide +kernel⟩, List.mem_of_getElem? (i := 513) (by decide +kernel), List.mem_of_getElem? (i := 721) (by decide +kernel), List.mem_of_getElem? (i := 722) (by decide +kernel)⟩
theorem lw_p34 : lw_okq (⟨"DoubtfulTrunksModel", "doubtsAt", "(I)I"⟩, 7) := ⟨⟨by decide +kernel, by decide +kernel⟩, List.mem_of_getElem? (i := 513) (by decide +kernel), List.mem_of_getElem? (i := 729) (by decide +kernel), List.mem_of_getElem? (i := 730) (by decide +kernel)⟩
theorem lw_p35 : lw_okq (⟨"DoubtfulTrunksModel", "taken", "(I)I"⟩, 7) := ⟨⟨by decide +kernel, by decide +kernel⟩, List.mem_of_getElem? (i := 513) (by decide +kernel), List.mem_of_getElem? (i := 738) (by decide +kernel), List.mem_of_getElem? (i := 739) (by decide +kernel)⟩
theorem lw_p36 : lw_okq (⟨"DoubtfulTrunksModel", "turnsTo", "(I)I"⟩, 7) := ⟨⟨by decide +kernel, by decide +kernel⟩, List.mem_of_getElem? (i := 513) (by decide +kernel), List.mem_of_getElem? (i := 746) (by decide +kernel), List.mem_of_getElem? (i := 747) (by decide +kernel)⟩
def lw_privs_3 : List (MethodName × Nat) := [(⟨"DoubtfulTrunksModel", "opens", "(II)V"⟩, 7), (⟨"DoubtfulTrunksModel", "beyondTare", "(I)I"⟩, 7), (⟨"DoubtfulTrunksModel", "doubtsAt", "(I)I"⟩, 7), (⟨"DoubtfulTrunksModel", "taken", "(I)I"⟩, 7), (⟨"DoubtfulTrunksModel", "turnsTo", "(I)I"⟩, 7)]
theorem lw_r3 : ∀ q ∈ lw_privs_3, lw_okq q := List.forall_mem_cons.mpr ⟨lw_p32, List.forall_mem_cons.mpr ⟨lw_p33, List.forall_mem_cons.mpr ⟨lw_p34, List.forall_mem_cons.mpr ⟨lw_p35, List.forall_mem_cons.mpr ⟨lw_p36, fun _ h => absurd h List.not_mem_nil⟩⟩⟩⟩⟩
def lw_privs : List (MethodName × Nat) := lw_privs_1 ++ (lw_privs_2 ++ (lw_privs_3))
def lw_tbl : List Cond := k2_sels lw_privs ++ tables_1
theorem lw_privs_ok : ∀ q ∈ lw_privs, lw_okq q := by
  show ∀ q ∈ lw_privs_1 ++ (lw_privs_2 ++ (lw_privs_3)), lw_okq q
  exact List.forall_mem_append.mpr ⟨lw_r1, List.forall_mem_append.mpr ⟨lw_r2, lw_r3⟩⟩

def RX0 : String := "DoubtfulTrunks$Desk"
def TX0 : u_T := fun k => match k with
  | 0 => ("DoubtfulTrunks$Desk", "queue", "[I", true)
  | 1 => ("DoubtfulTrunks$Desk", "waiting", "I", false)
  | 2 => ("DoubtfulTrunks$Desk", "handCount", "I", false)
  | 3 => ("DoubtfulTrunks$Desk", "looks", "I", false)
  | _ => ("DoubtfulTrunks$Desk", "passes", "I", false)
def tyX0 : Nat → FieldType := fun k => match k with
  | 0 => .array .int
  | 1 => .int
  | 2 => .int
  | 3 => .int
  | _ => .int
abbrev wsX00 : List Cond := u_ws RX0 TX0 5
theorem nmX0 : ∀ a, a < 5 → ∀ b, b < 5 → a ≠ b → (TX0 a).2.1 ≠ (TX0 b).2.1 := by decide +kernel
theorem tyX0_ok : ∀ k, k < 5 → parseFieldDescriptor (TX0 k).2.2.1 = some (tyX0 k) := by decide +kernel
abbrev cX0_init : ByteArray := prog_2_method_1_code
def yX0_init : MethodName := ⟨RX0, "<init>", "()V"⟩
abbrev cX0_append : ByteArray := prog_2_method_2_code
def yX0_append : MethodName := ⟨RX0, "append", "(I)V"⟩
abbrev cX0_placeOf : ByteArray := prog_2_method_3_code
def yX0_placeOf : MethodName := ⟨RX0, "placeOf", "(I)I"⟩
abbrev cX0_dismiss : ByteArray := prog_2_method_4_code
def yX0_dismiss : MethodName := ⟨RX0, "dismiss", "(I)V"⟩
abbrev cX0_copyFrom : ByteArray := prog_2_method_5_code
def yX0_copyFrom : MethodName := ⟨RX0, "copyFrom", "(LDoubtfulTrunks$Desk;)V"⟩
def RX1 : String := "DoubtfulTrunks$History"
def TX1 : u_T := fun k => match k with
  | 0 => ("DoubtfulTrunks$History", "rows", "[LDoubtfulTrunks$State;", true)
  | 1 => ("DoubtfulTrunks$History", "oldest", "I", false)
  | _ => ("DoubtfulTrunks$History", "size", "I", false)
def tyX1 : Nat → FieldType := fun k => match k with
  | 0 => .array (.object "DoubtfulTrunks$State")
  | 1 => .int
  | _ => .int
abbrev wsX10 : List Cond := u_ws RX1 TX1 3
theorem nmX1 : ∀ a, a < 3 → ∀ b, b < 3 → a ≠ b → (TX1 a).2.1 ≠ (TX1 b).2.1 := by decide +kernel
theorem tyX1_ok : ∀ k, k < 3 → parseFieldDescriptor (TX1 k).2.2.1 = some (tyX1 k) := by decide +kernel
abbrev cX1_init : ByteArray := prog_3_method_1_code
def yX1_init : MethodName := ⟨RX1, "<init>", "()V"⟩
abbrev cX1_keep : ByteArray := prog_3_method_2_code
def yX1_keep : MethodName := ⟨RX1, "keep", "(LDoubtfulTrunks$State;)V"⟩
abbrev cX1_takeBack : ByteArray := prog_3_method_3_code
def yX1_takeBack : MethodName := ⟨RX1, "takeBack", "(LDoubtfulTrunks$State;)V"⟩
def RX2 : String := "DoubtfulTrunks$Pad"
def TX2 : u_T := fun k => match k with
  | 0 => ("DoubtfulTrunks$Pad", "signs", "[C", true)
  | 1 => ("DoubtfulTrunks$Pad", "length", "I", false)
  | 2 => ("DoubtfulTrunks$Pad", "country", "I", false)
  | 3 => ("DoubtfulTrunks$Pad", "papers", "[I", true)
  | _ => ("DoubtfulTrunks$Pad", "at", "I", false)
def tyX2 : Nat → FieldType := fun k => match k with
  | 0 => .array .char
  | 1 => .int
  | 2 => .int
  | 3 => .array .int
  | _ => .int
abbrev wsX20 : List Cond := u_ws RX2 TX2 5
theorem nmX2 : ∀ a, a < 5 → ∀ b, b < 5 → a ≠ b → (TX2 a).2.1 ≠ (TX2 b).2.1 := by decide +kernel
theorem tyX2_ok : ∀ k, k < 5 → parseFieldDescriptor (TX2 k).2.2.1 = some (tyX2 k) := by decide +kernel
abbrev cX2_init : ByteArray := prog_4_method_1_code
def yX2_init : MethodName := ⟨RX2, "<init>", "()V"⟩
abbrev cX2_append : ByteArray := prog_4_method_2_code
def yX2_append : MethodName := ⟨RX2, "append", "(C)V"⟩
abbrev cX2_findFault : ByteArray := prog_4_method_3_code
def yX2_findFault : MethodName := ⟨RX2, "findFault", "()I"⟩
abbrev cX2_isNext : ByteArray := prog_4_method_4_code
def yX2_isNext : MethodName := ⟨RX2, "isNext", "(CC)Z"⟩
abbrev cX2_skips : ByteArray := prog_4_method_5_code
def yX2_skips : MethodName := ⟨RX2, "skips", "(C)Z"⟩
abbrev cX2_readPaper : ByteArray := prog_4_method_6_code
def yX2_readPaper : MethodName := ⟨RX2, "readPaper", "(I)Z"⟩
def RX3 : String := "DoubtfulTrunks$Sheet"
def TX3 : u_T := fun k => match k with
  | _ => ("", "", "", false)
def tyX3 : Nat → FieldType := fun k => match k with
  | _ => .int
abbrev wsX30 : List Cond := u_ws RX3 TX3 0
theorem nmX3 : ∀ a, a < 0 → ∀ b, b < 0 → a ≠ b → (TX3 a).2.1 ≠ (TX3 b).2.1 := by decide +kernel
theorem tyX3_ok : ∀ k, k < 0 → parseFieldDescriptor (TX3 k).2.2.1 = some (tyX3 k) := by decide +kernel
abbrev cX3_piecesOf : ByteArray := prog_5_method_2_code
def yX3_piecesOf : MethodName := ⟨RX3, "piecesOf", "(II)I"⟩
abbrev cX3_withPieces : ByteArray := prog_5_method_3_code
def yX3_withPieces : MethodName := ⟨RX3, "withPieces", "(III)I"⟩
def RX4 : String := "DoubtfulTrunks$State"
def TX4 : u_T := fun k => match k with
  | 0 => ("DoubtfulTrunks$State", "settings", "[I", true)
  | 1 => ("DoubtfulTrunks$State", "weights", "[I", true)
  | 2 => ("DoubtfulTrunks$State", "trusts", "[I", true)
  | 3 => ("DoubtfulTrunks$State", "desks", "[LDoubtfulTrunks$Desk;", true)
  | 4 => ("DoubtfulTrunks$State", "trunks", "LDoubtfulTrunks$Trunks;", true)
  | 5 => ("DoubtfulTrunks$State", "turnsMade", "I", false)
  | 6 => ("DoubtfulTrunks$State", "fees", "I", false)
  | 7 => ("DoubtfulTrunks$State", "fines", "I", false)
  | _ => ("DoubtfulTrunks$State", "delays", "I", false)
def tyX4 : Nat → FieldType := fun k => match k with
  | 0 => .array .int
  | 1 => .array .int
  | 2 => .array .int
  | 3 => .array (.object "DoubtfulTrunks$Desk")
  | 4 => .object "DoubtfulTrunks$Trunks"
  | 5 => .int
  | 6 => .int
  | 7 => .int
  | _ => .int
abbrev wsX40 : List Cond := u_ws RX4 TX4 9
theorem nmX4 : ∀ a, a < 9 → ∀ b, b < 9 → a ≠ b → (TX4 a).2.1 ≠ (TX4 b).2.1 := by decide +kernel
theorem tyX4_ok : ∀ k, k < 9 → parseFieldDescriptor (TX4 k).2.2.1 = some (tyX4 k) := by decide +kernel
abbrev cX4_init : ByteArray := prog_6_method_1_code
def yX4_init : MethodName := ⟨RX4, "<init>", "()V"⟩
abbrev cX4_hasCome : ByteArray := prog_6_method_2_code
def yX4_hasCome : MethodName := ⟨RX4, "hasCome", "(I)Z"⟩
abbrev cX4_isWaiting : ByteArray := prog_6_method_3_code
def yX4_isWaiting : MethodName := ⟨RX4, "isWaiting", "(I)Z"⟩
abbrev cX4_waitingTrunks : ByteArray := prog_6_method_4_code
def yX4_waitingTrunks : MethodName := ⟨RX4, "waitingTrunks", "()I"⟩
abbrev cX4_taken : ByteArray := prog_6_method_5_code
def yX4_taken : MethodName := ⟨RX4, "taken", "()I"⟩
abbrev cX4_deskOf : ByteArray := prog_6_method_6_code
def yX4_deskOf : MethodName := ⟨RX4, "deskOf", "(I)I"⟩
abbrev cX4_placeOf : ByteArray := prog_6_method_7_code
def yX4_placeOf : MethodName := ⟨RX4, "placeOf", "(I)I"⟩
abbrev cX4_doubtOf : ByteArray := prog_6_method_8_code
def yX4_doubtOf : MethodName := ⟨RX4, "doubtOf", "(I)I"⟩
abbrev cX4_doubtsAt : ByteArray := prog_6_method_9_code
def yX4_doubtsAt : MethodName := ⟨RX4, "doubtsAt", "(I)I"⟩
abbrev cX4_greatestDoubtAt : ByteArray := prog_6_method_10_code
def yX4_greatestDoubtAt : MethodName := ⟨RX4, "greatestDoubtAt", "(I)I"⟩
abbrev cX4_admit : ByteArray := prog_6_method_11_code
def yX4_admit : MethodName := ⟨RX4, "ad" ++ "mit", "(I[I)I"⟩
abbrev cX4_makeTurns : ByteArray := prog_6_method_12_code
def yX4_makeTurns : MethodName := ⟨RX4, "makeTurns", "(I)I"⟩
abbrev cX4_makeTurn : ByteArray := prog_6_method_13_code
def yX4_makeTurn : MethodName := ⟨RX4, "makeTurn", "()I"⟩
abbrev cX4_actAtTop : ByteArray := prog_6_method_14_code
def yX4_actAtTop : MethodName := ⟨RX4, "actAtTop", "()V"⟩
abbrev cX4_actBelowTop : ByteArray := prog_6_method_15_code
def yX4_actBelowTop : MethodName := ⟨RX4, "actBelowTop", "(I)V"⟩
abbrev cX4_letPass : ByteArray := prog_6_method_16_code
def yX4_letPass : MethodName := ⟨RX4, "letPass", "(ILDoubtfulTrunks$Desk;I)V"⟩
abbrev cX4_takeFee : ByteArray := prog_6_method_17_code
def yX4_takeFee : MethodName := ⟨RX4, "takeFee", "(I)V"⟩
abbrev cX4_fine : ByteArray := prog_6_method_18_code
def yX4_fine : MethodName := ⟨RX4, "fine", "(I)V"⟩
abbrev cX4_takeDelays : ByteArray := prog_6_method_19_code
def yX4_takeDelays : MethodName := ⟨RX4, "takeDelays", "()V"⟩
abbrev cX4_copyFrom : ByteArray := prog_6_method_20_code
def yX4_copyFrom : MethodName := ⟨RX4, "copyFrom", "(LDoubtfulTrunks$State;)V"⟩
def RX5 : String := "DoubtfulTrunks$Trunks"
def TX5 : u_T := fun k => match k with
  | 0 => ("DoubtfulTrunks$Trunks", "came", "I", false)
  | 1 => ("DoubtfulTrunks$Trunks", "countries", "[I", true)
  | 2 => ("DoubtfulTrunks$Trunks", "papers", "[[I", true)
  | 3 => ("DoubtfulTrunks$Trunks", "accounts", "[I", true)
  | 4 => ("DoubtfulTrunks$Trunks", "arrivals", "[I", true)
  | 5 => ("DoubtfulTrunks$Trunks", "fates", "[I", true)
  | 6 => ("DoubtfulTrunks$Trunks", "finedKinds", "[I", true)
  | _ => ("DoubtfulTrunks$Trunks", "handOns", "[I", true)
def tyX5 : Nat → FieldType := fun k => match k with
  | 0 => .int
  | 1 => .array .int
  | 2 => .array (.array .int)
  | 3 => .array .int
  | 4 => .array .int
  | 5 => .array .int
  | 6 => .array .int
  | _ => .array .int
abbrev wsX50 : List Cond := u_ws RX5 TX5 8
theorem nmX5 : ∀ a, a < 8 → ∀ b, b < 8 → a ≠ b → (TX5 a).2.1 ≠ (TX5 b).2.1 := by decide +kernel
theorem tyX5_ok : ∀ k, k < 8 → parseFieldDescriptor (TX5 k).2.2.1 = some (tyX5 k) := by decide +kernel
abbrev cX5_init : ByteArray := prog_7_method_1_code
def yX5_init : MethodName := ⟨RX5, "<init>", "()V"⟩
abbrev cX5_add : ByteArray := prog_7_method_2_code
def yX5_add : MethodName := ⟨RX5, "add", "(I[II)V"⟩
abbrev cX5_difference : ByteArray := prog_7_method_3_code
def yX5_difference : MethodName := ⟨RX5, "difference", "(II)I"⟩
abbrev cX5_disagreements : ByteArray := prog_7_method_4_code
def yX5_disagreements : MethodName := ⟨RX5, "disagreements", "(II)I"⟩
abbrev cX5_sumBeyond : ByteArray := prog_7_method_5_code
def yX5_sumBeyond : MethodName := ⟨RX5, "sumBeyond", "(II)I"⟩
abbrev cX5_hiddenKinds : ByteArray := prog_7_method_6_code
def yX5_hiddenKinds : MethodName := ⟨RX5, "hiddenKinds", "(I)I"⟩
abbrev cX5_countWithFate : ByteArray := prog_7_method_7_code
def yX5_countWithFate : MethodName := ⟨RX5, "countWithFate", "(I)I"⟩
abbrev cX5_countOpenedUnfined : ByteArray := prog_7_method_8_code
def yX5_countOpenedUnfined : MethodName := ⟨RX5, "countOpenedUnfined", "()I"⟩
abbrev cX5_copyFrom : ByteArray := prog_7_method_9_code
def yX5_copyFrom : MethodName := ⟨RX5, "copyFrom", "(LDoubtfulTrunks$Trunks;)V"⟩
def RX6 : String := "DoubtfulTrunks"
def TX6 : u_T := fun k => match k with
  | 0 => ("DoubtfulTrunks", "now", "LDoubtfulTrunks$State;", true)
  | 1 => ("DoubtfulTrunks", "trial", "LDoubtfulTrunks$State;", true)
  | 2 => ("DoubtfulTrunks", "history", "LDoubtfulTrunks$History;", true)
  | 3 => ("DoubtfulTrunks", "slots", "[LDoubtfulTrunks$State;", true)
  | 4 => ("DoubtfulTrunks", "filled", "[Z", true)
  | _ => ("DoubtfulTrunks", "pad", "LDoubtfulTrunks$Pad;", true)
def tyX6 : Nat → FieldType := fun k => match k with
  | 0 => .object "DoubtfulTrunks$State"
  | 1 => .object "DoubtfulTrunks$State"
  | 2 => .object "DoubtfulTrunks$History"
  | 3 => .array (.object "DoubtfulTrunks$State")
  | 4 => .array .boolean
  | _ => .object "DoubtfulTrunks$Pad"
abbrev wsX60 : List Cond := u_ws RX6 TX6 6
theorem nmX6 : ∀ a, a < 6 → ∀ b, b < 6 → a ≠ b → (TX6 a).2.1 ≠ (TX6 b).2.1 := by decide +kernel
theorem tyX6_ok : ∀ k, k < 6 → parseFieldDescriptor (TX6 k).2.2.1 = some (tyX6 k) := by decide +kernel
abbrev cX6_init : ByteArray := prog_1_method_1_code
def yX6_init : MethodName := ⟨RX6, "<init>", "()V"⟩
abbrev cX6_set : ByteArray := prog_1_method_2_code
def yX6_set : MethodName := ⟨RX6, "set", "(II)I"⟩
abbrev cX6_weight : ByteArray := prog_1_method_3_code
def yX6_weight : MethodName := ⟨RX6, "weight", "(II)I"⟩
abbrev cX6_trust : ByteArray := prog_1_method_4_code
def yX6_trust : MethodName := ⟨RX6, "trust", "(II)I"⟩
abbrev cX6_hands : ByteArray := prog_1_method_5_code
def yX6_hands : MethodName := ⟨RX6, "hands", "(II)I"⟩
abbrev cX6_read : ByteArray := prog_1_method_6_code
def yX6_read : MethodName := ⟨RX6, "read", "()I"⟩
abbrev cX6_mend : ByteArray := prog_1_method_7_code
def yX6_mend : MethodName := ⟨RX6, "mend", "(IIII)I"⟩
abbrev cX6_sendBack : ByteArray := prog_1_method_8_code
def yX6_sendBack : MethodName := ⟨RX6, "sendBack", "(I)I"⟩
abbrev cX6_turn : ByteArray := prog_1_method_9_code
def yX6_turn : MethodName := ⟨RX6, "turn", "(I)I"⟩
abbrev cX6_trunk : ByteArray := prog_1_method_10_code
def yX6_trunk : MethodName := ⟨RX6, "trunk", "(II)I"⟩
abbrev cX6_pieces : ByteArray := prog_1_method_11_code
def yX6_pieces : MethodName := ⟨RX6, "pieces", "(III)I"⟩
abbrev cX6_alike : ByteArray := prog_1_method_12_code
def yX6_alike : MethodName := ⟨RX6, "alike", "(II)I"⟩
abbrev cX6_desk : ByteArray := prog_1_method_13_code
def yX6_desk : MethodName := ⟨RX6, "desk", "(II)I"⟩
abbrev cX6_count : ByteArray := prog_1_method_14_code
def yX6_count : MethodName := ⟨RX6, "count", "(I)I"⟩
abbrev cX6_untilGone : ByteArray := prog_1_method_15_code
def yX6_untilGone : MethodName := ⟨RX6, "untilGone", "(I)I"⟩
abbrev cX6_fate : ByteArray := prog_1_method_16_code
def yX6_fate : MethodName := ⟨RX6, "fate", "(I)I"⟩
abbrev cX6_mostDoubted : ByteArray := prog_1_method_17_code
def yX6_mostDoubted : MethodName := ⟨RX6, "mostDoubted", "()I"⟩
abbrev cX6_ifTurned : ByteArray := prog_1_method_18_code
def yX6_ifTurned : MethodName := ⟨RX6, "ifTurned", "(II)I"⟩
abbrev cX6_bestHand : ByteArray := prog_1_method_19_code
def yX6_bestHand : MethodName := ⟨RX6, "bestHand", "()I"⟩
abbrev cX6_leastSmall : ByteArray := prog_1_method_20_code
def yX6_leastSmall : MethodName := ⟨RX6, "leastSmall", "()I"⟩
abbrev cX6_put : ByteArray := prog_1_method_21_code
def yX6_put : MethodName := ⟨RX6, "put", "(J)I"⟩
abbrev cX6_wipe : ByteArray := prog_1_method_22_code
def yX6_wipe : MethodName := ⟨RX6, "wipe", "()I"⟩
abbrev cX6_fault : ByteArray := prog_1_method_23_code
def yX6_fault : MethodName := ⟨RX6, "fault", "()I"⟩
abbrev cX6_undo : ByteArray := prog_1_method_24_code
def yX6_undo : MethodName := ⟨RX6, "undo", "()I"⟩
abbrev cX6_save : ByteArray := prog_1_method_25_code
def yX6_save : MethodName := ⟨RX6, "save", "(I)I"⟩
abbrev cX6_restore : ByteArray := prog_1_method_26_code
def yX6_restore : MethodName := ⟨RX6, "restore", "(I)I"⟩
abbrev cX6_isWithin : ByteArray := prog_1_method_27_code
def yX6_isWithin : MethodName := ⟨RX6, "isWithin", "(III)Z"⟩
abbrev cX6_turnsUntilGone : ByteArray := prog_1_method_28_code
def yX6_turnsUntilGone : MethodName := ⟨RX6, "turnsUntilGone", "(I)I"⟩
def RX7 : String := "DoubtfulTrunksModel"
def TX7 : u_T := fun k => match k with
  | 0 => ("DoubtfulTrunksModel", "s", "[I", true)
  | 1 => ("DoubtfulTrunksModel", "states", "I", false)
  | 2 => ("DoubtfulTrunksModel", "isSaved", "[Z", true)
  | 3 => ("DoubtfulTrunksModel", "text", "[I", true)
  | 4 => ("DoubtfulTrunksModel", "typed", "I", false)
  | 5 => ("DoubtfulTrunksModel", "spot", "I", false)
  | _ => ("DoubtfulTrunksModel", "paper", "I", false)
def tyX7 : Nat → FieldType := fun k => match k with
  | 0 => .array .int
  | 1 => .int
  | 2 => .array .boolean
  | 3 => .array .int
  | 4 => .int
  | 5 => .int
  | _ => .int
abbrev wsX70 : List Cond := u_ws RX7 TX7 7
theorem nmX7 : ∀ a, a < 7 → ∀ b, b < 7 → a ≠ b → (TX7 a).2.1 ≠ (TX7 b).2.1 := by decide +kernel
theorem tyX7_ok : ∀ k, k < 7 → parseFieldDescriptor (TX7 k).2.2.1 = some (tyX7 k) := by decide +kernel
abbrev cX7_init : ByteArray := prog_9_method_1_code
def yX7_init : MethodName := ⟨RX7, "<init>", "()V"⟩
abbrev cX7_in : ByteArray := prog_9_method_3_code
def yX7_in : MethodName := ⟨RX7, "in", "(JJJ)Z"⟩
abbrev cX7_flag : ByteArray := prog_9_method_4_code
def yX7_flag : MethodName := ⟨RX7, "flag", "(Z)I"⟩
abbrev cX7_copies : ByteArray := prog_9_method_5_code
def yX7_copies : MethodName := ⟨RX7, "copies", "(II)V"⟩
abbrev cX7_changes : ByteArray := prog_9_method_6_code
def yX7_changes : MethodName := ⟨RX7, "changes", "()V"⟩
abbrev cX7_sets : ByteArray := prog_9_method_7_code
def yX7_sets : MethodName := ⟨RX7, "sets", "(II)I"⟩
abbrev cX7_deskAt : ByteArray := prog_9_method_8_code
def yX7_deskAt : MethodName := ⟨RX7, "deskAt", "(II)I"⟩
abbrev cX7_queueAt : ByteArray := prog_9_method_9_code
def yX7_queueAt : MethodName := ⟨RX7, "queueAt", "(III)I"⟩
abbrev cX7_trunkAt : ByteArray := prog_9_method_10_code
def yX7_trunkAt : MethodName := ⟨RX7, "trunkAt", "(II)I"⟩
abbrev cX7_power : ByteArray := prog_9_method_11_code
def yX7_power : MethodName := ⟨RX7, "power", "(I)I"⟩
abbrev cX7_piecesOn : ByteArray := prog_9_method_12_code
def yX7_piecesOn : MethodName := ⟨RX7, "piecesOn", "(II)I"⟩
abbrev cX7_differs : ByteArray := prog_9_method_13_code
def yX7_differs : MethodName := ⟨RX7, "differs", "(III)I"⟩
abbrev cX7_disagreeing : ByteArray := prog_9_method_14_code
def yX7_disagreeing : MethodName := ⟨RX7, "disagreeing", "(II)I"⟩
abbrev cX7_doubt : ByteArray := prog_9_method_15_code
def yX7_doubt : MethodName := ⟨RX7, "doubt", "(II)I"⟩
abbrev cX7_takes : ByteArray := prog_9_method_16_code
def yX7_takes : MethodName := ⟨RX7, "takes", "(IIII)V"⟩
abbrev cX7_removes : ByteArray := prog_9_method_17_code
def yX7_removes : MethodName := ⟨RX7, "removes", "(III)V"⟩
abbrev cX7_joins : ByteArray := prog_9_method_18_code
def yX7_joins : MethodName := ⟨RX7, "joins", "(III)V"⟩
abbrev cX7_passes : ByteArray := prog_9_method_19_code
def yX7_passes : MethodName := ⟨RX7, "passes", "(IIII)V"⟩
abbrev cX7_opens : ByteArray := prog_9_method_20_code
def yX7_opens : MethodName := ⟨RX7, "opens", "(II)V"⟩
abbrev cX7_looks : ByteArray := prog_9_method_21_code
def yX7_looks : MethodName := ⟨RX7, "looks", "(III)Z"⟩
abbrev cX7_turn1 : ByteArray := prog_9_method_22_code
def yX7_turn1 : MethodName := ⟨RX7, "turn1", "(I)V"⟩
abbrev cX7_gone : ByteArray := prog_9_method_23_code
def yX7_gone : MethodName := ⟨RX7, "gone", "(I)I"⟩
abbrev cX7_turnsBy : ByteArray := prog_9_method_24_code
def yX7_turnsBy : MethodName := ⟨RX7, "turnsBy", "(II)I"⟩
abbrev cX7_isDesk : ByteArray := prog_9_method_25_code
def yX7_isDesk : MethodName := ⟨RX7, "isDesk", "(I)Z"⟩
abbrev cX7_isKind : ByteArray := prog_9_method_26_code
def yX7_isKind : MethodName := ⟨RX7, "isKind", "(I)Z"⟩
abbrev cX7_isTrunk : ByteArray := prog_9_method_27_code
def yX7_isTrunk : MethodName := ⟨RX7, "isTrunk", "(I)Z"⟩
abbrev cX7_isWaiting : ByteArray := prog_9_method_28_code
def yX7_isWaiting : MethodName := ⟨RX7, "isWaiting", "(I)Z"⟩
abbrev cX7_deskOf : ByteArray := prog_9_method_29_code
def yX7_deskOf : MethodName := ⟨RX7, "deskOf", "(I)I"⟩
abbrev cX7_placeIn : ByteArray := prog_9_method_30_code
def yX7_placeIn : MethodName := ⟨RX7, "placeIn", "(II)I"⟩
abbrev cX7_waiting : ByteArray := prog_9_method_31_code
def yX7_waiting : MethodName := ⟨RX7, "waiting", "()I"⟩
abbrev cX7_isValue : ByteArray := prog_9_method_32_code
def yX7_isValue : MethodName := ⟨RX7, "isValue", "(II)Z"⟩
abbrev cX7_set : ByteArray := prog_9_method_33_code
def yX7_set : MethodName := ⟨RX7, "set", "(II)I"⟩
abbrev cX7_weight : ByteArray := prog_9_method_34_code
def yX7_weight : MethodName := ⟨RX7, "weight", "(II)I"⟩
abbrev cX7_trust : ByteArray := prog_9_method_35_code
def yX7_trust : MethodName := ⟨RX7, "trust", "(II)I"⟩
abbrev cX7_hands : ByteArray := prog_9_method_36_code
def yX7_hands : MethodName := ⟨RX7, "hands", "(II)I"⟩
abbrev cX7_read : ByteArray := prog_9_method_37_code
def yX7_read : MethodName := ⟨RX7, "read", "()I"⟩
abbrev cX7_mend : ByteArray := prog_9_method_38_code
def yX7_mend : MethodName := ⟨RX7, "mend", "(IIII)I"⟩
abbrev cX7_sendBack : ByteArray := prog_9_method_39_code
def yX7_sendBack : MethodName := ⟨RX7, "sendBack", "(I)I"⟩
abbrev cX7_turn : ByteArray := prog_9_method_40_code
def yX7_turn : MethodName := ⟨RX7, "turn", "(I)I"⟩
abbrev cX7_trunk : ByteArray := prog_9_method_41_code
def yX7_trunk : MethodName := ⟨RX7, "trunk", "(II)I"⟩
abbrev cX7_pieces : ByteArray := prog_9_method_42_code
def yX7_pieces : MethodName := ⟨RX7, "pieces", "(III)I"⟩
abbrev cX7_beyondTare : ByteArray := prog_9_method_43_code
def yX7_beyondTare : MethodName := ⟨RX7, "beyondTare", "(I)I"⟩
abbrev cX7_alike : ByteArray := prog_9_method_44_code
def yX7_alike : MethodName := ⟨RX7, "alike", "(II)I"⟩
abbrev cX7_doubtsAt : ByteArray := prog_9_method_45_code
def yX7_doubtsAt : MethodName := ⟨RX7, "doubtsAt", "(I)I"⟩
abbrev cX7_desk : ByteArray := prog_9_method_46_code
def yX7_desk : MethodName := ⟨RX7, "desk", "(II)I"⟩
abbrev cX7_taken : ByteArray := prog_9_method_47_code
def yX7_taken : MethodName := ⟨RX7, "taken", "(I)I"⟩
abbrev cX7_count : ByteArray := prog_9_method_48_code
def yX7_count : MethodName := ⟨RX7, "count", "(I)I"⟩
abbrev cX7_turnsTo : ByteArray := prog_9_method_49_code
def yX7_turnsTo : MethodName := ⟨RX7, "turnsTo", "(I)I"⟩
abbrev cX7_untilGone : ByteArray := prog_9_method_50_code
def yX7_untilGone : MethodName := ⟨RX7, "untilGone", "(I)I"⟩
abbrev cX7_fate : ByteArray := prog_9_method_51_code
def yX7_fate : MethodName := ⟨RX7, "fate", "(I)I"⟩
abbrev cX7_mostDoubted : ByteArray := prog_9_method_52_code
def yX7_mostDoubted : MethodName := ⟨RX7, "mostDoubted", "()I"⟩
abbrev cX7_ifTurned : ByteArray := prog_9_method_53_code
def yX7_ifTurned : MethodName := ⟨RX7, "ifTurned", "(II)I"⟩
abbrev cX7_bestHand : ByteArray := prog_9_method_54_code
def yX7_bestHand : MethodName := ⟨RX7, "bestHand", "()I"⟩
abbrev cX7_leastSmall : ByteArray := prog_9_method_55_code
def yX7_leastSmall : MethodName := ⟨RX7, "leastSmall", "()I"⟩
abbrev cX7_charactersOf : ByteArray := prog_9_method_56_code
def yX7_charactersOf : MethodName := ⟨RX7, "charactersOf", "(J)I"⟩
abbrev cX7_put : ByteArray := prog_9_method_57_code
def yX7_put : MethodName := ⟨RX7, "put", "(J)I"⟩
abbrev cX7_wipe : ByteArray := prog_9_method_58_code
def yX7_wipe : MethodName := ⟨RX7, "wipe", "()I"⟩
abbrev cX7_isHere : ByteArray := prog_9_method_59_code
def yX7_isHere : MethodName := ⟨RX7, "isHere", "(II)Z"⟩
abbrev cX7_takesSign : ByteArray := prog_9_method_60_code
def yX7_takesSign : MethodName := ⟨RX7, "takesSign", "(I)Z"⟩
abbrev cX7_readsPaper : ByteArray := prog_9_method_61_code
def yX7_readsPaper : MethodName := ⟨RX7, "readsPaper", "()Z"⟩
abbrev cX7_fault : ByteArray := prog_9_method_62_code
def yX7_fault : MethodName := ⟨RX7, "fault", "()I"⟩
abbrev cX7_undo : ByteArray := prog_9_method_63_code
def yX7_undo : MethodName := ⟨RX7, "undo", "()I"⟩
abbrev cX7_isSlot : ByteArray := prog_9_method_64_code
def yX7_isSlot : MethodName := ⟨RX7, "isSlot", "(I)Z"⟩
abbrev cX7_save : ByteArray := prog_9_method_65_code
def yX7_save : MethodName := ⟨RX7, "save", "(I)I"⟩
abbrev cX7_restore : ByteArray := prog_9_method_66_code
def yX7_restore : MethodName := ⟨RX7, "restore", "(I)I"⟩
def RJ6 : String := "java/lang/Integer"
def TJ6 : u_T := fun k => match k with
  | _ => ("", "", "", false)
def tyJ6 : Nat → FieldType := fun k => match k with
  | _ => .int
abbrev wsJ60 : List Cond := u_ws RJ6 TJ6 0
theorem nmJ6 : ∀ a, a < 0 → ∀ b, b < 0 → a ≠ b → (TJ6 a).2.1 ≠ (TJ6 b).2.1 := by decide +kernel
theorem tyJ6_ok : ∀ k, k < 0 → parseFieldDescriptor (TJ6 k).2.2.1 = some (tyJ6 k) := by decide +kernel
abbrev cJ6_bitCount_0f7a4 : ByteArray := prog_10_method_49_code
def yJ6_bitCount_0f7a4 : MethodName := ⟨RJ6, "bitCount", "(I)I"⟩
def RJ9 : String := "java/lang/Math"
def TJ9 : u_T := fun k => match k with
  | _ => ("", "", "", false)
def tyJ9 : Nat → FieldType := fun k => match k with
  | _ => .int
abbrev wsJ90 : List Cond := u_ws RJ9 TJ9 0
theorem nmJ9 : ∀ a, a < 0 → ∀ b, b < 0 → a ≠ b → (TJ9 a).2.1 ≠ (TJ9 b).2.1 := by decide +kernel
theorem tyJ9_ok : ∀ k, k < 0 → parseFieldDescriptor (TJ9 k).2.2.1 = some (tyJ9 k) := by decide +kernel
abbrev cJ9_abs_0f7a4 : ByteArray := prog_11_method_59_code
def yJ9_abs_0f7a4 : MethodName := ⟨RJ9, "abs", "(I)I"⟩
abbrev cJ9_max_7cf53 : ByteArray := prog_11_method_65_code
def yJ9_max_7cf53 : MethodName := ⟨RJ9, "max", "(II)I"⟩
abbrev cJ9_min_7cf53 : ByteArray := prog_11_method_69_code
def yJ9_min_7cf53 : MethodName := ⟨RJ9, "min", "(II)I"⟩
def RJ10 : String := "java/lang/System"
def TJ10 : u_T := fun k => match k with
  | _ => ("", "", "", false)
def tyJ10 : Nat → FieldType := fun k => match k with
  | _ => .int
abbrev wsJ100 : List Cond := u_ws RJ10 TJ10 0
theorem nmJ10 : ∀ a, a < 0 → ∀ b, b < 0 → a ≠ b → (TJ10 a).2.1 ≠ (TJ10 b).2.1 := by decide +kernel
theorem tyJ10_ok : ∀ k, k < 0 → parseFieldDescriptor (TJ10 k).2.2.1 = some (tyJ10 k) := by decide +kernel
def RL : String := "DoubtfulTrunksLaw"
abbrev cL_law : ByteArray := code
def yL_law : MethodName := ⟨RL, "law", "([I)Z"⟩
