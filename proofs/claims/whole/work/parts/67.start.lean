/-! THE CLAIM OUT OF ONE WALK OF THE LAW'S BODY. Your part is whole_start (and what it stands on); all else here is the same for every law, but numbers. -/
def R_law : String := "DoubtfulTrunksLaw"
def lw_P (b : Addr) (xs : List Int32) (args : Array Value) (s : State) : Prop := args = #[.ref b] ∧ s.IntsAt b xs ∧ xs.length ≤ 2560 ∧ (Jvm.Cond.and given_1 narrow_1).before args s = true
def lw_Q (_ : Array Value) (s : State) (o : Outcome) (t : State) : Prop := o = .returned (some (.int 1)) ∧ Framed s o t [] 600000 7302250
def lw_Z (below : List Frame) (a : Array Value) (s : State) : State → Prop := fun t => ∃ o, t.status = .running ∧ Ended t below o ∧ lw_Q a s o t
/-- the law's own end, with 1 on the stack, nothing written that was there before, its room as the claim has it -/
theorem lw_ret {p : Program} {l : Launch} {e : Env} {s : State} {m : MethodId} {below : List Frame} {meth : Method} {c : Code} {b : Nat} (hx : p.tables.exec = Jvm.exec) (hb : c.code = code) (hr : meth.sig.returnType = ret) (hlocks : meth.locks = false) {pc : Nat} {H : Heap} {ls : Array Slot} (hdg : decode code pc = .ok (.ireturn, 1)) : W p l e room_1 s m #[Value.ref b] below meth c H [] 600000 7302250 (lw_Z below #[Value.ref b] s) (F0 m pc ls [.int 1]) := by
  intro T hT X
  obtain ⟨fs, hret, hrun, hended, hW, hframe⟩ := X.leave (v := some (.int 1)) (hlocks := hlocks) (fun h => by rw [hr] at h; cases h)
  have hmeth' : T.vm.method? m = some meth := X.method'
  refine ⟨T.setFrames fs, ?_, .returned (some (.int 1)), hrun, hended, rfl, ⟨_, rfl⟩, hW, hframe⟩
  jvm_step X.here [X.here.top, hx, hb, hdg, hmeth', hr, ret, narrow_b1]
  (try refine ⟨rfl, ?_⟩); (try refine ⟨rfl, ?_⟩)
  first | (intro acts; rw [hret _ acts rfl rfl rfl]) | rw [hret _ _ rfl rfl rfl]
  exact Steps.refl _
/-- what holds at the law's entry: the machine, the code, the tables' words (any of lw_tbl by 'hts w (by decide +kernel)'), the script of L ints xs at the cell b, what the Statement gives of the start (any of its parts by flat_of_before) -/
def lw_At (p : Program) (s : State) (m : MethodId) (meth : Method) (c : Code) (b L : Nat) (xs : Nat → Int32) : Prop :=
  p.tables.exec = Jvm.exec ∧ c.code = code ∧ meth.sig.returnType = ret ∧ c.maxLocals = 4 ∧ s.vm.findClass R_law = some m.cls ∧ (∀ w ∈ lw_tbl, w.before #[Value.ref b] s = true) ∧ va_X b L xs s s.heap ∧ b < s.heap.size ∧ meth.locks = false ∧ (Jvm.Cond.and given_1 narrow_1).before #[Value.ref b] s = true
set_option maxRecDepth 100000 in
set_option maxHeartbeats 4000000 in
theorem law_cl : ∀ e ∈ sx_L_law.2.2.2.2.2.2.1, ClOK RL room_1 e := all_cons (clokV mt_X6_set rfl (GT_at 246 (by decide +kernel) (by decide +kernel)) (GT_at 38 (by decide +kernel) (by decide +kernel)) (GT_at 249 (by decide +kernel) (by decide +kernel)) (by decide +kernel) (by decide) (GT_at 247 (by decide +kernel) (by decide +kernel)) (GT_at 248 (by decide +kernel) (by decide +kernel)) rfl rfl) (all_cons (clokV mt_X7_set rfl (GT_at 580 (by decide +kernel) (by decide +kernel)) (GT_at 44 (by decide +kernel) (by decide +kernel)) (GT_at 583 (by decide +kernel) (by decide +kernel)) (by decide +kernel) (by decide) (GT_at 581 (by decide +kernel) (by decide +kernel)) (GT_at 582 (by decide +kernel) (by decide +kernel)) rfl rfl) (all_cons (clokV mt_X6_weight rfl (GT_at 278 (by decide +kernel) (by decide +kernel)) (GT_at 38 (by decide +kernel) (by decide +kernel)) (GT_at 281 (by decide +kernel) (by decide +kernel)) (by decide +kernel) (by decide) (GT_at 279 (by decide +kernel) (by decide +kernel)) (GT_at 280 (by decide +kernel) (by decide +kernel)) rfl rfl) (all_cons (clokV mt_X7_weight rfl (GT_at 608 (by decide +kernel) (by decide +kernel)) (GT_at 44 (by decide +kernel) (by decide +kernel)) (GT_at 611 (by decide +kernel) (by decide +kernel)) (by decide +kernel) (by decide) (GT_at 609 (by decide +kernel) (by decide +kernel)) (GT_at 610 (by decide +kernel) (by decide +kernel)) rfl rfl) (all_cons (clokV mt_X6_trust rfl (GT_at 282 (by decide +kernel) (by decide +kernel)) (GT_at 38 (by decide +kernel) (by decide +kernel)) (GT_at 285 (by decide +kernel) (by decide +kernel)) (by decide +kernel) (by decide) (GT_at 283 (by decide +kernel) (by decide +kernel)) (GT_at 284 (by decide +kernel) (by decide +kernel)) rfl rfl) (all_cons (clokV mt_X7_trust rfl (GT_at 616 (by decide +kernel) (by decide +kernel)) (GT_at 44 (by decide +kernel) (by decide +kernel)) (GT_at 619 (by decide +kernel) (by decide +kernel)) (by decide +kernel) (by decide) (GT_at 617 (by decide +kernel) (by decide +kernel)) (GT_at 618 (by decide +kernel) (by decide +kernel)) rfl rfl) (all_cons (clokV mt_X6_hands rfl (GT_at 286 (by decide +kernel) (by decide +kernel)) (GT_at 38 (by decide +kernel) (by decide +kernel)) (GT_at 289 (by decide +kernel) (by decide +kernel)) (by decide +kernel) (by decide) (GT_at 287 (by decide +kernel) (by decide +kernel)) (GT_at 288 (by decide +kernel) (by decide +kernel)) rfl rfl) (all_cons (clokV mt_X7_hands rfl (GT_at 620 (by decide +kernel) (by decide +kernel)) (GT_at 44 (by decide +kernel) (by decide +kernel)) (GT_at 623 (by decide +kernel) (by decide +kernel)) (by decide +kernel) (by decide) (GT_at 621 (by decide +kernel) (by decide +kernel)) (GT_at 622 (by decide +kernel) (by decide +kernel)) rfl rfl) (all_cons (clokV mt_X6_read rfl (GT_at 290 (by decide +kernel) (by decide +kernel)) (GT_at 38 (by decide +kernel) (by decide +kernel)) (GT_at 293 (by decide +kernel) (by decide +kernel)) (by decide +kernel) (by decide) (GT_at 291 (by decide +kernel) (by decide +kernel)) (GT_at 292 (by decide +kernel) (by decide +kernel)) rfl rfl) (all_cons (clokV mt_X7_read rfl (GT_at 629 (by decide +kernel) (by decide +kernel)) (GT_at 44 (by decide +kernel) (by decide +kernel)) (GT_at 632 (by decide +kernel) (by decide +kernel)) (by decide +kernel) (by decide) (GT_at 630 (by decide +kernel) (by decide +kernel)) (GT_at 631 (by decide +kernel) (by decide +kernel)) rfl rfl) (all_cons (clokV mt_X6_mend rfl (GT_at 329 (by decide +kernel) (by decide +kernel)) (GT_at 38 (by decide +kernel) (by decide +kernel)) (GT_at 332 (by decide +kernel) (by decide +kernel)) (by decide +kernel) (by decide) (GT_at 330 (by decide +kernel) (by decide +kernel)) (GT_at 331 (by decide +kernel) (by decide +kernel)) rfl rfl) (all_cons (clokV mt_X7_mend rfl (GT_at 669 (by decide +kernel) (by decide +kernel)) (GT_at 44 (by decide +kernel) (by decide +kernel)) (GT_at 672 (by decide +kernel) (by decide +kernel)) (by decide +kernel) (by decide) (GT_at 670 (by decide +kernel) (by decide +kernel)) (GT_at 671 (by decide +kernel) (by decide +kernel)) rfl rfl) (all_cons (clokV mt_X6_sendBack rfl (GT_at 356 (by decide +kernel) (by decide +kernel)) (GT_at 38 (by decide +kernel) (by decide +kernel)) (GT_at 359 (by decide +kernel) (by decide +kernel)) (by decide +kernel) (by decide) (GT_at 357 (by decide +kernel) (by decide +kernel)) (GT_at 358 (by decide +kernel) (by decide +kernel)) rfl rfl) (all_cons (clokV mt_X7_sendBack rfl (GT_at 696 (by decide +kernel) (by decide +kernel)) (GT_at 44 (by decide +kernel) (by decide +kernel)) (GT_at 699 (by decide +kernel) (by decide +kernel)) (by decide +kernel) (by decide) (GT_at 697 (by decide +kernel) (by decide +kernel)) (GT_at 698 (by decide +kernel) (by decide +kernel)) rfl rfl) (all_cons (clokV mt_X6_turn rfl (GT_at 373 (by decide +kernel) (by decide +kernel)) (GT_at 38 (by decide +kernel) (by decide +kernel)) (GT_at 376 (by decide +kernel) (by decide +kernel)) (by decide +kernel) (by decide) (GT_at 374 (by decide +kernel) (by decide +kernel)) (GT_at 375 (by decide +kernel) (by decide +kernel)) rfl rfl) (all_cons (clokV mt_X7_turn rfl (GT_at 712 (by decide +kernel) (by decide +kernel)) (GT_at 44 (by decide +kernel) (by decide +kernel)) (GT_at 715 (by decide +kernel) (by decide +kernel)) (by decide +kernel) (by decide) (GT_at 713 (by decide +kernel) (by decide +kernel)) (GT_at 714 (by decide +kernel) (by decide +kernel)) rfl rfl) (all_cons (clokV mt_X6_trunk rfl (GT_at 425 (by decide +kernel) (by decide +kernel)) (GT_at 38 (by decide +kernel) (by decide +kernel)) (GT_at 428 (by decide +kernel) (by decide +kernel)) (by decide +kernel) (by decide) (GT_at 426 (by decide +kernel) (by decide +kernel)) (GT_at 427 (by decide +kernel) (by decide +kernel)) rfl rfl) (all_cons (clokV mt_X7_trunk rfl (GT_at 745 (by decide +kernel) (by decide +kernel)) (GT_at 44 (by decide +kernel) (by decide +kernel)) (GT_at 748 (by decide +kernel) (by decide +kernel)) (by decide +kernel) (by decide) (GT_at 746 (by decide +kernel) (by decide +kernel)) (GT_at 747 (by decide +kernel) (by decide +kernel)) rfl rfl) (all_cons (clokV mt_X6_pieces rfl (GT_at 440 (by decide +kernel) (by decide +kernel)) (GT_at 38 (by decide +kernel) (by decide +kernel)) (GT_at 443 (by decide +kernel) (by decide +kernel)) (by decide +kernel) (by decide) (GT_at 441 (by decide +kernel) (by decide +kernel)) (GT_at 442 (by decide +kernel) (by decide +kernel)) rfl rfl) (all_cons (clokV mt_X7_pieces rfl (GT_at 749 (by decide +kernel) (by decide +kernel)) (GT_at 44 (by decide +kernel) (by decide +kernel)) (GT_at 752 (by decide +kernel) (by decide +kernel)) (by decide +kernel) (by decide) (GT_at 750 (by decide +kernel) (by decide +kernel)) (GT_at 751 (by decide +kernel) (by decide +kernel)) rfl rfl) (all_cons (clokV mt_X6_alike rfl (GT_at 445 (by decide +kernel) (by decide +kernel)) (GT_at 38 (by decide +kernel) (by decide +kernel)) (GT_at 448 (by decide +kernel) (by decide +kernel)) (by decide +kernel) (by decide) (GT_at 446 (by decide +kernel) (by decide +kernel)) (GT_at 447 (by decide +kernel) (by decide +kernel)) rfl rfl) (all_cons (clokV mt_X7_alike rfl (GT_at 753 (by decide +kernel) (by decide +kernel)) (GT_at 44 (by decide +kernel) (by decide +kernel)) (GT_at 756 (by decide +kernel) (by decide +kernel)) (by decide +kernel) (by decide) (GT_at 754 (by decide +kernel) (by decide +kernel)) (GT_at 755 (by decide +kernel) (by decide +kernel)) rfl rfl) (all_cons (clokV mt_X6_desk rfl (GT_at 453 (by decide +kernel) (by decide +kernel)) (GT_at 38 (by decide +kernel) (by decide +kernel)) (GT_at 456 (by decide +kernel) (by decide +kernel)) (by decide +kernel) (by decide) (GT_at 454 (by decide +kernel) (by decide +kernel)) (GT_at 455 (by decide +kernel) (by decide +kernel)) rfl rfl) (all_cons (clokV mt_X7_desk rfl (GT_at 761 (by decide +kernel) (by decide +kernel)) (GT_at 44 (by decide +kernel) (by decide +kernel)) (GT_at 764 (by decide +kernel) (by decide +kernel)) (by decide +kernel) (by decide) (GT_at 762 (by decide +kernel) (by decide +kernel)) (GT_at 763 (by decide +kernel) (by decide +kernel)) rfl rfl) (all_cons (clokV mt_X6_count rfl (GT_at 461 (by decide +kernel) (by decide +kernel)) (GT_at 38 (by decide +kernel) (by decide +kernel)) (GT_at 464 (by decide +kernel) (by decide +kernel)) (by decide +kernel) (by decide) (GT_at 462 (by decide +kernel) (by decide +kernel)) (GT_at 463 (by decide +kernel) (by decide +kernel)) rfl rfl) (all_cons (clokV mt_X7_count rfl (GT_at 769 (by decide +kernel) (by decide +kernel)) (GT_at 44 (by decide +kernel) (by decide +kernel)) (GT_at 772 (by decide +kernel) (by decide +kernel)) (by decide +kernel) (by decide) (GT_at 770 (by decide +kernel) (by decide +kernel)) (GT_at 771 (by decide +kernel) (by decide +kernel)) rfl rfl) (all_cons (clokV mt_X6_untilGone rfl (GT_at 477 (by decide +kernel) (by decide +kernel)) (GT_at 38 (by decide +kernel) (by decide +kernel)) (GT_at 480 (by decide +kernel) (by decide +kernel)) (by decide +kernel) (by decide) (GT_at 478 (by decide +kernel) (by decide +kernel)) (GT_at 479 (by decide +kernel) (by decide +kernel)) rfl rfl) (all_cons (clokV mt_X7_untilGone rfl (GT_at 778 (by decide +kernel) (by decide +kernel)) (GT_at 44 (by decide +kernel) (by decide +kernel)) (GT_at 781 (by decide +kernel) (by decide +kernel)) (by decide +kernel) (by decide) (GT_at 779 (by decide +kernel) (by decide +kernel)) (GT_at 780 (by decide +kernel) (by decide +kernel)) rfl rfl) (all_cons (clokV mt_X6_fate rfl (GT_at 487 (by decide +kernel) (by decide +kernel)) (GT_at 38 (by decide +kernel) (by decide +kernel)) (GT_at 490 (by decide +kernel) (by decide +kernel)) (by decide +kernel) (by decide) (GT_at 488 (by decide +kernel) (by decide +kernel)) (GT_at 489 (by decide +kernel) (by decide +kernel)) rfl rfl) (all_cons (clokV mt_X7_fate rfl (GT_at 786 (by decide +kernel) (by decide +kernel)) (GT_at 44 (by decide +kernel) (by decide +kernel)) (GT_at 789 (by decide +kernel) (by decide +kernel)) (by decide +kernel) (by decide) (GT_at 787 (by decide +kernel) (by decide +kernel)) (GT_at 788 (by decide +kernel) (by decide +kernel)) rfl rfl) (all_cons (clokV mt_X6_mostDoubted rfl (GT_at 491 (by decide +kernel) (by decide +kernel)) (GT_at 38 (by decide +kernel) (by decide +kernel)) (GT_at 494 (by decide +kernel) (by decide +kernel)) (by decide +kernel) (by decide) (GT_at 492 (by decide +kernel) (by decide +kernel)) (GT_at 493 (by decide +kernel) (by decide +kernel)) rfl rfl) (all_cons (clokV mt_X7_mostDoubted rfl (GT_at 790 (by decide +kernel) (by decide +kernel)) (GT_at 44 (by decide +kernel) (by decide +kernel)) (GT_at 793 (by decide +kernel) (by decide +kernel)) (by decide +kernel) (by decide) (GT_at 791 (by decide +kernel) (by decide +kernel)) (GT_at 792 (by decide +kernel) (by decide +kernel)) rfl rfl) (all_cons (clokV mt_X6_ifTurned rfl (GT_at 495 (by decide +kernel) (by decide +kernel)) (GT_at 38 (by decide +kernel) (by decide +kernel)) (GT_at 498 (by decide +kernel) (by decide +kernel)) (by decide +kernel) (by decide) (GT_at 496 (by decide +kernel) (by decide +kernel)) (GT_at 497 (by decide +kernel) (by decide +kernel)) rfl rfl) (all_cons (clokV mt_X7_ifTurned rfl (GT_at 794 (by decide +kernel) (by decide +kernel)) (GT_at 44 (by decide +kernel) (by decide +kernel)) (GT_at 797 (by decide +kernel) (by decide +kernel)) (by decide +kernel) (by decide) (GT_at 795 (by decide +kernel) (by decide +kernel)) (GT_at 796 (by decide +kernel) (by decide +kernel)) rfl rfl) (all_cons (clokV mt_X6_bestHand rfl (GT_at 499 (by decide +kernel) (by decide +kernel)) (GT_at 38 (by decide +kernel) (by decide +kernel)) (GT_at 502 (by decide +kernel) (by decide +kernel)) (by decide +kernel) (by decide) (GT_at 500 (by decide +kernel) (by decide +kernel)) (GT_at 501 (by decide +kernel) (by decide +kernel)) rfl rfl) (all_cons (clokV mt_X7_bestHand rfl (GT_at 798 (by decide +kernel) (by decide +kernel)) (GT_at 44 (by decide +kernel) (by decide +kernel)) (GT_at 801 (by decide +kernel) (by decide +kernel)) (by decide +kernel) (by decide) (GT_at 799 (by decide +kernel) (by decide +kernel)) (GT_at 800 (by decide +kernel) (by decide +kernel)) rfl rfl) (all_cons (clokV mt_X6_leastSmall rfl (GT_at 506 (by decide +kernel) (by decide +kernel)) (GT_at 38 (by decide +kernel) (by decide +kernel)) (GT_at 509 (by decide +kernel) (by decide +kernel)) (by decide +kernel) (by decide) (GT_at 507 (by decide +kernel) (by decide +kernel)) (GT_at 508 (by decide +kernel) (by decide +kernel)) rfl rfl) (all_cons (clokV mt_X7_leastSmall rfl (GT_at 803 (by decide +kernel) (by decide +kernel)) (GT_at 44 (by decide +kernel) (by decide +kernel)) (GT_at 806 (by decide +kernel) (by decide +kernel)) (by decide +kernel) (by decide) (GT_at 804 (by decide +kernel) (by decide +kernel)) (GT_at 805 (by decide +kernel) (by decide +kernel)) rfl rfl) (all_cons (clokV mt_X6_put rfl (GT_at 516 (by decide +kernel) (by decide +kernel)) (GT_at 38 (by decide +kernel) (by decide +kernel)) (GT_at 519 (by decide +kernel) (by decide +kernel)) (by decide +kernel) (by decide) (GT_at 517 (by decide +kernel) (by decide +kernel)) (GT_at 518 (by decide +kernel) (by decide +kernel)) rfl rfl) (all_cons (clokV mt_X7_put rfl (GT_at 807 (by decide +kernel) (by decide +kernel)) (GT_at 44 (by decide +kernel) (by decide +kernel)) (GT_at 810 (by decide +kernel) (by decide +kernel)) (by decide +kernel) (by decide) (GT_at 808 (by decide +kernel) (by decide +kernel)) (GT_at 809 (by decide +kernel) (by decide +kernel)) rfl rfl) (all_cons (clokV mt_X6_wipe rfl (GT_at 525 (by decide +kernel) (by decide +kernel)) (GT_at 38 (by decide +kernel) (by decide +kernel)) (GT_at 528 (by decide +kernel) (by decide +kernel)) (by decide +kernel) (by decide) (GT_at 526 (by decide +kernel) (by decide +kernel)) (GT_at 527 (by decide +kernel) (by decide +kernel)) rfl rfl) (all_cons (clokV mt_X7_wipe rfl (GT_at 817 (by decide +kernel) (by decide +kernel)) (GT_at 44 (by decide +kernel) (by decide +kernel)) (GT_at 820 (by decide +kernel) (by decide +kernel)) (by decide +kernel) (by decide) (GT_at 818 (by decide +kernel) (by decide +kernel)) (GT_at 819 (by decide +kernel) (by decide +kernel)) rfl rfl) (all_cons (clokV mt_X6_fault rfl (GT_at 529 (by decide +kernel) (by decide +kernel)) (GT_at 38 (by decide +kernel) (by decide +kernel)) (GT_at 532 (by decide +kernel) (by decide +kernel)) (by decide +kernel) (by decide) (GT_at 530 (by decide +kernel) (by decide +kernel)) (GT_at 531 (by decide +kernel) (by decide +kernel)) rfl rfl) (all_cons (clokV mt_X7_fault rfl (GT_at 821 (by decide +kernel) (by decide +kernel)) (GT_at 44 (by decide +kernel) (by decide +kernel)) (GT_at 636 (by decide +kernel) (by decide +kernel)) (by decide +kernel) (by decide) (GT_at 634 (by decide +kernel) (by decide +kernel)) (GT_at 635 (by decide +kernel) (by decide +kernel)) rfl rfl) (all_cons (clokV mt_X6_undo rfl (GT_at 533 (by decide +kernel) (by decide +kernel)) (GT_at 38 (by decide +kernel) (by decide +kernel)) (GT_at 536 (by decide +kernel) (by decide +kernel)) (by decide +kernel) (by decide) (GT_at 534 (by decide +kernel) (by decide +kernel)) (GT_at 535 (by decide +kernel) (by decide +kernel)) rfl rfl) (all_cons (clokV mt_X7_undo rfl (GT_at 822 (by decide +kernel) (by decide +kernel)) (GT_at 44 (by decide +kernel) (by decide +kernel)) (GT_at 825 (by decide +kernel) (by decide +kernel)) (by decide +kernel) (by decide) (GT_at 823 (by decide +kernel) (by decide +kernel)) (GT_at 824 (by decide +kernel) (by decide +kernel)) rfl rfl) (all_cons (clokV mt_X6_save rfl (GT_at 541 (by decide +kernel) (by decide +kernel)) (GT_at 38 (by decide +kernel) (by decide +kernel)) (GT_at 544 (by decide +kernel) (by decide +kernel)) (by decide +kernel) (by decide) (GT_at 542 (by decide +kernel) (by decide +kernel)) (GT_at 543 (by decide +kernel) (by decide +kernel)) rfl rfl) (all_cons (clokV mt_X7_save rfl (GT_at 826 (by decide +kernel) (by decide +kernel)) (GT_at 44 (by decide +kernel) (by decide +kernel)) (GT_at 829 (by decide +kernel) (by decide +kernel)) (by decide +kernel) (by decide) (GT_at 827 (by decide +kernel) (by decide +kernel)) (GT_at 828 (by decide +kernel) (by decide +kernel)) rfl rfl) (all_cons (clokV mt_X6_restore rfl (GT_at 545 (by decide +kernel) (by decide +kernel)) (GT_at 38 (by decide +kernel) (by decide +kernel)) (GT_at 548 (by decide +kernel) (by decide +kernel)) (by decide +kernel) (by decide) (GT_at 546 (by decide +kernel) (by decide +kernel)) (GT_at 547 (by decide +kernel) (by decide +kernel)) rfl rfl) (all_cons (clokV mt_X7_restoreB rfl (GT_at 833 (by decide +kernel) (by decide +kernel)) (GT_at 44 (by decide +kernel) (by decide +kernel)) (GT_at 836 (by decide +kernel) (by decide +kernel)) (by decide +kernel) (by decide) (GT_at 834 (by decide +kernel) (by decide +kernel)) (GT_at 835 (by decide +kernel) (by decide +kernel)) rfl rfl) (all_nil))))))))))))))))))))))))))))))))))))))))))))))))))
set_option maxRecDepth 100000 in
set_option maxHeartbeats 4000000 in
theorem whole_start {p : Program} {e : Env} {s : State} {m : MethodId} {below : List Frame} {meth : Method} {c : Code} (l : Launch) (hflags : l.flags = flags0) {b L : Nat} {xs : Nat → Int32} (hL : L ≤ 2560) (C0 : lw_At p s m meth c b L xs) : W p l e room_1 s m #[Value.ref b] below meth c s.heap [] 0 0 (lw_Z below #[Value.ref b] s) (entryFrame m ([Value.ref b] : List Value).toArray 4) := by
  obtain ⟨hx, hb, hr, hml, hown, hts, hX, hbl, hlocks, hgv⟩ := id C0
  have hG : ∀ w ∈ GT, w.before #[Value.ref b] s = true := fun w hw => hts w (mem_GT.mp hw).1
  have hs := flat_of_before _ hgv
  obtain ⟨scr, hscr⟩ : ∃ scr : Int → Int, scr = fun k => (xs k.toNat).toInt := ⟨_, rfl⟩
  have hsc : ∀ k, inr (xcF scr 0 k) := fun k => by
    rw [hscr]
    exact inr_toInt _
  obtain ⟨t1, ev1, T1⟩ := va_Tof (args := #[Value.ref b]) (s := s) (tm := (.static "DoubtfulTrunks" "LEAST_SETTINGS" "[I")) (ty := .int) (N := 6) (f := fun j => .int (Int32.ofInt (nt_ (xcF scr 1) j))) (A := fun q : Nat => s.heap.size ≤ q) (by decide) (hs (.arrayOf (.static "DoubtfulTrunks" "LEAST_SETTINGS" "[I") .int) (by decide +kernel)) (va_eqv (hs (.eq (.length (.static "DoubtfulTrunks" "LEAST_SETTINGS" "[I")) (.int 6)) (by decide +kernel)) rfl) (fun j hj => by
    rcases (show j = 0 ∨ j = 1 ∨ j = 2 ∨ j = 3 ∨ j = 4 ∨ j = 5 by omega) with rfl | rfl | rfl | rfl | rfl | rfl
    · exact va_eqv (u := .int 0) (hs (.eq (.elem (.static "DoubtfulTrunks" "LEAST_SETTINGS" "[I") (.int 0)) (.int 0)) (by decide +kernel)) rfl
    · exact va_eqv (u := .int 0) (hs (.eq (.elem (.static "DoubtfulTrunks" "LEAST_SETTINGS" "[I") (.int 1)) (.int 0)) (by decide +kernel)) rfl
    · exact va_eqv (u := .int 0) (hs (.eq (.elem (.static "DoubtfulTrunks" "LEAST_SETTINGS" "[I") (.int 2)) (.int 0)) (by decide +kernel)) rfl
    · exact va_eqv (u := .int 0) (hs (.eq (.elem (.static "DoubtfulTrunks" "LEAST_SETTINGS" "[I") (.int 3)) (.int 0)) (by decide +kernel)) rfl
    · exact va_eqv (u := .int 0) (hs (.eq (.elem (.static "DoubtfulTrunks" "LEAST_SETTINGS" "[I") (.int 4)) (.int 0)) (by decide +kernel)) rfl
    · exact va_eqv (u := .int 1) (hs (.eq (.elem (.static "DoubtfulTrunks" "LEAST_SETTINGS" "[I") (.int 5)) (.int 1)) (by decide +kernel)) rfl) (fun a h z => Nat.not_le.mpr h z)
  have Z1 : va_Z "DoubtfulTrunks" "LEAST_SETTINGS" "[I" (.ref t1) (fun q : Nat => s.heap.size ≤ q) s s.heap := va_Zof (hts _ (List.mem_of_getElem? (i := 254) (by decide +kernel))) (hG _ (GT_at 38 (by decide +kernel) (by decide +kernel))) ev1 (fun a h z => Nat.not_le.mpr h z)
  obtain ⟨t2, ev2, T2⟩ := va_Tof (args := #[Value.ref b]) (s := s) (tm := (.static "DoubtfulTrunks" "MOST_SETTINGS" "[I")) (ty := .int) (N := 6) (f := fun j => .int (Int32.ofInt (nt_ (xcF scr 2) j))) (A := fun q : Nat => s.heap.size ≤ q) (by decide) (hs (.arrayOf (.static "DoubtfulTrunks" "MOST_SETTINGS" "[I") .int) (by decide +kernel)) (va_eqv (hs (.eq (.length (.static "DoubtfulTrunks" "MOST_SETTINGS" "[I")) (.int 6)) (by decide +kernel)) rfl) (fun j hj => by
    rcases (show j = 0 ∨ j = 1 ∨ j = 2 ∨ j = 3 ∨ j = 4 ∨ j = 5 by omega) with rfl | rfl | rfl | rfl | rfl | rfl
    · exact va_eqv (u := .int 200) (hs (.eq (.elem (.static "DoubtfulTrunks" "MOST_SETTINGS" "[I") (.int 0)) (.int 200)) (by decide +kernel)) rfl
    · exact va_eqv (u := .int 50) (hs (.eq (.elem (.static "DoubtfulTrunks" "MOST_SETTINGS" "[I") (.int 1)) (.int 50)) (by decide +kernel)) rfl
    · exact va_eqv (u := .int 90) (hs (.eq (.elem (.static "DoubtfulTrunks" "MOST_SETTINGS" "[I") (.int 2)) (.int 90)) (by decide +kernel)) rfl
    · exact va_eqv (u := .int 20) (hs (.eq (.elem (.static "DoubtfulTrunks" "MOST_SETTINGS" "[I") (.int 3)) (.int 20)) (by decide +kernel)) rfl
    · exact va_eqv (u := .int 9) (hs (.eq (.elem (.static "DoubtfulTrunks" "MOST_SETTINGS" "[I") (.int 4)) (.int 9)) (by decide +kernel)) rfl
    · exact va_eqv (u := .int 4) (hs (.eq (.elem (.static "DoubtfulTrunks" "MOST_SETTINGS" "[I") (.int 5)) (.int 4)) (by decide +kernel)) rfl) (fun a h z => Nat.not_le.mpr h z)
  have Z2 : va_Z "DoubtfulTrunks" "MOST_SETTINGS" "[I" (.ref t2) (fun q : Nat => s.heap.size ≤ q) s s.heap := va_Zof (hts _ (List.mem_of_getElem? (i := 256) (by decide +kernel))) (hG _ (GT_at 38 (by decide +kernel) (by decide +kernel))) ev2 (fun a h z => Nat.not_le.mpr h z)
  have hKn : ∀ ci, ∃ q : ClassId × (Nat → Nat), ci < 8 → u_Kn s (RC ci) (TC ci) (nfC ci) q.1 q.2 := fun ci => by
    match ci with
    | 0 =>
      obtain ⟨a, d, h⟩ := u_known (C := RC 0) (T := TC 0) (N := nfC 0) (n := 5) hG (clsW (ci := 0) (by decide)) (hG _ (GT_at 65 (by decide +kernel) (by decide +kernel)))
      exact ⟨(a, d), fun _ => h⟩
    | 1 =>
      obtain ⟨a, d, h⟩ := u_known (C := RC 1) (T := TC 1) (N := nfC 1) (n := 3) hG (clsW (ci := 1) (by decide)) (hG _ (GT_at 181 (by decide +kernel) (by decide +kernel)))
      exact ⟨(a, d), fun _ => h⟩
    | 2 =>
      obtain ⟨a, d, h⟩ := u_known (C := RC 2) (T := TC 2) (N := nfC 2) (n := 5) hG (clsW (ci := 2) (by decide)) (hG _ (GT_at 201 (by decide +kernel) (by decide +kernel)))
      exact ⟨(a, d), fun _ => h⟩
    | 3 =>
      obtain ⟨a, d, h⟩ := u_known (C := RC 3) (T := TC 3) (N := nfC 3) (n := 5) hG (clsW (ci := 3) (by decide)) (hG _ (GT_at 65 (by decide +kernel) (by decide +kernel)))
      exact ⟨(a, d), fun _ => h⟩
    | 4 =>
      obtain ⟨a, d, h⟩ := u_known (C := RC 4) (T := TC 4) (N := nfC 4) (n := 9) hG (clsW (ci := 4) (by decide)) (hG _ (GT_at 58 (by decide +kernel) (by decide +kernel)))
      exact ⟨(a, d), fun _ => h⟩
    | 5 =>
      obtain ⟨a, d, h⟩ := u_known (C := RC 5) (T := TC 5) (N := nfC 5) (n := 8) hG (clsW (ci := 5) (by decide)) (hG _ (GT_at 97 (by decide +kernel) (by decide +kernel)))
      exact ⟨(a, d), fun _ => h⟩
    | 6 =>
      obtain ⟨a, d, h⟩ := u_known (C := RC 6) (T := TC 6) (N := nfC 6) (n := 6) hG (clsW (ci := 6) (by decide)) (hG _ (GT_at 50 (by decide +kernel) (by decide +kernel)))
      exact ⟨(a, d), fun _ => h⟩
    | 7 =>
      obtain ⟨a, d, h⟩ := u_known (C := RC 7) (T := TC 7) (N := nfC 7) (n := 7) hG (clsW (ci := 7) (by decide)) (hG _ (GT_at 550 (by decide +kernel) (by decide +kernel)))
      exact ⟨(a, d), fun _ => h⟩
    | n + 8 => exact ⟨(0, fun _ => 0), fun h => by omega⟩
  obtain ⟨D, hDk⟩ : ∃ D : va_G, ∀ ci, ci < 8 → u_Kn s (RC ci) (TC ci) (nfC ci) (D.1 ci) (D.2 ci) := ⟨(fun ci => (Classical.choose (hKn ci)).1, fun ci => (Classical.choose (hKn ci)).2), fun ci h => Classical.choose_spec (hKn ci) h⟩
  obtain ⟨c0, k0, m0, f01, f02, f03⟩ := Cond.arrayClass_spec (type := .int) (hG _ (GT_at 95 (by decide +kernel) (by decide +kernel)))
  obtain ⟨c1, k1, m1, f11, f12, f13⟩ := Cond.arrayClass_spec (type := .char) (hG _ (GT_at 226 (by decide +kernel) (by decide +kernel)))
  obtain ⟨c2, k2, m2, f21, f22, f23⟩ := Cond.arrayClass_spec (type := .boolean) (hG _ (GT_at 225 (by decide +kernel) (by decide +kernel)))
  have a3 : va_AOA .int s := hts (.arrayOver (.array .int)) (List.mem_of_getElem? (i := 103) (by decide +kernel))
  have a4 : va_AO RX4 s := hts (.arrayOver (.object RX4)) (List.mem_of_getElem? (i := 187) (by decide +kernel))
  have a5 : va_AO RX0 s := hts (.arrayOver (.object RX0)) (List.mem_of_getElem? (i := 64) (by decide +kernel))
  obtain ⟨m3, c3, k3, f31, -, f32, f33, f34⟩ := aoA_spec a3
  obtain ⟨m4, c4, k4, f41, -, f42, f43, f44⟩ := Cond.arrayOver_spec a4
  obtain ⟨m5, c5, k5, f51, -, f52, f53, f54⟩ := Cond.arrayOver_spec a5
  obtain ⟨cA, hcA⟩ : ∃ cA : Nat → ClassId, cA = fun i => [c0, c1, c2, c3, c4, c5].getD i 0 := ⟨_, rfl⟩
  have hK : va_K D clsL (tysL cA) s := by
    refine ⟨fun ci q hq => ?_, fun k q hq => ?_⟩
    · have h8 : ci < 8 := (List.getElem?_eq_some_iff.mp hq).1
      rw [clsL_at h8] at hq
      cases hq
      exact hDk ci h8
    · have h6 : k < 6 := (List.getElem?_eq_some_iff.mp hq).1
      rw [tysL_at cA h6] at hq
      cases hq
      subst hcA
      rcases (show k = 0 ∨ k = 1 ∨ k = 2 ∨ k = 3 ∨ k = 4 ∨ k = 5 by omega) with rfl | rfl | rfl | rfl | rfl | rfl
      · exact ⟨fun n z => ⟨fun k h => (by cases h), k0, f02, m0, f03⟩, f01⟩
      · exact ⟨fun n z => ⟨fun k h => (by cases h), k1, f12, m1, f13⟩, f11⟩
      · exact ⟨fun n z => ⟨fun k h => (by cases h), k2, f22, m2, f23⟩, f21⟩
      · exact ⟨fun n z => ⟨fun k h => (by cases h), k3, f32, m3, f33⟩, f34⟩
      · exact ⟨fun n z => ⟨fun k h => (by cases h), k4, f42, m4, f43⟩, k4, m4, f42, f43, f41, f44⟩
      · exact ⟨fun n z => ⟨fun k h => (by cases h), k5, f52, m5, f53⟩, k5, m5, f52, f53, f51, f54⟩
  have hNl : ∀ q ∈ NLt, va_Nw (.methodLinkNest q.1 q.2.1 q.2.2.1 q.2.2.2) s := by
    have key : NLt.all (fun q => decide (Cond.methodLinkNest q.1 q.2.1 q.2.2.1 q.2.2.2 ∈ lw_tbl)) = true := by decide +kernel
    intro q hq
    have := List.all_eq_true.mp key q hq
    exact va_Nw.of rfl (hts _ (by simpa using this))
  have hKA : KA D cA s := ⟨hK, a4, a5, a3, hNl⟩
  have hA : ∀ q : Nat, s.heap.size ≤ q → (fun q : Nat => s.heap.size ≤ q) q := fun _ h => h
  have F : CX p s m #[Value.ref b] meth c R_law code 4 room_1 D cA (fun q : Nat => s.heap.size ≤ q) s.heap := ⟨hx, hb, hml, hown, hG, hKA, hA, (Nat.le_of_ble_eq_true rfl), (Nat.le_of_ble_eq_true rfl)⟩
  have hW : WB D (fun q : Nat => s.heap.size ≤ q) s.heap [] s.heap [] := ⟨fun k q h => by simp at h, ⟨fun i j p q h => by simp at h, fun k q h => by simp at h⟩, va_S.rf⟩
  have hl := lv_entry ([.ref b]) (n := 4) (Nat.le_of_ble_eq_true rfl)
  rw [lg_entry_eq]
  generalize (lg_sl ([.ref b]) ++ List.replicate (4 - (lg_sl ([.ref b])).length) Slot.unset).toArray = ls at hl ⊢
  have hl : lv_has ls 4 [(0, .ref b)] := hl
  refine c_new F 6 (by decide) (fs := [.null, .null, .null, .null, .null, .null]) (GT_at 49 (by decide +kernel) (by decide +kernel)) (GT_at 50 (by decide +kernel) (by decide +kernel)) (GT_at 38 (by decide +kernel) (by decide +kernel)) (fun j hj => by rcases (show j = 0 ∨ j = 1 ∨ j = 2 ∨ j = 3 ∨ j = 4 ∨ j = 5 by have hj : j < 6 := hj; omega) with rfl | rfl | rfl | rfl | rfl | rfl <;> rfl) hW (Nat.le_of_ble_eq_true rfl) (Nat.le_of_ble_eq_true rfl) (by decide +kernel : decode code 0 = .ok (.new 7, 3)) (fun q1 H hW => ?_)
  refine lv_dup hx hb (by decide +kernel : decode code 3 = .ok (.dup, 1)) rfl ?_
  refine c_init F (io_X6_init l D cA) (GT_at 51 (by decide +kernel) (by decide +kernel)) (GT_at 38 (by decide +kernel) (by decide +kernel)) (GT_at 53 (by decide +kernel) (by decide +kernel)) (GT_at 52 (by decide +kernel) (by decide +kernel)) rfl (by decide +kernel) ⟨(Nat.le_of_ble_eq_true rfl), (Nat.le_of_ble_eq_true rfl)⟩ hW hl.1 (Nat.le_of_ble_eq_true rfl) (Nat.le_of_ble_eq_true rfl) (Nat.le_of_ble_eq_true rfl) (by decide +kernel : decode code 4 = .ok (.invokespecial 9, 3)) (fun ad H locs e1 hW2 => ?_)
  subst e1
  refine lv_astore_n (lv' := [(1, .ref (ad 0)), (0, .ref b)]) hx hb (by decide +kernel : decode code 7 = .ok (.astore_n 1, 1)) rfl hl (by decide) rfl (fun ls hl => ?_)
  refine c_new F 7 (by decide) (fs := [.null, .int 0, .null, .null, .int 0, .int 0, .int 0]) (GT_at 549 (by decide +kernel) (by decide +kernel)) (GT_at 550 (by decide +kernel) (by decide +kernel)) (GT_at 44 (by decide +kernel) (by decide +kernel)) (fun j hj => by rcases (show j = 0 ∨ j = 1 ∨ j = 2 ∨ j = 3 ∨ j = 4 ∨ j = 5 ∨ j = 6 by have hj : j < 7 := hj; omega) with rfl | rfl | rfl | rfl | rfl | rfl | rfl <;> rfl) hW2 (Nat.le_of_ble_eq_true rfl) (Nat.le_of_ble_eq_true rfl) (by decide +kernel : decode code 8 = .ok (.new 10, 3)) (fun q2 H hW3 => ?_)
  refine lv_dup hx hb (by decide +kernel : decode code 11 = .ok (.dup, 1)) rfl ?_
  refine c_init F (io_X7_init l D cA) (GT_at 551 (by decide +kernel) (by decide +kernel)) (GT_at 44 (by decide +kernel) (by decide +kernel)) (GT_at 553 (by decide +kernel) (by decide +kernel)) (GT_at 552 (by decide +kernel) (by decide +kernel)) rfl (by decide +kernel) ⟨(Nat.le_of_ble_eq_true rfl), (Nat.le_of_ble_eq_true rfl)⟩ hW3 hl.1 (Nat.le_of_ble_eq_true rfl) (Nat.le_of_ble_eq_true rfl) (Nat.le_of_ble_eq_true rfl) (by decide +kernel : decode code 12 = .ok (.invokespecial 12, 3)) (fun am H locs e2 hW4 => ?_)
  subst e2
  refine lv_astore_n (lv' := [(2, .ref (am 0)), (1, .ref (ad 0)), (0, .ref b)]) hx hb (by decide +kernel : decode code 15 = .ok (.astore_n 2, 1)) rfl hl (by decide) rfl (fun ls hl => ?_)
  refine lv_iconst (v := 0) hx hb (by decide +kernel : decode code 16 = .ok (.iconst 0, 1)) (by decide) ?_
  refine lv_istore_n (lv' := [(3, .int 0), (2, .ref (am 0)), (1, .ref (ad 0)), (0, .ref b)]) hx hb (by decide +kernel : decode code 17 = .ok (.istore_n 3, 1)) rfl hl (by decide) rfl (fun ls hl => ?_)
  refine W.widen (k := 188) (n := 10882) (Nat.le_of_ble_eq_true rfl) (Nat.le_of_ble_eq_true rfl) ?_
  obtain ⟨f, hf⟩ : ∃ f : Nat → Nat, f = fun i => if i < 184 then ad i else am (i - 184) := ⟨_, rfl⟩
  have hW5 : WB D (fun q : Nat => s.heap.size ≤ q) s.heap (WA f cA) H locs := by
    rw [hf]
    exact hW4
  have had := WA_ad b t1 t2 hW5.2.1
  have hPw := WA_P b t1 t2 L hW5.1
  have hLR : LR (ADf b t1 t2 f) 4 [wR 0, wR 3, wR 11, wI 0] ls := by
    refine ⟨_, hl, rfl, fun i v h => ?_⟩
    rw [hf]
    match i, h with
    | 0, h => cases h; exact List.mem_of_getElem? (i := 3) rfl
    | 1, h => cases h; exact List.mem_of_getElem? (i := 2) rfl
    | 2, h => cases h; exact List.mem_of_getElem? (i := 1) rfl
    | 3, h => cases h; exact List.mem_of_getElem? (i := 0) rfl
    | n + 4, h => simp at h
  have hE : Ext (ADf b t1 t2 f) L (xcF scr) (fun q : Nat => s.heap.size ≤ q) s s.heap := by
    refine ⟨fun r h => ?_, Z1, Z2⟩
    rcases (show r = 0 ∨ r = 1 ∨ r = 2 by omega) with rfl | rfl | rfl
    · obtain ⟨cell, g1, g2, g3, g4, g5⟩ := hX
      refine ⟨cell, g1, g2, g3, Nat.le_of_eq g4.symm, by rw [g4]; rfl, fun j hj => ?_, Nat.not_le.mpr hbl⟩
      rw [g5 j hj, hscr]
      show some (Value.int (xs j)) = some (Value.int (Int32.ofInt (xs ((j : Int)).toNat).toInt))
      rw [Int.toNat_natCast, Int32.ofInt_toInt]
    · exact T1
    · exact T2
  have F2 : Fx sx_L_law L scr p s m #[Value.ref b] c RL code 4 room_1 188 10882 D cA (ADf b t1 t2 f) (fun q : Nat => s.heap.size ≤ q) :=
    ⟨hx, hb, hml, hown, hG, hK, had, hE, by omega, law_tb, fdL_ok, kLL_ok, kIL_ok, sgL_ok, ntL_ok, law_cl, (Nat.le_of_ble_eq_true rfl), (Nat.le_of_ble_eq_true rfl), (Nat.le_of_ble_eq_true rfl), (Nat.le_of_ble_eq_true rfl)⟩
  refine law_18 L scr hL hsc L 0 M0 (by omega) (by omega) (by omega) M0_GI (JW p l e room_1 s m #[Value.ref b] below meth c 4 188 10882 (lw_Z below #[Value.ref b] s) D cA (ADf b t1 t2 f) (fun q : Nat => s.heap.size ≤ q) L) (sound F2 ?_ ?_) H locs ls hPw hW5.2.2 hLR
  · intro pc lp M x h1 h2 hq H locs ls hP hS hl
    have hq : x = 1 := hq
    subst hq
    have hdg := F2.2.2.2.2.2.2.2.2.2.1 _ (lk_mem h1)
    refine va_forget (fun q hq => hS.2.2 q hq) ?_
    refine W.widen (k := 600000) (n := 7302250) (Nat.le_of_ble_eq_true rfl) (Nat.le_of_ble_eq_true rfl) ?_
    exact lw_ret hx hb hr hlocks hdg
  · intro pc lp M h1 h2 hq
    cases h2
set_option maxHeartbeats 4000000 in
theorem lw_walk (l : Launch) (hflags : l.flags = flags0) (b : Addr) (xs : List Int32) : MetFree l x (headSpec (Jvm.Cond.code x code maxLocals ret :: tables_1) room_1) (lw_P b xs) (fun _ _ _ _ _ => True) lw_Q := by
  refine MetFree.of_bodyS (code := code) (maxLocals := maxLocals) (ret := ret) (by decide) ?_ ?_
  · intro args s m h hn
    obtain ⟨meth, c, h1, h2, h3, h4, h5, h6, -, -⟩ := Cond.code_spec hn (atoms_spec (ws := Jvm.Cond.code x code maxLocals ret :: tables_1) h _ List.mem_cons_self)
    exact ⟨meth, c, h1, h2, h3, h4, h5, h6⟩
  · intro p e s m args below meth c s₁ B hml0 hP _
    obtain ⟨rfl, hx, hbd, hgv⟩ := hP
    obtain ⟨scr, harrAt, hlist, hof, hsmall⟩ := hx
    obtain ⟨hcb, hkn, -, -⟩ := State.arrayAt?_spec harrAt
    have hown : s.vm.findClass R_law = some m.cls := findClass_of_methodNamed B.named
    have hts0 : ∀ c ∈ (Jvm.Cond.code x code maxLocals ret :: tables_1), c.before #[Value.ref b] s = true := atoms_spec (ws := Jvm.Cond.code x code maxLocals ret :: tables_1) B.pre
    have hts : ∀ w ∈ lw_tbl, w.before #[Value.ref b] s = true := k2_hts_sels lw_privs (fun w hw => hts0 w (List.mem_cons_of_mem _ hw)) lw_privs_ok
    have hml : c.maxLocals = 4 := B.maxLocals_eq (hts0 _ List.mem_cons_self)
    have X₀ : Stand p l e room_1 s m #[Value.ref b] below meth c s₁ [] 0 0 := Stand.of_body B
    have hh0 : s₁.heap = s.heap := by rw [B.state]; rfl
    have hsz : scr.slots.size = xs.length := by rw [← Array.length_toList, hlist, List.length_map]
    have hval : ∀ j : Nat, j < xs.length → scr.slots[j]? = some (.int (xs.getD j 0)) := fun j hj => by
      rw [← Array.getElem?_toList, hlist]
      simp [hj]
    have hbl : b < s.heap.size := (Array.getElem?_eq_some_iff.mp hcb).1
    have hX : va_X b xs.length (fun j => xs.getD j 0) s s.heap := ⟨scr, hcb, hof, hkn, hsz, hval⟩
    have K : W p l e room_1 s m #[Value.ref b] below meth c s₁.heap [] 0 0 (lw_Z below #[Value.ref b] s) (entryFrame m ([Value.ref b] : List Value).toArray 4) := by
      rw [hh0]
      exact whole_start l hflags hbd ⟨B.exec, B.bytes, B.returns, hml, hown, hts, hX, hbl, B.notSynchronized, hgv⟩
    obtain ⟨t, a1, o, b1, b2, b3⟩ := K s₁ rfl X₀
    exact ⟨t, o, a1, b1, b2, b3⟩
theorem lw_pre_spec {args : Array Value} {s : State} (h : (Jvm.Cond.and given_1 narrow_1).before args s = true) (hr : rest_1_c.before args s = true) : ∃ (b : Addr) (xs : List Int32), lw_P b xs args s := by
  have hs := flat_of_before _ h
  have hq := flat_of_before _ hr
  have hc : (Cond.count 1).before args s = true := hs _ (by decide +kernel)
  have harr : (Cond.arrayOf (.arg 0) .int).before args s = true := hs _ (by decide +kernel)
  have hle : (Cond.le (.length (.arg 0)) (.int 2560)).before args s = true := hs _ (by decide +kernel)
  have hlen : (Cond.isInt (.length (.arg 0))).before args s = true := hq _ (by decide +kernel)
  have hall : (Cond.all (.arg 0) (.isInt (.elem (.arg 0) (.index 0)))).before args s = true := hq _ (by decide +kernel)
  obtain ⟨b, xs, hb, hx⟩ := State.ints_of_pre rfl harr hlen hall
  have hsm : xs.length < 2 ^ 31 := hx.choose_spec.2.2.2
  have hev : (Term.length (.arg 0)).eval args s none [] s = some (.int xs.length.toInt32) := hx.length_eval hb
  have hv := Cond.le_ints hev (show (Term.int 2560).eval args s none [] s = some (.int 2560) from rfl)
  have hd : xs.length.toInt32 ≤ 2560 := by
    simpa [Cond.before, Cond.holds, hv] using hle
  have hN : xs.length ≤ 2560 := (Int32.ofNat_le_ofNat hsm (by decide)).mp (show Int32.ofNat xs.length ≤ Int32.ofNat 2560 from hd)
  exact ⟨b, xs, Cond.one_arg hc (show args[0]? = some (.ref b) from hb), hx, hN, h⟩
theorem lw_comes (l : Launch) (hflags : l.flags = flags0) : Comes l x (Jvm.Cond.code x code maxLocals ret :: tables_1) room_1 (fun tb e args s => Calls_1 tb e args s ∧ rest_1 tb e args s ∧ Pre_1 tb e args s)
    (fun _ _ args s o t => lw_Q args s o t) := by
  intro p e ha hc hk s m args below hf hfit hheap happ hpre
  obtain ⟨b, xs, hP⟩ := lw_pre_spec hpre.2.2 hpre.2.1
  obtain ⟨k, o, h1, h2, h3, hQ⟩ := lw_walk l hflags b xs p e ha hc hk s m args below hf ((Spec.applies_iff_loose hf).mp happ).1 hP trivial
  exact ⟨k, o, h1, h2, h3, hQ⟩
theorem lw_frame {s t : State} {o : Outcome} {args : Array Value} (h : Framed s o t [] 600000 7302250) :
    Framed s o t (fieldLocs frame_1_writes args s ++ arrayLocs frame_1_arrays args s ++ staticLocs frame_1_statics s) 600000 7302250 := h
theorem lw_limb (L : Cond) (hL : ∀ (args : Array Value) (s t : State), L.after args s (.returned (some (.int 1))) t = true) :
    ArmFor flags0 classFile x code maxLocals ret World_1 tables_1 room_1 Calls_1 rest_1 Pre_1
      (fun tb e a s o t => postC L tb e a s o t ∧ Framed s o t (fieldLocs frame_1_writes a s ++ arrayLocs frame_1_arrays a s ++ staticLocs frame_1_statics s) 600000 7302250) := by
  intro l hflags _ _ p e ha hc hk s m args below hf hfit hheap happ hpre
  obtain ⟨k, o, h1, h2, h3, rfl, hF⟩ := lw_comes l hflags p e ha hc hk s m args below hf hfit hheap happ hpre
  exact ⟨k, _, h1, h2, h3, hL args s _, lw_frame hF⟩
theorem i_vc : Claimed_1_1 ∧ Claimed_1_2 := ⟨lw_limb limb_1_1 (fun args s t => by simp [limb_1_1, Cond.after, Cond.holds, Cond.value]), lw_limb limb_1_2 (fun args s t => Cond.after_iff.mpr (by
  first | (rw [show limb_1_2 = Cond.eq .result (.int 1) from rfl, Cond.eq_ints (x := 1) (y := 1) rfl rfl]; simp; done) | (simp [limb_1_2, Cond.value, Term.eval]; done)))⟩
