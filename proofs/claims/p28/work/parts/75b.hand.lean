def tk_L_handB (e : Nat × (Instr × Nat)) : Bool := decide (decode cL_hand e.1 = .ok e.2)
theorem tk_L_hand_t0 : ((tb_L_hand.drop 0).take 10).all tk_L_handB = true := by decide +kernel
theorem tk_L_hand_t10 : ((tb_L_hand.drop 10).take 10).all tk_L_handB = true := by decide +kernel
theorem tk_L_hand_t20 : ((tb_L_hand.drop 20).take 10).all tk_L_handB = true := by decide +kernel
theorem tk_L_hand_t30 : ((tb_L_hand.drop 30).take 10).all tk_L_handB = true := by decide +kernel
theorem tk_L_hand_t40 : ((tb_L_hand.drop 40).take 10).all tk_L_handB = true := by decide +kernel
theorem tk_L_hand_t50 : ((tb_L_hand.drop 50).take 10).all tk_L_handB = true := by decide +kernel
theorem tk_L_hand_t60 : ((tb_L_hand.drop 60).take 10).all tk_L_handB = true := by decide +kernel
theorem tk_L_hand_t70 : ((tb_L_hand.drop 70).take 10).all tk_L_handB = true := by decide +kernel
theorem tk_L_hand_t80 : ((tb_L_hand.drop 80).take 10).all tk_L_handB = true := by decide +kernel
theorem tk_L_hand_d90 : (tb_L_hand.drop 90).all tk_L_handB = true := by decide +kernel
theorem tk_L_hand_d80 : (tb_L_hand.drop 80).all tk_L_handB = true := all_ch 10 tk_L_hand_t80 (by rw [List.drop_drop]; exact tk_L_hand_d90)
theorem tk_L_hand_d70 : (tb_L_hand.drop 70).all tk_L_handB = true := all_ch 10 tk_L_hand_t70 (by rw [List.drop_drop]; exact tk_L_hand_d80)
theorem tk_L_hand_d60 : (tb_L_hand.drop 60).all tk_L_handB = true := all_ch 10 tk_L_hand_t60 (by rw [List.drop_drop]; exact tk_L_hand_d70)
theorem tk_L_hand_d50 : (tb_L_hand.drop 50).all tk_L_handB = true := all_ch 10 tk_L_hand_t50 (by rw [List.drop_drop]; exact tk_L_hand_d60)
theorem tk_L_hand_d40 : (tb_L_hand.drop 40).all tk_L_handB = true := all_ch 10 tk_L_hand_t40 (by rw [List.drop_drop]; exact tk_L_hand_d50)
theorem tk_L_hand_d30 : (tb_L_hand.drop 30).all tk_L_handB = true := all_ch 10 tk_L_hand_t30 (by rw [List.drop_drop]; exact tk_L_hand_d40)
theorem tk_L_hand_d20 : (tb_L_hand.drop 20).all tk_L_handB = true := all_ch 10 tk_L_hand_t20 (by rw [List.drop_drop]; exact tk_L_hand_d30)
theorem tk_L_hand_d10 : (tb_L_hand.drop 10).all tk_L_handB = true := all_ch 10 tk_L_hand_t10 (by rw [List.drop_drop]; exact tk_L_hand_d20)
theorem tk_L_hand_d0 : (tb_L_hand.drop 0).all tk_L_handB = true := all_ch 10 tk_L_hand_t0 (by rw [List.drop_drop]; exact tk_L_hand_d10)
theorem tk_L_hand : tb_L_hand.all (fun e => decide (decode cL_hand e.1 = .ok e.2)) = true := tk_L_hand_d0
set_option maxRecDepth 100000 in
set_option maxHeartbeats 1000000 in
theorem mt_L_hand : Mt2 yL_hand cL_hand 11 (some .boolean) 7 C_L_hand := by
  refine mt2_of sx_L_hand (by decide +kernel) (Or.inr (Or.inl ⟨rfl, rfl, rfl⟩)) tk_L_hand kLL_ok kIL_ok
    (all_cons (lc_bestHand (by decide)) (all_cons (lc_ifTurned (by decide)) (all_cons (lc_desk (by decide)) (all_cons (lc_hands (by decide)) (all_cons (lc_undo (by decide)) (all_nil))))))
    (all_cons (lw_L_print mt_L_print (by decide)) (all_nil)) ?_ ?_
  · rintro as M - ⟨o, rfl, hp⟩
    exact Nat.le_of_ble_eq_true rfl
  · rintro L scr as M hL - ⟨o, rfl, hp⟩
    exact Run2.mono (fun x M' h _ e => by cases e; exact h) (ok_L_hand L scr hL o M hp)
