def tk_L_turnsB (e : Nat × (Instr × Nat)) : Bool := decide (decode cL_turns e.1 = .ok e.2)
theorem tk_L_turns_t0 : ((tb_L_turns.drop 0).take 10).all tk_L_turnsB = true := by decide +kernel
theorem tk_L_turns_t10 : ((tb_L_turns.drop 10).take 10).all tk_L_turnsB = true := by decide +kernel
theorem tk_L_turns_t20 : ((tb_L_turns.drop 20).take 10).all tk_L_turnsB = true := by decide +kernel
theorem tk_L_turns_t30 : ((tb_L_turns.drop 30).take 10).all tk_L_turnsB = true := by decide +kernel
theorem tk_L_turns_t40 : ((tb_L_turns.drop 40).take 10).all tk_L_turnsB = true := by decide +kernel
theorem tk_L_turns_t50 : ((tb_L_turns.drop 50).take 10).all tk_L_turnsB = true := by decide +kernel
theorem tk_L_turns_t60 : ((tb_L_turns.drop 60).take 10).all tk_L_turnsB = true := by decide +kernel
theorem tk_L_turns_t70 : ((tb_L_turns.drop 70).take 10).all tk_L_turnsB = true := by decide +kernel
theorem tk_L_turns_t80 : ((tb_L_turns.drop 80).take 10).all tk_L_turnsB = true := by decide +kernel
theorem tk_L_turns_t90 : ((tb_L_turns.drop 90).take 10).all tk_L_turnsB = true := by decide +kernel
theorem tk_L_turns_t100 : ((tb_L_turns.drop 100).take 10).all tk_L_turnsB = true := by decide +kernel
theorem tk_L_turns_t110 : ((tb_L_turns.drop 110).take 10).all tk_L_turnsB = true := by decide +kernel
theorem tk_L_turns_t120 : ((tb_L_turns.drop 120).take 10).all tk_L_turnsB = true := by decide +kernel
theorem tk_L_turns_t130 : ((tb_L_turns.drop 130).take 10).all tk_L_turnsB = true := by decide +kernel
theorem tk_L_turns_t140 : ((tb_L_turns.drop 140).take 10).all tk_L_turnsB = true := by decide +kernel
theorem tk_L_turns_t150 : ((tb_L_turns.drop 150).take 10).all tk_L_turnsB = true := by decide +kernel
theorem tk_L_turns_d160 : (tb_L_turns.drop 160).all tk_L_turnsB = true := by decide +kernel
theorem tk_L_turns_d150 : (tb_L_turns.drop 150).all tk_L_turnsB = true := all_ch 10 tk_L_turns_t150 (by rw [List.drop_drop]; exact tk_L_turns_d160)
theorem tk_L_turns_d140 : (tb_L_turns.drop 140).all tk_L_turnsB = true := all_ch 10 tk_L_turns_t140 (by rw [List.drop_drop]; exact tk_L_turns_d150)
theorem tk_L_turns_d130 : (tb_L_turns.drop 130).all tk_L_turnsB = true := all_ch 10 tk_L_turns_t130 (by rw [List.drop_drop]; exact tk_L_turns_d140)
theorem tk_L_turns_d120 : (tb_L_turns.drop 120).all tk_L_turnsB = true := all_ch 10 tk_L_turns_t120 (by rw [List.drop_drop]; exact tk_L_turns_d130)
theorem tk_L_turns_d110 : (tb_L_turns.drop 110).all tk_L_turnsB = true := all_ch 10 tk_L_turns_t110 (by rw [List.drop_drop]; exact tk_L_turns_d120)
theorem tk_L_turns_d100 : (tb_L_turns.drop 100).all tk_L_turnsB = true := all_ch 10 tk_L_turns_t100 (by rw [List.drop_drop]; exact tk_L_turns_d110)
theorem tk_L_turns_d90 : (tb_L_turns.drop 90).all tk_L_turnsB = true := all_ch 10 tk_L_turns_t90 (by rw [List.drop_drop]; exact tk_L_turns_d100)
theorem tk_L_turns_d80 : (tb_L_turns.drop 80).all tk_L_turnsB = true := all_ch 10 tk_L_turns_t80 (by rw [List.drop_drop]; exact tk_L_turns_d90)
theorem tk_L_turns_d70 : (tb_L_turns.drop 70).all tk_L_turnsB = true := all_ch 10 tk_L_turns_t70 (by rw [List.drop_drop]; exact tk_L_turns_d80)
theorem tk_L_turns_d60 : (tb_L_turns.drop 60).all tk_L_turnsB = true := all_ch 10 tk_L_turns_t60 (by rw [List.drop_drop]; exact tk_L_turns_d70)
theorem tk_L_turns_d50 : (tb_L_turns.drop 50).all tk_L_turnsB = true := all_ch 10 tk_L_turns_t50 (by rw [List.drop_drop]; exact tk_L_turns_d60)
theorem tk_L_turns_d40 : (tb_L_turns.drop 40).all tk_L_turnsB = true := all_ch 10 tk_L_turns_t40 (by rw [List.drop_drop]; exact tk_L_turns_d50)
theorem tk_L_turns_d30 : (tb_L_turns.drop 30).all tk_L_turnsB = true := all_ch 10 tk_L_turns_t30 (by rw [List.drop_drop]; exact tk_L_turns_d40)
theorem tk_L_turns_d20 : (tb_L_turns.drop 20).all tk_L_turnsB = true := all_ch 10 tk_L_turns_t20 (by rw [List.drop_drop]; exact tk_L_turns_d30)
theorem tk_L_turns_d10 : (tb_L_turns.drop 10).all tk_L_turnsB = true := all_ch 10 tk_L_turns_t10 (by rw [List.drop_drop]; exact tk_L_turns_d20)
theorem tk_L_turns_d0 : (tb_L_turns.drop 0).all tk_L_turnsB = true := all_ch 10 tk_L_turns_t0 (by rw [List.drop_drop]; exact tk_L_turns_d10)
theorem tk_L_turns : tb_L_turns.all (fun e => decide (decode cL_turns e.1 = .ok e.2)) = true := tk_L_turns_d0
set_option maxRecDepth 100000 in
set_option maxHeartbeats 1000000 in
theorem mt_L_turns : Mt2 yL_turns cL_turns 15 (some .boolean) 7 C_L_turns := by
  refine mt2_of sx_L_turns (by decide +kernel) (Or.inr (Or.inl ⟨rfl, rfl, rfl⟩)) tk_L_turns kLL_ok kIL_ok
    (all_cons (lc_ifTurned (by decide)) (all_cons (lc_untilGone (by decide)) (all_cons (lc_fate (by decide)) (all_cons (lc_count (by decide)) (all_cons (lc_turn (by decide)) (all_cons (lc_trunk (by decide)) (all_cons (lc_undo (by decide)) (all_nil))))))))
    (all_cons (lw_L_print mt_L_print (by decide)) (all_cons (lw_L_trunks mt_L_trunks (by decide)) (all_nil))) ?_ ?_
  · rintro as M - ⟨o, n, t, rfl, hp⟩
    exact Nat.le_of_ble_eq_true rfl
  · rintro L scr as M hL - ⟨o, n, t, rfl, hp⟩
    exact Run2.mono (fun x M' h _ _ _ e => by cases e; exact h) (ok_L_turns L scr hL o n t M hp)
