def tk_L_actB (e : Nat × (Instr × Nat)) : Bool := decide (decode cL_act e.1 = .ok e.2)
theorem tk_L_act_t0 : ((tb_L_act.drop 0).take 10).all tk_L_actB = true := by decide +kernel
theorem tk_L_act_t10 : ((tb_L_act.drop 10).take 10).all tk_L_actB = true := by decide +kernel
theorem tk_L_act_t20 : ((tb_L_act.drop 20).take 10).all tk_L_actB = true := by decide +kernel
theorem tk_L_act_t30 : ((tb_L_act.drop 30).take 10).all tk_L_actB = true := by decide +kernel
theorem tk_L_act_t40 : ((tb_L_act.drop 40).take 10).all tk_L_actB = true := by decide +kernel
theorem tk_L_act_t50 : ((tb_L_act.drop 50).take 10).all tk_L_actB = true := by decide +kernel
theorem tk_L_act_t60 : ((tb_L_act.drop 60).take 10).all tk_L_actB = true := by decide +kernel
theorem tk_L_act_t70 : ((tb_L_act.drop 70).take 10).all tk_L_actB = true := by decide +kernel
theorem tk_L_act_t80 : ((tb_L_act.drop 80).take 10).all tk_L_actB = true := by decide +kernel
theorem tk_L_act_t90 : ((tb_L_act.drop 90).take 10).all tk_L_actB = true := by decide +kernel
theorem tk_L_act_t100 : ((tb_L_act.drop 100).take 10).all tk_L_actB = true := by decide +kernel
theorem tk_L_act_t110 : ((tb_L_act.drop 110).take 10).all tk_L_actB = true := by decide +kernel
theorem tk_L_act_t120 : ((tb_L_act.drop 120).take 10).all tk_L_actB = true := by decide +kernel
theorem tk_L_act_t130 : ((tb_L_act.drop 130).take 10).all tk_L_actB = true := by decide +kernel
theorem tk_L_act_t140 : ((tb_L_act.drop 140).take 10).all tk_L_actB = true := by decide +kernel
theorem tk_L_act_d150 : (tb_L_act.drop 150).all tk_L_actB = true := by decide +kernel
theorem tk_L_act_d140 : (tb_L_act.drop 140).all tk_L_actB = true := all_ch 10 tk_L_act_t140 (by rw [List.drop_drop]; exact tk_L_act_d150)
theorem tk_L_act_d130 : (tb_L_act.drop 130).all tk_L_actB = true := all_ch 10 tk_L_act_t130 (by rw [List.drop_drop]; exact tk_L_act_d140)
theorem tk_L_act_d120 : (tb_L_act.drop 120).all tk_L_actB = true := all_ch 10 tk_L_act_t120 (by rw [List.drop_drop]; exact tk_L_act_d130)
theorem tk_L_act_d110 : (tb_L_act.drop 110).all tk_L_actB = true := all_ch 10 tk_L_act_t110 (by rw [List.drop_drop]; exact tk_L_act_d120)
theorem tk_L_act_d100 : (tb_L_act.drop 100).all tk_L_actB = true := all_ch 10 tk_L_act_t100 (by rw [List.drop_drop]; exact tk_L_act_d110)
theorem tk_L_act_d90 : (tb_L_act.drop 90).all tk_L_actB = true := all_ch 10 tk_L_act_t90 (by rw [List.drop_drop]; exact tk_L_act_d100)
theorem tk_L_act_d80 : (tb_L_act.drop 80).all tk_L_actB = true := all_ch 10 tk_L_act_t80 (by rw [List.drop_drop]; exact tk_L_act_d90)
theorem tk_L_act_d70 : (tb_L_act.drop 70).all tk_L_actB = true := all_ch 10 tk_L_act_t70 (by rw [List.drop_drop]; exact tk_L_act_d80)
theorem tk_L_act_d60 : (tb_L_act.drop 60).all tk_L_actB = true := all_ch 10 tk_L_act_t60 (by rw [List.drop_drop]; exact tk_L_act_d70)
theorem tk_L_act_d50 : (tb_L_act.drop 50).all tk_L_actB = true := all_ch 10 tk_L_act_t50 (by rw [List.drop_drop]; exact tk_L_act_d60)
theorem tk_L_act_d40 : (tb_L_act.drop 40).all tk_L_actB = true := all_ch 10 tk_L_act_t40 (by rw [List.drop_drop]; exact tk_L_act_d50)
theorem tk_L_act_d30 : (tb_L_act.drop 30).all tk_L_actB = true := all_ch 10 tk_L_act_t30 (by rw [List.drop_drop]; exact tk_L_act_d40)
theorem tk_L_act_d20 : (tb_L_act.drop 20).all tk_L_actB = true := all_ch 10 tk_L_act_t20 (by rw [List.drop_drop]; exact tk_L_act_d30)
theorem tk_L_act_d10 : (tb_L_act.drop 10).all tk_L_actB = true := all_ch 10 tk_L_act_t10 (by rw [List.drop_drop]; exact tk_L_act_d20)
theorem tk_L_act_d0 : (tb_L_act.drop 0).all tk_L_actB = true := all_ch 10 tk_L_act_t0 (by rw [List.drop_drop]; exact tk_L_act_d10)
theorem tk_L_act : tb_L_act.all (fun e => decide (decode cL_act e.1 = .ok e.2)) = true := tk_L_act_d0
set_option maxRecDepth 100000 in
set_option maxHeartbeats 1000000 in
theorem mt_L_act : Mt2 yL_act cL_act 4 (some .int) 7 C_L_act := by
  refine mt2_of sx_L_act (by decide +kernel) (Or.inl ⟨rfl, rfl, rfl⟩) tk_L_act kLL_ok kIL_ok
    (all_cons (lc_read (by decide)) (all_cons (lc_set (by decide)) (all_cons (lc_weight (by decide)) (all_cons (lc_trust (by decide)) (all_cons (lc_hands (by decide)) (all_cons (lc_mend (by decide)) (all_cons (lc_sendBack (by decide)) (all_cons (lc_turn (by decide)) (all_nil)))))))))
    (all_cons (lw_L_low mt_L_low (by decide)) (all_cons (lw_L_types mt_L_types (by decide)) (all_nil))) ?_ ?_
  · rintro as M - ⟨o, a, c, rfl, hp⟩
    exact Nat.le_of_ble_eq_true rfl
  · rintro L scr as M hL - ⟨o, a, c, rfl, hp⟩
    exact Run2.mono (fun x M' h _ _ _ e => by cases e; exact h) (ok_L_act L scr hL o a c M hp)
