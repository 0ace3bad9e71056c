def tk_L_goesB (e : Nat × (Instr × Nat)) : Bool := decide (decode cL_goes e.1 = .ok e.2)
theorem tk_L_goes_t0 : ((tb_L_goes.drop 0).take 10).all tk_L_goesB = true := by decide +kernel
theorem tk_L_goes_t10 : ((tb_L_goes.drop 10).take 10).all tk_L_goesB = true := by decide +kernel
theorem tk_L_goes_t20 : ((tb_L_goes.drop 20).take 10).all tk_L_goesB = true := by decide +kernel
theorem tk_L_goes_t30 : ((tb_L_goes.drop 30).take 10).all tk_L_goesB = true := by decide +kernel
theorem tk_L_goes_t40 : ((tb_L_goes.drop 40).take 10).all tk_L_goesB = true := by decide +kernel
theorem tk_L_goes_t50 : ((tb_L_goes.drop 50).take 10).all tk_L_goesB = true := by decide +kernel
theorem tk_L_goes_t60 : ((tb_L_goes.drop 60).take 10).all tk_L_goesB = true := by decide +kernel
theorem tk_L_goes_t70 : ((tb_L_goes.drop 70).take 10).all tk_L_goesB = true := by decide +kernel
theorem tk_L_goes_t80 : ((tb_L_goes.drop 80).take 10).all tk_L_goesB = true := by decide +kernel
theorem tk_L_goes_t90 : ((tb_L_goes.drop 90).take 10).all tk_L_goesB = true := by decide +kernel
theorem tk_L_goes_t100 : ((tb_L_goes.drop 100).take 10).all tk_L_goesB = true := by decide +kernel
theorem tk_L_goes_d110 : (tb_L_goes.drop 110).all tk_L_goesB = true := by decide +kernel
theorem tk_L_goes_d100 : (tb_L_goes.drop 100).all tk_L_goesB = true := all_ch 10 tk_L_goes_t100 (by rw [List.drop_drop]; exact tk_L_goes_d110)
theorem tk_L_goes_d90 : (tb_L_goes.drop 90).all tk_L_goesB = true := all_ch 10 tk_L_goes_t90 (by rw [List.drop_drop]; exact tk_L_goes_d100)
theorem tk_L_goes_d80 : (tb_L_goes.drop 80).all tk_L_goesB = true := all_ch 10 tk_L_goes_t80 (by rw [List.drop_drop]; exact tk_L_goes_d90)
theorem tk_L_goes_d70 : (tb_L_goes.drop 70).all tk_L_goesB = true := all_ch 10 tk_L_goes_t70 (by rw [List.drop_drop]; exact tk_L_goes_d80)
theorem tk_L_goes_d60 : (tb_L_goes.drop 60).all tk_L_goesB = true := all_ch 10 tk_L_goes_t60 (by rw [List.drop_drop]; exact tk_L_goes_d70)
theorem tk_L_goes_d50 : (tb_L_goes.drop 50).all tk_L_goesB = true := all_ch 10 tk_L_goes_t50 (by rw [List.drop_drop]; exact tk_L_goes_d60)
theorem tk_L_goes_d40 : (tb_L_goes.drop 40).all tk_L_goesB = true := all_ch 10 tk_L_goes_t40 (by rw [List.drop_drop]; exact tk_L_goes_d50)
theorem tk_L_goes_d30 : (tb_L_goes.drop 30).all tk_L_goesB = true := all_ch 10 tk_L_goes_t30 (by rw [List.drop_drop]; exact tk_L_goes_d40)
theorem tk_L_goes_d20 : (tb_L_goes.drop 20).all tk_L_goesB = true := all_ch 10 tk_L_goes_t20 (by rw [List.drop_drop]; exact tk_L_goes_d30)
theorem tk_L_goes_d10 : (tb_L_goes.drop 10).all tk_L_goesB = true := all_ch 10 tk_L_goes_t10 (by rw [List.drop_drop]; exact tk_L_goes_d20)
theorem tk_L_goes_d0 : (tb_L_goes.drop 0).all tk_L_goesB = true := all_ch 10 tk_L_goes_t0 (by rw [List.drop_drop]; exact tk_L_goes_d10)
theorem tk_L_goes : tb_L_goes.all (fun e => decide (decode cL_goes e.1 = .ok e.2)) = true := tk_L_goes_d0
set_option maxRecDepth 100000 in
set_option maxHeartbeats 1000000 in
theorem mt_L_goes : Mt2 yL_goes cL_goes 8 (some .boolean) 7 C_L_goes := by
  refine mt2_of sx_L_goes (by decide +kernel) (Or.inr (Or.inl ⟨rfl, rfl, rfl⟩)) tk_L_goes kLL_ok kIL_ok
    (all_cons (lc_count (by decide)) (all_cons (lc_trunk (by decide)) (all_cons (lc_sendBack (by decide)) (all_cons (lc_pieces (by decide)) (all_cons (lc_mend (by decide)) (all_cons (lc_fate (by decide)) (all_cons (lc_untilGone (by decide)) (all_cons (lc_undo (by decide)) (all_nil)))))))))
    (all_cons (lw_L_print mt_L_print (by decide)) (all_cons (lw_L_trunks mt_L_trunks (by decide)) (all_nil))) ?_ ?_
  · rintro as M - ⟨o, t, rfl, hp⟩
    exact Nat.le_of_ble_eq_true rfl
  · rintro L scr as M hL - ⟨o, t, rfl, hp⟩
    exact Run2.mono (fun x M' h _ _ e => by cases e; exact h) (ok_L_goes L scr hL o t M hp)
