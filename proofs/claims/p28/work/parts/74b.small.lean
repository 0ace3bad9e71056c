def tk_L_smallB (e : Nat × (Instr × Nat)) : Bool := decide (decode cL_small e.1 = .ok e.2)
theorem tk_L_small_t0 : ((tb_L_small.drop 0).take 10).all tk_L_smallB = true := by decide +kernel
theorem tk_L_small_t10 : ((tb_L_small.drop 10).take 10).all tk_L_smallB = true := by decide +kernel
theorem tk_L_small_t20 : ((tb_L_small.drop 20).take 10).all tk_L_smallB = true := by decide +kernel
theorem tk_L_small_t30 : ((tb_L_small.drop 30).take 10).all tk_L_smallB = true := by decide +kernel
theorem tk_L_small_t40 : ((tb_L_small.drop 40).take 10).all tk_L_smallB = true := by decide +kernel
theorem tk_L_small_t50 : ((tb_L_small.drop 50).take 10).all tk_L_smallB = true := by decide +kernel
theorem tk_L_small_t60 : ((tb_L_small.drop 60).take 10).all tk_L_smallB = true := by decide +kernel
theorem tk_L_small_t70 : ((tb_L_small.drop 70).take 10).all tk_L_smallB = true := by decide +kernel
theorem tk_L_small_t80 : ((tb_L_small.drop 80).take 10).all tk_L_smallB = true := by decide +kernel
theorem tk_L_small_d90 : (tb_L_small.drop 90).all tk_L_smallB = true := by decide +kernel
theorem tk_L_small_d80 : (tb_L_small.drop 80).all tk_L_smallB = true := all_ch 10 tk_L_small_t80 (by rw [List.drop_drop]; exact tk_L_small_d90)
theorem tk_L_small_d70 : (tb_L_small.drop 70).all tk_L_smallB = true := all_ch 10 tk_L_small_t70 (by rw [List.drop_drop]; exact tk_L_small_d80)
theorem tk_L_small_d60 : (tb_L_small.drop 60).all tk_L_smallB = true := all_ch 10 tk_L_small_t60 (by rw [List.drop_drop]; exact tk_L_small_d70)
theorem tk_L_small_d50 : (tb_L_small.drop 50).all tk_L_smallB = true := all_ch 10 tk_L_small_t50 (by rw [List.drop_drop]; exact tk_L_small_d60)
theorem tk_L_small_d40 : (tb_L_small.drop 40).all tk_L_smallB = true := all_ch 10 tk_L_small_t40 (by rw [List.drop_drop]; exact tk_L_small_d50)
theorem tk_L_small_d30 : (tb_L_small.drop 30).all tk_L_smallB = true := all_ch 10 tk_L_small_t30 (by rw [List.drop_drop]; exact tk_L_small_d40)
theorem tk_L_small_d20 : (tb_L_small.drop 20).all tk_L_smallB = true := all_ch 10 tk_L_small_t20 (by rw [List.drop_drop]; exact tk_L_small_d30)
theorem tk_L_small_d10 : (tb_L_small.drop 10).all tk_L_smallB = true := all_ch 10 tk_L_small_t10 (by rw [List.drop_drop]; exact tk_L_small_d20)
theorem tk_L_small_d0 : (tb_L_small.drop 0).all tk_L_smallB = true := all_ch 10 tk_L_small_t0 (by rw [List.drop_drop]; exact tk_L_small_d10)
theorem tk_L_small : tb_L_small.all (fun e => decide (decode cL_small e.1 = .ok e.2)) = true := tk_L_small_d0
set_option maxRecDepth 100000 in
set_option maxHeartbeats 1000000 in
theorem mt_L_small : Mt2 yL_small cL_small 8 (some .boolean) 7 C_L_small := by
  refine mt2_of sx_L_small (by decide +kernel) (Or.inr (Or.inl ⟨rfl, rfl, rfl⟩)) tk_L_small kLL_ok kIL_ok
    (all_cons (lc_leastSmall (by decide)) (all_cons (lc_count (by decide)) (all_cons (lc_set (by decide)) (all_cons (lc_ifTurned (by decide)) (all_cons (lc_undo (by decide)) (all_nil))))))
    (all_cons (lw_L_print mt_L_print (by decide)) (all_nil)) ?_ ?_
  · rintro as M - ⟨o, rfl, hp⟩
    exact Nat.le_of_ble_eq_true rfl
  · rintro L scr as M hL - ⟨o, rfl, hp⟩
    exact Run2.mono (fun x M' h _ e => by cases e; exact h) (ok_L_small L scr hL o M hp)
