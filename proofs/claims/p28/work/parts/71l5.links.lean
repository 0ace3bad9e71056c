/-! LEVEL 2: what the tables say of the law's calls -/
set_option maxRecDepth 200000 in
theorem lw_L_trunks {R : Room} (hM : Mt2 yL_trunks cL_trunks 18 (some .boolean) 5 C_L_trunks) (h5 : (rm2 5 1).frames + 1 ≤ R.frames ∧ 8 + (18 + 11) + (rm2 5 1).locals ≤ R.locals) : Cw2 RL R (98, C_L_trunks) := cw2_of hM (GT_at 452 (by decide +kernel) (by decide +kernel)) (GT_at 10 (by decide +kernel) (by decide +kernel)) (GT_at 454 (by first | exact rfl | decide +kernel) (by decide +kernel)) (by decide +kernel) h5 (GT_at 453 (by decide +kernel) (by decide +kernel))
