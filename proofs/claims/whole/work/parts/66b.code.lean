theorem all_ch {α : Type} {l : List α} {p : α → Bool} (n : Nat) (h1 : (l.take n).all p = true) (h2 : (l.drop n).all p = true) : l.all p = true := by
  rw [← List.take_append_drop n l, List.all_append, h1, h2]
  rfl
def dcB (e : Nat × (Instr × Nat)) : Bool := decide (decode code e.1 = .ok e.2)
theorem law_t0 : ((tb_L_law.drop 0).take 10).all dcB = true := by decide +kernel
theorem law_t10 : ((tb_L_law.drop 10).take 10).all dcB = true := by decide +kernel
theorem law_t20 : ((tb_L_law.drop 20).take 10).all dcB = true := by decide +kernel
theorem law_t30 : ((tb_L_law.drop 30).take 10).all dcB = true := by decide +kernel
theorem law_t40 : ((tb_L_law.drop 40).take 10).all dcB = true := by decide +kernel
theorem law_t50 : ((tb_L_law.drop 50).take 10).all dcB = true := by decide +kernel
theorem law_t60 : ((tb_L_law.drop 60).take 10).all dcB = true := by decide +kernel
theorem law_t70 : ((tb_L_law.drop 70).take 10).all dcB = true := by decide +kernel
theorem law_t80 : ((tb_L_law.drop 80).take 10).all dcB = true := by decide +kernel
theorem law_t90 : ((tb_L_law.drop 90).take 10).all dcB = true := by decide +kernel
theorem law_t100 : ((tb_L_law.drop 100).take 10).all dcB = true := by decide +kernel
theorem law_t110 : ((tb_L_law.drop 110).take 10).all dcB = true := by decide +kernel
theorem law_t120 : ((tb_L_law.drop 120).take 10).all dcB = true := by decide +kernel
theorem law_t130 : ((tb_L_law.drop 130).take 10).all dcB = true := by decide +kernel
theorem law_t140 : ((tb_L_law.drop 140).take 10).all dcB = true := by decide +kernel
theorem law_t150 : ((tb_L_law.drop 150).take 10).all dcB = true := by decide +kernel
theorem law_t160 : ((tb_L_law.drop 160).take 10).all dcB = true := by decide +kernel
theorem law_t170 : ((tb_L_law.drop 170).take 10).all dcB = true := by decide +kernel
theorem law_t180 : ((tb_L_law.drop 180).take 10).all dcB = true := by decide +kernel
theorem law_t190 : ((tb_L_law.drop 190).take 10).all dcB = true := by decide +kernel
theorem law_t200 : ((tb_L_law.drop 200).take 10).all dcB = true := by decide +kernel
theorem law_t210 : ((tb_L_law.drop 210).take 10).all dcB = true := by decide +kernel
theorem law_t220 : ((tb_L_law.drop 220).take 10).all dcB = true := by decide +kernel
theorem law_t230 : ((tb_L_law.drop 230).take 10).all dcB = true := by decide +kernel
theorem law_t240 : ((tb_L_law.drop 240).take 10).all dcB = true := by decide +kernel
theorem law_t250 : ((tb_L_law.drop 250).take 10).all dcB = true := by decide +kernel
theorem law_t260 : ((tb_L_law.drop 260).take 10).all dcB = true := by decide +kernel
theorem law_t270 : ((tb_L_law.drop 270).take 10).all dcB = true := by decide +kernel
theorem law_t280 : ((tb_L_law.drop 280).take 10).all dcB = true := by decide +kernel
theorem law_t290 : ((tb_L_law.drop 290).take 10).all dcB = true := by decide +kernel
theorem law_t300 : ((tb_L_law.drop 300).take 10).all dcB = true := by decide +kernel
theorem law_t310 : ((tb_L_law.drop 310).take 10).all dcB = true := by decide +kernel
theorem law_t320 : ((tb_L_law.drop 320).take 10).all dcB = true := by decide +kernel
theorem law_t330 : ((tb_L_law.drop 330).take 10).all dcB = true := by decide +kernel
theorem law_t340 : ((tb_L_law.drop 340).take 10).all dcB = true := by decide +kernel
theorem law_t350 : ((tb_L_law.drop 350).take 10).all dcB = true := by decide +kernel
theorem law_t360 : ((tb_L_law.drop 360).take 10).all dcB = true := by decide +kernel
theorem law_t370 : ((tb_L_law.drop 370).take 10).all dcB = true := by decide +kernel
theorem law_t380 : ((tb_L_law.drop 380).take 10).all dcB = true := by decide +kernel
theorem law_t390 : ((tb_L_law.drop 390).take 10).all dcB = true := by decide +kernel
theorem law_t400 : ((tb_L_law.drop 400).take 10).all dcB = true := by decide +kernel
theorem law_t410 : ((tb_L_law.drop 410).take 10).all dcB = true := by decide +kernel
theorem law_t420 : ((tb_L_law.drop 420).take 10).all dcB = true := by decide +kernel
theorem law_t430 : ((tb_L_law.drop 430).take 10).all dcB = true := by decide +kernel
theorem law_t440 : ((tb_L_law.drop 440).take 10).all dcB = true := by decide +kernel
theorem law_t450 : ((tb_L_law.drop 450).take 10).all dcB = true := by decide +kernel
theorem law_t460 : ((tb_L_law.drop 460).take 10).all dcB = true := by decide +kernel
theorem law_t470 : ((tb_L_law.drop 470).take 10).all dcB = true := by decide +kernel
theorem law_t480 : ((tb_L_law.drop 480).take 10).all dcB = true := by decide +kernel
theorem law_t490 : ((tb_L_law.drop 490).take 10).all dcB = true := by decide +kernel
theorem law_t500 : ((tb_L_law.drop 500).take 10).all dcB = true := by decide +kernel
theorem law_t510 : ((tb_L_law.drop 510).take 10).all dcB = true := by decide +kernel
theorem law_t520 : ((tb_L_law.drop 520).take 10).all dcB = true := by decide +kernel
theorem law_t530 : ((tb_L_law.drop 530).take 10).all dcB = true := by decide +kernel
theorem law_d540 : (tb_L_law.drop 540).all dcB = true := by decide +kernel
theorem law_d530 : (tb_L_law.drop 530).all dcB = true := all_ch 10 law_t530 (by rw [List.drop_drop]; exact law_d540)
theorem law_d520 : (tb_L_law.drop 520).all dcB = true := all_ch 10 law_t520 (by rw [List.drop_drop]; exact law_d530)
theorem law_d510 : (tb_L_law.drop 510).all dcB = true := all_ch 10 law_t510 (by rw [List.drop_drop]; exact law_d520)
theorem law_d500 : (tb_L_law.drop 500).all dcB = true := all_ch 10 law_t500 (by rw [List.drop_drop]; exact law_d510)
theorem law_d490 : (tb_L_law.drop 490).all dcB = true := all_ch 10 law_t490 (by rw [List.drop_drop]; exact law_d500)
theorem law_d480 : (tb_L_law.drop 480).all dcB = true := all_ch 10 law_t480 (by rw [List.drop_drop]; exact law_d490)
theorem law_d470 : (tb_L_law.drop 470).all dcB = true := all_ch 10 law_t470 (by rw [List.drop_drop]; exact law_d480)
theorem law_d460 : (tb_L_law.drop 460).all dcB = true := all_ch 10 law_t460 (by rw [List.drop_drop]; exact law_d470)
theorem law_d450 : (tb_L_law.drop 450).all dcB = true := all_ch 10 law_t450 (by rw [List.drop_drop]; exact law_d460)
theorem law_d440 : (tb_L_law.drop 440).all dcB = true := all_ch 10 law_t440 (by rw [List.drop_drop]; exact law_d450)
theorem law_d430 : (tb_L_law.drop 430).all dcB = true := all_ch 10 law_t430 (by rw [List.drop_drop]; exact law_d440)
theorem law_d420 : (tb_L_law.drop 420).all dcB = true := all_ch 10 law_t420 (by rw [List.drop_drop]; exact law_d430)
theorem law_d410 : (tb_L_law.drop 410).all dcB = true := all_ch 10 law_t410 (by rw [List.drop_drop]; exact law_d420)
theorem law_d400 : (tb_L_law.drop 400).all dcB = true := all_ch 10 law_t400 (by rw [List.drop_drop]; exact law_d410)
theorem law_d390 : (tb_L_law.drop 390).all dcB = true := all_ch 10 law_t390 (by rw [List.drop_drop]; exact law_d400)
theorem law_d380 : (tb_L_law.drop 380).all dcB = true := all_ch 10 law_t380 (by rw [List.drop_drop]; exact law_d390)
theorem law_d370 : (tb_L_law.drop 370).all dcB = true := all_ch 10 law_t370 (by rw [List.drop_drop]; exact law_d380)
theorem law_d360 : (tb_L_law.drop 360).all dcB = true := all_ch 10 law_t360 (by rw [List.drop_drop]; exact law_d370)
theorem law_d350 : (tb_L_law.drop 350).all dcB = true := all_ch 10 law_t350 (by rw [List.drop_drop]; exact law_d360)
theorem law_d340 : (tb_L_law.drop 340).all dcB = true := all_ch 10 law_t340 (by rw [List.drop_drop]; exact law_d350)
theorem law_d330 : (tb_L_law.drop 330).all dcB = true := all_ch 10 law_t330 (by rw [List.drop_drop]; exact law_d340)
theorem law_d320 : (tb_L_law.drop 320).all dcB = true := all_ch 10 law_t320 (by rw [List.drop_drop]; exact law_d330)
theorem law_d310 : (tb_L_law.drop 310).all dcB = true := all_ch 10 law_t310 (by rw [List.drop_drop]; exact law_d320)
theorem law_d300 : (tb_L_law.drop 300).all dcB = true := all_ch 10 law_t300 (by rw [List.drop_drop]; exact law_d310)
theorem law_d290 : (tb_L_law.drop 290).all dcB = true := all_ch 10 law_t290 (by rw [List.drop_drop]; exact law_d300)
theorem law_d280 : (tb_L_law.drop 280).all dcB = true := all_ch 10 law_t280 (by rw [List.drop_drop]; exact law_d290)
theorem law_d270 : (tb_L_law.drop 270).all dcB = true := all_ch 10 law_t270 (by rw [List.drop_drop]; exact law_d280)
theorem law_d260 : (tb_L_law.drop 260).all dcB = true := all_ch 10 law_t260 (by rw [List.drop_drop]; exact law_d270)
theorem law_d250 : (tb_L_law.drop 250).all dcB = true := all_ch 10 law_t250 (by rw [List.drop_drop]; exact law_d260)
theorem law_d240 : (tb_L_law.drop 240).all dcB = true := all_ch 10 law_t240 (by rw [List.drop_drop]; exact law_d250)
theorem law_d230 : (tb_L_law.drop 230).all dcB = true := all_ch 10 law_t230 (by rw [List.drop_drop]; exact law_d240)
theorem law_d220 : (tb_L_law.drop 220).all dcB = true := all_ch 10 law_t220 (by rw [List.drop_drop]; exact law_d230)
theorem law_d210 : (tb_L_law.drop 210).all dcB = true := all_ch 10 law_t210 (by rw [List.drop_drop]; exact law_d220)
theorem law_d200 : (tb_L_law.drop 200).all dcB = true := all_ch 10 law_t200 (by rw [List.drop_drop]; exact law_d210)
theorem law_d190 : (tb_L_law.drop 190).all dcB = true := all_ch 10 law_t190 (by rw [List.drop_drop]; exact law_d200)
theorem law_d180 : (tb_L_law.drop 180).all dcB = true := all_ch 10 law_t180 (by rw [List.drop_drop]; exact law_d190)
theorem law_d170 : (tb_L_law.drop 170).all dcB = true := all_ch 10 law_t170 (by rw [List.drop_drop]; exact law_d180)
theorem law_d160 : (tb_L_law.drop 160).all dcB = true := all_ch 10 law_t160 (by rw [List.drop_drop]; exact law_d170)
theorem law_d150 : (tb_L_law.drop 150).all dcB = true := all_ch 10 law_t150 (by rw [List.drop_drop]; exact law_d160)
theorem law_d140 : (tb_L_law.drop 140).all dcB = true := all_ch 10 law_t140 (by rw [List.drop_drop]; exact law_d150)
theorem law_d130 : (tb_L_law.drop 130).all dcB = true := all_ch 10 law_t130 (by rw [List.drop_drop]; exact law_d140)
theorem law_d120 : (tb_L_law.drop 120).all dcB = true := all_ch 10 law_t120 (by rw [List.drop_drop]; exact law_d130)
theorem law_d110 : (tb_L_law.drop 110).all dcB = true := all_ch 10 law_t110 (by rw [List.drop_drop]; exact law_d120)
theorem law_d100 : (tb_L_law.drop 100).all dcB = true := all_ch 10 law_t100 (by rw [List.drop_drop]; exact law_d110)
theorem law_d90 : (tb_L_law.drop 90).all dcB = true := all_ch 10 law_t90 (by rw [List.drop_drop]; exact law_d100)
theorem law_d80 : (tb_L_law.drop 80).all dcB = true := all_ch 10 law_t80 (by rw [List.drop_drop]; exact law_d90)
theorem law_d70 : (tb_L_law.drop 70).all dcB = true := all_ch 10 law_t70 (by rw [List.drop_drop]; exact law_d80)
theorem law_d60 : (tb_L_law.drop 60).all dcB = true := all_ch 10 law_t60 (by rw [List.drop_drop]; exact law_d70)
theorem law_d50 : (tb_L_law.drop 50).all dcB = true := all_ch 10 law_t50 (by rw [List.drop_drop]; exact law_d60)
theorem law_d40 : (tb_L_law.drop 40).all dcB = true := all_ch 10 law_t40 (by rw [List.drop_drop]; exact law_d50)
theorem law_d30 : (tb_L_law.drop 30).all dcB = true := all_ch 10 law_t30 (by rw [List.drop_drop]; exact law_d40)
theorem law_d20 : (tb_L_law.drop 20).all dcB = true := all_ch 10 law_t20 (by rw [List.drop_drop]; exact law_d30)
theorem law_d10 : (tb_L_law.drop 10).all dcB = true := all_ch 10 law_t10 (by rw [List.drop_drop]; exact law_d20)
theorem law_d0 : (tb_L_law.drop 0).all dcB = true := all_ch 10 law_t0 (by rw [List.drop_drop]; exact law_d10)
theorem law_tb : ∀ e ∈ tb_L_law, decode code e.1 = .ok e.2 := fun e he => by
  have := List.all_eq_true.mp law_d0 e he
  simpa [dcB] using this
