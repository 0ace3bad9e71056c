/-! THE LAW'S trunks, whole -/
def rOKb (r : Nat) : Bool := Nat.ble 3 r && Nat.blt r 191 && (Nat.blt r 11 || Nat.ble 15 r)
def chkL (r : Nat) : Bool := match LAY 0 r with
  | .inl (ci, f) => (List.range (nfC ci)).all (fun k => match f k with | some r' => Nat.blt r' 191 | none => true)
  | .inr (.inl _) => true
  | .inr (.inr (_, n, f)) => (List.range n).all (fun j => Nat.blt (f j) 191)
theorem chkL_all : (List.range 191).all (fun r => !(rOKb r) || chkL r) = true := by decide +kernel
theorem chkL_r {r : Nat} (h : rOK r) : chkL r = true := by
  have := List.all_eq_true.mp chkL_all r (List.mem_range.mpr h.2.1)
  have hb : rOKb r = true := by
    unfold rOKb
    have h' := h
    unfold rOK at h'
    rcases h'.2.2 with z | z
    · simp [Nat.blt, h'.1, h'.2.1, z, Nat.succ_le_of_lt z, Nat.succ_le_of_lt h'.2.1]
    · simp [Nat.blt, h'.1, h'.2.1, z, Nat.succ_le_of_lt h'.2.1]
  rw [hb] at this
  simpa using this
theorem LAY_0 (L : Nat) {r : Nat} (h : 1 ≤ r) : LAY L r = LAY 0 r := by
  match r, h with
  | 1, _ => rfl | 2, _ => rfl | 3, _ => rfl | 4, _ => rfl | 5, _ => rfl | 6, _ => rfl | 7, _ => rfl | 8, _ => rfl | 9, _ => rfl | 10, _ => rfl | 11, _ => rfl | 12, _ => rfl | 13, _ => rfl | 14, _ => rfl
  | r + 15, _ => rfl
theorem blt_lt {a b : Nat} (h : Nat.blt a b = true) : a < b := Nat.le_of_ble_eq_true h
theorem ceE_ad {ad ad2 : Nat → Nat} (cA : Nat → ClassId) (L : Nat) (m : Nat → Int) {r : Nat} (h : rOK r) (he : ∀ r, r < 191 → ad2 r = ad r) : ceE ad2 cA (LAY L r) m = ceE ad cA (LAY L r) m := by
  have hc := chkL_r h
  rw [LAY_0 L (by unfold rOK at h; omega)]
  unfold chkL at hc
  cases hk : LAY 0 r with
  | inl q =>
    obtain ⟨ci, f⟩ := q
    rw [hk] at hc
    show (.inr (ci, (List.range (nfC ci)).map (ceV ad2 f m)) : va_E) = .inr (ci, (List.range (nfC ci)).map (ceV ad f m))
    have : (List.range (nfC ci)).map (ceV ad2 f m) = (List.range (nfC ci)).map (ceV ad f m) := by
      refine List.map_congr_left fun k hk2 => ?_
      have hc := List.all_eq_true.mp hc k hk2
      unfold ceV
      cases hf : f k with
      | none => rfl
      | some r' =>
        rw [hf] at hc
        show Value.ref (ad2 r') = Value.ref (ad r')
        rw [he r' (blt_lt hc)]
    rw [this]
  | inr q =>
    cases q with
    | inl q => rfl
    | inr q =>
      obtain ⟨t, n, f⟩ := q
      rw [hk] at hc
      show (.inl (cA t, n, .inr (.inr (.inr (.inr (fun j => if j < n then some (ad2 (f j)) else none))))) : va_E) = .inl (cA t, n, .inr (.inr (.inr (.inr (fun j => if j < n then some (ad (f j)) else none)))))
      have : (fun j => if j < n then some (ad2 (f j)) else none) = (fun j => if j < n then some (ad (f j)) else none) := by
        funext j
        by_cases z : j < n
        · rw [if_pos z, if_pos z, he (f j) (blt_lt (List.all_eq_true.mp hc j (List.mem_range.mpr z)))]
        · rw [if_neg z, if_neg z]
      rw [this]
theorem wld_ad {ad ad2 : Nat → Nat} (cA : Nat → ClassId) (L : Nat) {M M2 : Mem} (he : ∀ r, r < 191 → ad2 r = ad r) (hM : ∀ r, rOK r → M2 r = M r) : wld ad2 cA L M2 = wld ad cA L M := by
  rw [wld_co hM]
  unfold wld
  refine List.map_congr_left fun k hk => ?_
  have h := wce_ok (List.mem_range.mp hk)
  rw [ceE_ad cA L _ h he, he _ h.2.1]
theorem va_D_fst {A : Nat → Prop} {ws ws' : va_W} (h : ws.map Prod.fst = ws'.map Prod.fst) (hD : va_D A ws) : va_D A ws' := by
  have at' : ∀ (k : Nat) (q : Nat × va_E), ws'[k]? = some q → ∃ q0 : Nat × va_E, ws[k]? = some q0 ∧ q0.1 = q.1 := fun k q hq => by
    have e := congrArg (fun l => l[k]?) h
    simp only [List.getElem?_map, hq, Option.map_some] at e
    cases z : ws[k]? with
    | none => rw [z] at e; cases e
    | some q0 =>
      rw [z] at e
      exact ⟨q0, rfl, Option.some.inj e⟩
  refine ⟨fun i j p q hi hj he => ?_, fun k q hk => ?_⟩
  · obtain ⟨p0, a1, a2⟩ := at' i p hi
    obtain ⟨q0, b1, b2⟩ := at' j q hj
    exact hD.1 i j p0 q0 a1 b1 (by rw [a2, b2, he])
  · obtain ⟨q0, a1, a2⟩ := at' k q hk
    rw [← a2]
    exact hD.2 k q0 a1
def ad2 (ad : Nat → Nat) (q1 q2 q3 : Nat) : Nat → Nat := fun r => if r = 191 then q1 else if r = 192 then q2 else if r = 193 then q3 else ad r
theorem ad2_lo {ad : Nat → Nat} {q1 q2 q3 r : Nat} (h : r < 191) : ad2 ad q1 q2 q3 r = ad r := by
  unfold ad2
  rw [if_neg (by omega), if_neg (by omega), if_neg (by omega)]
def M00 (M : Mem) : Mem := fun r => if 191 ≤ r then (fun _ => 0) else M r
theorem wl2_3 {ad : Nat → Nat} {cA : Nat → ClassId} {L : Nat} {M : Mem} {q1 q2 q3 : Nat} : wl2 true (ad2 ad q1 q2 q3) cA L (M00 M) = wld ad cA L M ++ [(q1, .inl (cA 0, 4, .inl (fun _ => 0)))] ++ [(q2, .inl (cA 0, 3, .inl (fun _ => 0)))] ++ [(q3, .inl (cA 0, 3, .inl (fun _ => 0)))] := by
  unfold wl2
  rw [wld_ad (ad := ad) (ad2 := ad2 ad q1 q2 q3) cA L (M := M) (M2 := M00 M) (fun r h => ad2_lo h) (fun r h => if_neg (by unfold rOK at h; omega)), if_pos rfl]
  simp only [List.append_assoc, List.cons_append, List.nil_append]
  rfl
theorem wl2_M {ad : Nat → Nat} {cA : Nat → ClassId} {L : Nat} {M M' : Mem} : (wl2 true ad cA L M).map Prod.fst = (wl2 true ad cA L M').map Prod.fst := by
  unfold wl2
  rw [if_pos rfl, if_pos rfl, List.map_append, List.map_append]
  congr 1
theorem all_ch {α : Type} {l : List α} {p : α → Bool} (n : Nat) (h1 : (l.take n).all p = true) (h2 : (l.drop n).all p = true) : l.all p = true := by
  rw [← List.take_append_drop n l, List.all_append, h1, h2]
  rfl
set_option maxRecDepth 100000 in
set_option maxHeartbeats 4000000 in
theorem trk_cl : ∀ e ∈ sx_L_trunks.2.2.2.1, Cl2 RL (rm2 5 1) e := all_cons (cl2_of mt_X6_count rfl rfl der_count (GT_at 278 (by decide +kernel) (by decide +kernel)) (GT_at 11 (by decide +kernel) (by decide +kernel)) (GT_at 281 (by decide +kernel) (by decide +kernel)) (by decide +kernel) (by decide) (GT_at 279 (by decide +kernel) (by decide +kernel)) (GT_at 280 (by decide +kernel) (by decide +kernel)) rfl) (all_cons (cl2_of mt_X6_trunk rfl rfl der_trunk (GT_at 455 (by decide +kernel) (by decide +kernel)) (GT_at 11 (by decide +kernel) (by decide +kernel)) (GT_at 458 (by decide +kernel) (by decide +kernel)) (by decide +kernel) (by decide) (GT_at 456 (by decide +kernel) (by decide +kernel)) (GT_at 457 (by decide +kernel) (by decide +kernel)) rfl) (all_cons (cl2_of mt_X6_pieces rfl rfl der_pieces (GT_at 470 (by decide +kernel) (by decide +kernel)) (GT_at 11 (by decide +kernel) (by decide +kernel)) (GT_at 473 (by decide +kernel) (by decide +kernel)) (by decide +kernel) (by decide) (GT_at 471 (by decide +kernel) (by decide +kernel)) (GT_at 472 (by decide +kernel) (by decide +kernel)) rfl) (all_cons (cl2_of mt_X6_alike rfl rfl der_alike (GT_at 475 (by decide +kernel) (by decide +kernel)) (GT_at 11 (by decide +kernel) (by decide +kernel)) (GT_at 478 (by decide +kernel) (by decide +kernel)) (by decide +kernel) (by decide) (GT_at 476 (by decide +kernel) (by decide +kernel)) (GT_at 477 (by decide +kernel) (by decide +kernel)) rfl) (all_cons (cl2_of mt_X6_mostDoubted rfl rfl der_mostDoubted (GT_at 483 (by decide +kernel) (by decide +kernel)) (GT_at 11 (by decide +kernel) (by decide +kernel)) (GT_at 486 (by decide +kernel) (by decide +kernel)) (by decide +kernel) (by decide) (GT_at 484 (by decide +kernel) (by decide +kernel)) (GT_at 485 (by decide +kernel) (by decide +kernel)) rfl) (all_cons (cl2_of mt_X6_desk rfl rfl der_desk (GT_at 487 (by decide +kernel) (by decide +kernel)) (GT_at 11 (by decide +kernel) (by decide +kernel)) (GT_at 490 (by decide +kernel) (by decide +kernel)) (by decide +kernel) (by decide) (GT_at 488 (by decide +kernel) (by decide +kernel)) (GT_at 489 (by decide +kernel) (by decide +kernel)) rfl) (all_nil))))))
def trk_tbB (e : Nat × (Instr × Nat)) : Bool := decide (decode cL_trunks e.1 = .ok e.2)
theorem trk_tb_t0 : ((tb_L_trunks.drop 0).take 10).all trk_tbB = true := by decide +kernel
theorem trk_tb_t10 : ((tb_L_trunks.drop 10).take 10).all trk_tbB = true := by decide +kernel
theorem trk_tb_t20 : ((tb_L_trunks.drop 20).take 10).all trk_tbB = true := by decide +kernel
theorem trk_tb_t30 : ((tb_L_trunks.drop 30).take 10).all trk_tbB = true := by decide +kernel
theorem trk_tb_t40 : ((tb_L_trunks.drop 40).take 10).all trk_tbB = true := by decide +kernel
theorem trk_tb_t50 : ((tb_L_trunks.drop 50).take 10).all trk_tbB = true := by decide +kernel
theorem trk_tb_t60 : ((tb_L_trunks.drop 60).take 10).all trk_tbB = true := by decide +kernel
theorem trk_tb_t70 : ((tb_L_trunks.drop 70).take 10).all trk_tbB = true := by decide +kernel
theorem trk_tb_t80 : ((tb_L_trunks.drop 80).take 10).all trk_tbB = true := by decide +kernel
theorem trk_tb_t90 : ((tb_L_trunks.drop 90).take 10).all trk_tbB = true := by decide +kernel
theorem trk_tb_t100 : ((tb_L_trunks.drop 100).take 10).all trk_tbB = true := by decide +kernel
theorem trk_tb_t110 : ((tb_L_trunks.drop 110).take 10).all trk_tbB = true := by decide +kernel
theorem trk_tb_t120 : ((tb_L_trunks.drop 120).take 10).all trk_tbB = true := by decide +kernel
theorem trk_tb_t130 : ((tb_L_trunks.drop 130).take 10).all trk_tbB = true := by decide +kernel
theorem trk_tb_t140 : ((tb_L_trunks.drop 140).take 10).all trk_tbB = true := by decide +kernel
theorem trk_tb_t150 : ((tb_L_trunks.drop 150).take 10).all trk_tbB = true := by decide +kernel
theorem trk_tb_t160 : ((tb_L_trunks.drop 160).take 10).all trk_tbB = true := by decide +kernel
theorem trk_tb_t170 : ((tb_L_trunks.drop 170).take 10).all trk_tbB = true := by decide +kernel
theorem trk_tb_t180 : ((tb_L_trunks.drop 180).take 10).all trk_tbB = true := by decide +kernel
theorem trk_tb_t190 : ((tb_L_trunks.drop 190).take 10).all trk_tbB = true := by decide +kernel
theorem trk_tb_t200 : ((tb_L_trunks.drop 200).take 10).all trk_tbB = true := by decide +kernel
theorem trk_tb_t210 : ((tb_L_trunks.drop 210).take 10).all trk_tbB = true := by decide +kernel
theorem trk_tb_t220 : ((tb_L_trunks.drop 220).take 10).all trk_tbB = true := by decide +kernel
theorem trk_tb_t230 : ((tb_L_trunks.drop 230).take 10).all trk_tbB = true := by decide +kernel
theorem trk_tb_t240 : ((tb_L_trunks.drop 240).take 10).all trk_tbB = true := by decide +kernel
theorem trk_tb_t250 : ((tb_L_trunks.drop 250).take 10).all trk_tbB = true := by decide +kernel
theorem trk_tb_t260 : ((tb_L_trunks.drop 260).take 10).all trk_tbB = true := by decide +kernel
theorem trk_tb_t270 : ((tb_L_trunks.drop 270).take 10).all trk_tbB = true := by decide +kernel
theorem trk_tb_t280 : ((tb_L_trunks.drop 280).take 10).all trk_tbB = true := by decide +kernel
theorem trk_tb_t290 : ((tb_L_trunks.drop 290).take 10).all trk_tbB = true := by decide +kernel
theorem trk_tb_t300 : ((tb_L_trunks.drop 300).take 10).all trk_tbB = true := by decide +kernel
theorem trk_tb_t310 : ((tb_L_trunks.drop 310).take 10).all trk_tbB = true := by decide +kernel
theorem trk_tb_t320 : ((tb_L_trunks.drop 320).take 10).all trk_tbB = true := by decide +kernel
theorem trk_tb_t330 : ((tb_L_trunks.drop 330).take 10).all trk_tbB = true := by decide +kernel
theorem trk_tb_t340 : ((tb_L_trunks.drop 340).take 10).all trk_tbB = true := by decide +kernel
theorem trk_tb_t350 : ((tb_L_trunks.drop 350).take 10).all trk_tbB = true := by decide +kernel
theorem trk_tb_t360 : ((tb_L_trunks.drop 360).take 10).all trk_tbB = true := by decide +kernel
theorem trk_tb_t370 : ((tb_L_trunks.drop 370).take 10).all trk_tbB = true := by decide +kernel
theorem trk_tb_t380 : ((tb_L_trunks.drop 380).take 10).all trk_tbB = true := by decide +kernel
theorem trk_tb_t390 : ((tb_L_trunks.drop 390).take 10).all trk_tbB = true := by decide +kernel
theorem trk_tb_t400 : ((tb_L_trunks.drop 400).take 10).all trk_tbB = true := by decide +kernel
theorem trk_tb_t410 : ((tb_L_trunks.drop 410).take 10).all trk_tbB = true := by decide +kernel
theorem trk_tb_t420 : ((tb_L_trunks.drop 420).take 10).all trk_tbB = true := by decide +kernel
theorem trk_tb_t430 : ((tb_L_trunks.drop 430).take 10).all trk_tbB = true := by decide +kernel
theorem trk_tb_t440 : ((tb_L_trunks.drop 440).take 10).all trk_tbB = true := by decide +kernel
theorem trk_tb_t450 : ((tb_L_trunks.drop 450).take 10).all trk_tbB = true := by decide +kernel
theorem trk_tb_d460 : (tb_L_trunks.drop 460).all trk_tbB = true := by decide +kernel
theorem trk_tb_d450 : (tb_L_trunks.drop 450).all trk_tbB = true := all_ch 10 trk_tb_t450 (by rw [List.drop_drop]; exact trk_tb_d460)
theorem trk_tb_d440 : (tb_L_trunks.drop 440).all trk_tbB = true := all_ch 10 trk_tb_t440 (by rw [List.drop_drop]; exact trk_tb_d450)
theorem trk_tb_d430 : (tb_L_trunks.drop 430).all trk_tbB = true := all_ch 10 trk_tb_t430 (by rw [List.drop_drop]; exact trk_tb_d440)
theorem trk_tb_d420 : (tb_L_trunks.drop 420).all trk_tbB = true := all_ch 10 trk_tb_t420 (by rw [List.drop_drop]; exact trk_tb_d430)
theorem trk_tb_d410 : (tb_L_trunks.drop 410).all trk_tbB = true := all_ch 10 trk_tb_t410 (by rw [List.drop_drop]; exact trk_tb_d420)
theorem trk_tb_d400 : (tb_L_trunks.drop 400).all trk_tbB = true := all_ch 10 trk_tb_t400 (by rw [List.drop_drop]; exact trk_tb_d410)
theorem trk_tb_d390 : (tb_L_trunks.drop 390).all trk_tbB = true := all_ch 10 trk_tb_t390 (by rw [List.drop_drop]; exact trk_tb_d400)
theorem trk_tb_d380 : (tb_L_trunks.drop 380).all trk_tbB = true := all_ch 10 trk_tb_t380 (by rw [List.drop_drop]; exact trk_tb_d390)
theorem trk_tb_d370 : (tb_L_trunks.drop 370).all trk_tbB = true := all_ch 10 trk_tb_t370 (by rw [List.drop_drop]; exact trk_tb_d380)
theorem trk_tb_d360 : (tb_L_trunks.drop 360).all trk_tbB = true := all_ch 10 trk_tb_t360 (by rw [List.drop_drop]; exact trk_tb_d370)
theorem trk_tb_d350 : (tb_L_trunks.drop 350).all trk_tbB = true := all_ch 10 trk_tb_t350 (by rw [List.drop_drop]; exact trk_tb_d360)
theorem trk_tb_d340 : (tb_L_trunks.drop 340).all trk_tbB = true := all_ch 10 trk_tb_t340 (by rw [List.drop_drop]; exact trk_tb_d350)
theorem trk_tb_d330 : (tb_L_trunks.drop 330).all trk_tbB = true := all_ch 10 trk_tb_t330 (by rw [List.drop_drop]; exact trk_tb_d340)
theorem trk_tb_d320 : (tb_L_trunks.drop 320).all trk_tbB = true := all_ch 10 trk_tb_t320 (by rw [List.drop_drop]; exact trk_tb_d330)
theorem trk_tb_d310 : (tb_L_trunks.drop 310).all trk_tbB = true := all_ch 10 trk_tb_t310 (by rw [List.drop_drop]; exact trk_tb_d320)
theorem trk_tb_d300 : (tb_L_trunks.drop 300).all trk_tbB = true := all_ch 10 trk_tb_t300 (by rw [List.drop_drop]; exact trk_tb_d310)
theorem trk_tb_d290 : (tb_L_trunks.drop 290).all trk_tbB = true := all_ch 10 trk_tb_t290 (by rw [List.drop_drop]; exact trk_tb_d300)
theorem trk_tb_d280 : (tb_L_trunks.drop 280).all trk_tbB = true := all_ch 10 trk_tb_t280 (by rw [List.drop_drop]; exact trk_tb_d290)
theorem trk_tb_d270 : (tb_L_trunks.drop 270).all trk_tbB = true := all_ch 10 trk_tb_t270 (by rw [List.drop_drop]; exact trk_tb_d280)
theorem trk_tb_d260 : (tb_L_trunks.drop 260).all trk_tbB = true := all_ch 10 trk_tb_t260 (by rw [List.drop_drop]; exact trk_tb_d270)
theorem trk_tb_d250 : (tb_L_trunks.drop 250).all trk_tbB = true := all_ch 10 trk_tb_t250 (by rw [List.drop_drop]; exact trk_tb_d260)
theorem trk_tb_d240 : (tb_L_trunks.drop 240).all trk_tbB = true := all_ch 10 trk_tb_t240 (by rw [List.drop_drop]; exact trk_tb_d250)
theorem trk_tb_d230 : (tb_L_trunks.drop 230).all trk_tbB = true := all_ch 10 trk_tb_t230 (by rw [List.drop_drop]; exact trk_tb_d240)
theorem trk_tb_d220 : (tb_L_trunks.drop 220).all trk_tbB = true := all_ch 10 trk_tb_t220 (by rw [List.drop_drop]; exact trk_tb_d230)
theorem trk_tb_d210 : (tb_L_trunks.drop 210).all trk_tbB = true := all_ch 10 trk_tb_t210 (by rw [List.drop_drop]; exact trk_tb_d220)
theorem trk_tb_d200 : (tb_L_trunks.drop 200).all trk_tbB = true := all_ch 10 trk_tb_t200 (by rw [List.drop_drop]; exact trk_tb_d210)
theorem trk_tb_d190 : (tb_L_trunks.drop 190).all trk_tbB = true := all_ch 10 trk_tb_t190 (by rw [List.drop_drop]; exact trk_tb_d200)
theorem trk_tb_d180 : (tb_L_trunks.drop 180).all trk_tbB = true := all_ch 10 trk_tb_t180 (by rw [List.drop_drop]; exact trk_tb_d190)
theorem trk_tb_d170 : (tb_L_trunks.drop 170).all trk_tbB = true := all_ch 10 trk_tb_t170 (by rw [List.drop_drop]; exact trk_tb_d180)
theorem trk_tb_d160 : (tb_L_trunks.drop 160).all trk_tbB = true := all_ch 10 trk_tb_t160 (by rw [List.drop_drop]; exact trk_tb_d170)
theorem trk_tb_d150 : (tb_L_trunks.drop 150).all trk_tbB = true := all_ch 10 trk_tb_t150 (by rw [List.drop_drop]; exact trk_tb_d160)
theorem trk_tb_d140 : (tb_L_trunks.drop 140).all trk_tbB = true := all_ch 10 trk_tb_t140 (by rw [List.drop_drop]; exact trk_tb_d150)
theorem trk_tb_d130 : (tb_L_trunks.drop 130).all trk_tbB = true := all_ch 10 trk_tb_t130 (by rw [List.drop_drop]; exact trk_tb_d140)
theorem trk_tb_d120 : (tb_L_trunks.drop 120).all trk_tbB = true := all_ch 10 trk_tb_t120 (by rw [List.drop_drop]; exact trk_tb_d130)
theorem trk_tb_d110 : (tb_L_trunks.drop 110).all trk_tbB = true := all_ch 10 trk_tb_t110 (by rw [List.drop_drop]; exact trk_tb_d120)
theorem trk_tb_d100 : (tb_L_trunks.drop 100).all trk_tbB = true := all_ch 10 trk_tb_t100 (by rw [List.drop_drop]; exact trk_tb_d110)
theorem trk_tb_d90 : (tb_L_trunks.drop 90).all trk_tbB = true := all_ch 10 trk_tb_t90 (by rw [List.drop_drop]; exact trk_tb_d100)
theorem trk_tb_d80 : (tb_L_trunks.drop 80).all trk_tbB = true := all_ch 10 trk_tb_t80 (by rw [List.drop_drop]; exact trk_tb_d90)
theorem trk_tb_d70 : (tb_L_trunks.drop 70).all trk_tbB = true := all_ch 10 trk_tb_t70 (by rw [List.drop_drop]; exact trk_tb_d80)
theorem trk_tb_d60 : (tb_L_trunks.drop 60).all trk_tbB = true := all_ch 10 trk_tb_t60 (by rw [List.drop_drop]; exact trk_tb_d70)
theorem trk_tb_d50 : (tb_L_trunks.drop 50).all trk_tbB = true := all_ch 10 trk_tb_t50 (by rw [List.drop_drop]; exact trk_tb_d60)
theorem trk_tb_d40 : (tb_L_trunks.drop 40).all trk_tbB = true := all_ch 10 trk_tb_t40 (by rw [List.drop_drop]; exact trk_tb_d50)
theorem trk_tb_d30 : (tb_L_trunks.drop 30).all trk_tbB = true := all_ch 10 trk_tb_t30 (by rw [List.drop_drop]; exact trk_tb_d40)
theorem trk_tb_d20 : (tb_L_trunks.drop 20).all trk_tbB = true := all_ch 10 trk_tb_t20 (by rw [List.drop_drop]; exact trk_tb_d30)
theorem trk_tb_d10 : (tb_L_trunks.drop 10).all trk_tbB = true := all_ch 10 trk_tb_t10 (by rw [List.drop_drop]; exact trk_tb_d20)
theorem trk_tb_d0 : (tb_L_trunks.drop 0).all trk_tbB = true := all_ch 10 trk_tb_t0 (by rw [List.drop_drop]; exact trk_tb_d10)
theorem trk_tb : tb_L_trunks.all (fun e => decide (decode cL_trunks e.1 = .ok e.2)) = true := trk_tb_d0
set_option maxRecDepth 100000 in
set_option maxHeartbeats 8000000 in
theorem mt_L_trunks : Mt2 yL_trunks cL_trunks 18 (some .boolean) 5 C_L_trunks := by
  intro l D cA ad A L scr as M hL had has hpre
  obtain ⟨o, rfl, rfl, g, O⟩ := hpre
  refine Met.ofW (cc := cL_trunks) (maxL := 18) (ret := some .boolean) (by decide +kernel) rfl ?_
  intro p e s m args below meth c s₁ B hml hv
  obtain ⟨rfl, hP, hK, hE, hA0⟩ := hv
  have hts0 := atoms_spec (ws := .code yL_trunks cL_trunks 18 (some .boolean) :: GT) B.pre
  have hts : ∀ w ∈ GT, w.before (([wR 3] : List PV).map (vp ad)).toArray s = true := fun w hw => hts0 w (List.mem_cons_of_mem _ hw)
  have hown : s.vm.findClass yL_trunks.cls = some m.cls := findClass_of_methodNamed B.named
  have hlocks := B.notSynchronized
  have hx := B.exec
  have hb := B.bytes
  have hr := B.returns
  have hD := had.D cA L M
  have h6 := g.2.1.2
  have hl := lv_entry (([wR 3] : List PV).map (vp ad)) (n := 18) (Nat.le_of_ble_eq_true rfl)
  rw [lg_entry_eq]
  generalize (lg_sl (([wR 3] : List PV).map (vp ad)) ++ List.replicate (18 - (lg_sl (([wR 3] : List PV).map (vp ad))).length) Slot.unset).toArray = ls at hl ⊢
  have hl : lv_has ls 18 [(0, .ref (ad 3))] := hl
  refine lv_iconst (v := 0) hx hb (by decide +kernel : decode cL_trunks 0 = .ok (.iconst 0, 1)) (by decide) ?_
  refine lv_istore_n (lv' := [(1, .int 0), (0, .ref (ad 3))]) hx hb (by decide +kernel : decode cL_trunks 1 = .ok (.istore_n 1, 1)) rfl hl (by decide) rfl (fun ls hl => ?_)
  refine lv_bipush (v := -6) hx hb (by decide +kernel : decode cL_trunks 2 = .ok (.bipush (-6), 2)) (by decide) ?_
  refine lv_istore_n (lv' := [(2, .int (-6)), (1, .int 0), (0, .ref (ad 3))]) hx hb (by decide +kernel : decode cL_trunks 4 = .ok (.istore_n 2, 1)) rfl hl (by decide) rfl (fun ls hl => ?_)
  refine lv_iconst (v := 4) hx hb (by decide +kernel : decode cL_trunks 5 = .ok (.iconst 4, 1)) (by decide) ?_
  refine va_newa (atype := .int) (a0 := (4, .inl (fun _ => 0))) hx hb (hts _ (GT_at 67 (by decide +kernel) (by decide +kernel))) rfl (hK.sub (tys' := []) [] rfl) hP hD va_S.rf hA0 (fun _ => rfl) (by decide) (by decide) (by decide) (Nat.le_of_ble_eq_true rfl) (Nat.le_of_ble_eq_true rfl) (by decide +kernel : decode cL_trunks 6 = .ok (.newarray .int, 2)) (fun q1 k1 H1 hK1 hP1 hD1 hS1 => ?_)
  have ek1 : k1 = cA 0 := Option.some.inj ((hK1.2 0 _ rfl).2.symm.trans (hK.2 0 _ rfl).2)
  subst ek1
  refine lv_astore_n (lv' := [(3, .ref q1), (2, .int (-6)), (1, .int 0), (0, .ref (ad 3))]) hx hb (by decide +kernel : decode cL_trunks 8 = .ok (.astore_n 3, 1)) rfl hl (by decide) rfl (fun ls hl => ?_)
  refine lv_iconst (v := 3) hx hb (by decide +kernel : decode cL_trunks 9 = .ok (.iconst 3, 1)) (by decide) ?_
  refine va_newa (atype := .int) (a0 := (3, .inl (fun _ => 0))) hx hb (hts _ (GT_at 67 (by decide +kernel) (by decide +kernel))) rfl (hK.sub (tys' := []) [] rfl) hP1 hD1 hS1 hA0 (fun _ => rfl) (by decide) (by decide) (by decide) (Nat.le_of_ble_eq_true rfl) (Nat.le_of_ble_eq_true rfl) (by decide +kernel : decode cL_trunks 10 = .ok (.newarray .int, 2)) (fun q2 k2 H2 hK2 hP2 hD2 hS2 => ?_)
  have ek2 : k2 = cA 0 := Option.some.inj ((hK2.2 0 _ rfl).2.symm.trans (hK.2 0 _ rfl).2)
  subst ek2
  refine lv_astore (lv' := [(4, .ref q2), (3, .ref q1), (2, .int (-6)), (1, .int 0), (0, .ref (ad 3))]) hx hb (by decide +kernel : decode cL_trunks 12 = .ok (.astore 4, 2)) hl (by decide) rfl (fun ls hl => ?_)
  refine lv_iconst (v := 3) hx hb (by decide +kernel : decode cL_trunks 14 = .ok (.iconst 3, 1)) (by decide) ?_
  refine va_newa (atype := .int) (a0 := (3, .inl (fun _ => 0))) hx hb (hts _ (GT_at 67 (by decide +kernel) (by decide +kernel))) rfl (hK.sub (tys' := []) [] rfl) hP2 hD2 hS2 hA0 (fun _ => rfl) (by decide) (by decide) (by decide) (Nat.le_of_ble_eq_true rfl) (Nat.le_of_ble_eq_true rfl) (by decide +kernel : decode cL_trunks 15 = .ok (.newarray .int, 2)) (fun q3 k3 H3 hK3 hP3 hD3 hS3 => ?_)
  have ek3 : k3 = cA 0 := Option.some.inj ((hK3.2 0 _ rfl).2.symm.trans (hK.2 0 _ rfl).2)
  subst ek3
  refine lv_astore (lv' := [(5, .ref q3), (4, .ref q2), (3, .ref q1), (2, .int (-6)), (1, .int 0), (0, .ref (ad 3))]) hx hb (by decide +kernel : decode cL_trunks 17 = .ok (.astore 5, 2)) hl (by decide) rfl (fun ls hl => ?_)
  refine lv_iconst (v := 0) hx hb (by decide +kernel : decode cL_trunks 19 = .ok (.iconst 0, 1)) (by decide) ?_
  refine lv_istore (lv' := [(6, .int 0), (5, .ref q3), (4, .ref q2), (3, .ref q1), (2, .int (-6)), (1, .int 0), (0, .ref (ad 3))]) hx hb (by decide +kernel : decode cL_trunks 20 = .ok (.istore 6, 2)) hl (by decide) rfl (fun ls hl => ?_)
  refine lv_iconst (v := 0) hx hb (by decide +kernel : decode cL_trunks 22 = .ok (.iconst 0, 1)) (by decide) ?_
  refine lv_istore (lv' := [(7, .int 0), (6, .int 0), (5, .ref q3), (4, .ref q2), (3, .ref q1), (2, .int (-6)), (1, .int 0), (0, .ref (ad 3))]) hx hb (by decide +kernel : decode cL_trunks 23 = .ok (.istore 7, 2)) hl (by decide) rfl (fun ls hl => ?_)
  have hP4 : va_P D clsL (wl2 true (ad2 ad q1 q2 q3) cA L (M00 M)) H3 := by rw [wl2_3]; exact hP3
  have hD4 : ∀ N, va_D A (wl2 true (ad2 ad q1 q2 q3) cA L N) := fun N => va_D_fst (wl2_M (M := M00 M)) (by rw [wl2_3]; exact hD3)
  have had2 : adOK (ad2 ad q1 q2 q3) A := ⟨fun r r' h h' e => had.1 r r' h h' (by rw [ad2_lo h.2.1, ad2_lo h'.2.1] at e; exact e), fun r h => by rw [ad2_lo h.2.1]; exact had.2 r h⟩
  have hE2 : Ext (ad2 ad q1 q2 q3) L (xcF scr) A s s.heap := ⟨fun r hr => by rw [ad2_lo (by omega)]; exact hE.1 r hr, by rw [ad2_lo (by omega)]; exact hE.2.1, by rw [ad2_lo (by omega)]; exact hE.2.2⟩
  have hD5 : arD true (ad2 ad q1 q2 q3) := fun _ r r' h h' e => by
    have w1 := wl2_ar (ad := ad2 ad q1 q2 q3) (cA := cA) (L := L) (M := M) h
    have w2 : (wl2 true (ad2 ad q1 q2 q3) cA L M)[wpo r']? = some (ad2 ad q1 q2 q3 r', ceE (ad2 ad q1 q2 q3) cA (LAY L r') (nt_ (M r'))) := by
      unfold wl2
      rw [List.getElem?_append_left (by rw [wld_len]; exact wpo_lt h')]
      exact wld_at h'
    have := (hD4 M).1 _ _ _ _ w1 w2 e
    have := wpo_lt h'
    omega
  have gM : GI (M00 M) := GI_co g (fun r h => if_neg (by omega))
  have hSA : SmA M (M00 M) := ⟨gM, fun r a b => if_neg (by omega)⟩
  have hAr : ArI (M 12) 0 0 0 (M00 M) := ⟨fun w _ _ => rfl, fun j a b => by
    rw [if_neg (by omega)]
    exact ⟨rfl, rfl⟩⟩
  have F : Fx2 sx_L_trunks L scr p s m (([wR 3] : List PV).map (vp ad)).toArray c yL_trunks.cls cL_trunks 18 (headSpec (.code yL_trunks cL_trunks 18 (some .boolean) :: GT) (rm2 5 1)).room 3 10 0 true D cA (ad2 ad q1 q2 q3) A :=
    ⟨hx, hb, hml, hown, hts, hK, had2, hE2, hL, fun z hz => by simpa using List.all_eq_true.mp trk_tb z hz, kLL_ok, kIL_ok, trk_cl, all_nil, fun b0 hb0 => ⟨by show 3 + 3 * b0 ≤ 3 * 1; omega, by show 10 + 10 * b0 ≤ 10 * 1; omega⟩, hA0, hD4, hD5⟩
  have hLR : LR (ad2 ad q1 q2 q3) 18 [wR 3, wI 0, wI (-6), wR 191, wR 192, wR 193, wI 0, wI 0, none, none, none, none, none, none, none, none, none, none] ls := by
    refine ⟨_, hl, rfl, fun i v h => ?_⟩
    match i, h with

    | 0, h => cases h; exact List.mem_of_getElem? (i := 7) rfl
    | 1, h => cases h; exact List.mem_of_getElem? (i := 6) rfl
    | 2, h => cases h; exact List.mem_of_getElem? (i := 5) rfl
    | 3, h => cases h; exact List.mem_of_getElem? (i := 4) rfl
    | 4, h => cases h; exact List.mem_of_getElem? (i := 3) rfl
    | 5, h => cases h; exact List.mem_of_getElem? (i := 2) rfl
    | 6, h => cases h; exact List.mem_of_getElem? (i := 1) rfl
    | 7, h => cases h; exact List.mem_of_getElem? (i := 0) rfl
    | 8, h => cases h
    | 9, h => cases h
    | 10, h => cases h
    | 11, h => cases h
    | 12, h => cases h
    | 13, h => cases h
    | 14, h => cases h
    | 15, h => cases h
    | 16, h => cases h
    | 17, h => cases h
    | n + 18, h => simp at h
  refine trk_loop L scr (fun x M' => x = 1 ∧ SmA M M') M (M 12) rfl O h6 (fun N a8 a9 a10 a11 a12 a13 a14 a15 a16 a17 x y => trk_tail L scr M (M 12) rfl O h6 N a8 a9 a10 a11 a12 a13 a14 a15 a16 a17 x y) (M 12 7).toNat 0 (M00 M) none none none none none none none none none none (Nat.zero_add _) hSA hAr
    (JW2 p l e (headSpec (.code yL_trunks cL_trunks 18 (some .boolean) :: GT) (rm2 5 1)).room s m (([wR 3] : List PV).map (vp ad)).toArray below meth c 18 3 10 (MQ below (Qc2 C_L_trunks [wR 3] M D cA ad A L) (([wR 3] : List PV).map (vp ad)).toArray s (3 * 1) (10 * 1) A) D cA (ad2 ad q1 q2 q3) A L true) (sound2 F ?_ ?_) H3 _ ls hP4 hS3 hLR
  · intro b0 pc lp M' x hb0 h1 h2 hq H locs ls hP' hS hl
    have hb0 := Nat.le_of_ble_eq_true hb0
    have hdg := F.2.2.2.2.2.2.2.2.2.1 _ (lk_mem h1)
    obtain ⟨hq1, hq2⟩ := hq
    subst hq1
    refine W.widen (k := 3 * 1) (n := 10 * 1) (by omega) (by omega) ?_
    refine W.zret (v := Int32.ofInt 1) (ty := .boolean) hx hb hr (by decide +kernel) (fun t ht hW => ?_) hS.2.2 hdg
    unfold Qc2
    rw [if_neg (by decide)]
    refine ⟨⟨_, mx M M', rfl, ⟨1, rfl, fun o z => ⟨rfl, GI_co hq2.1 (fun r h => mx_lo h), fun r a b => (mx_lo (by omega)).trans (hq2.2 r a b), mx_a M M'⟩⟩, ?_⟩, hS.F ht⟩
    show va_P D clsL (wld ad cA L (mx M M')) t.heap
    rw [ht, ← wld_ad (ad := ad) (ad2 := ad2 ad q1 q2 q3) cA L (M := mx M M') (M2 := M') (fun r h => ad2_lo h) (fun r h => (mx_r M M' r h).symm)]
    exact wl2_P hP'
  · intro b0 pc lp M' x hb0 h1 h2
    cases h2
