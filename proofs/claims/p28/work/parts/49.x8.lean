theorem Kp4.e12 {M M1 M2 : Mem} (k : Kp4 M M1) (f : FrS M1 M2 15) {r : Nat} (h1 : r ≤ 2 ∨ 11 ≤ r) (h2 : r ≤ 14) : M2 r = M r := (f r (by omega) (by omega)).trans (k.lo (by omega) (by omega))
theorem Kp4.r0 {M M1 : Mem} (k : Kp4 M M1) {a : Nat} {f : Int → Int} (ha : 15 ≤ a ∧ a ≤ 81) (h : RelS M a f) : RelS M1 a f := h.off (fun r a b => k.lo (by omega) (by omega))
theorem Bo_chg {C : Ct} {as : List PV} {M M1 M2 : Mem} {x : Int} {h : Int → Int} (g : GI M) (k : Kp4 M M1) (f : FrS M1 M2 15) (r2 : RelS M2 15 h) (hO : StO h)
    (q : ∀ y N, C.2.2.2 as M2 y N → x = y ∧ ∃ n, Wn n h ∧ Chg M2 N n ∧ Fr M2 N ∧ ∀ k, k ≠ 1 → N 11 k = M2 11 k) : Bo C as M M2 x := by
  refine ⟨fun r a b => k.e12 f a b, fun y N z => ?_⟩
  obtain ⟨e, n, w, c1, c2, c3⟩ := q y N z
  have e8 : M2 8 1 = M 8 1 := by rw [f 8 (by omega) (by omega), k.lo (by omega) (by omega)]
  have e4 : N 11 4 = M 11 4 := by rw [c3 4 (by omega), k.e12 f (by omega) (by omega)]
  exact ⟨e, G_chg g k (fun r a _ _ b => f r a b) (r2.mv (fun _ _ _ => rfl) w) c1 c2 (hO.wn w) (by rw [e8, e4]; exact g.1.2.2.2.2.2.1) (Or.inr e4)⟩
theorem pap_cl {t w : Int} (ht : 0 ≤ t) (hw : w = 0 ∨ w = 1) : 15 + cl (87 + 9 * t + w) = 29 + w.toNat ∧ pl (87 + 9 * t + w) = t ∧ isP (87 + 9 * t + w) := by
  have c := cl_t (t := t) (c := 1 + w) ht (by omega)
  have y := yP (t := t) (c := 1 + w) ht (by omega)
  rw [show 86 + 9 * t + (1 + w) = 87 + 9 * t + w by omega] at c y
  refine ⟨?_, c.2, y⟩
  rw [c.1]
  rcases hw with rfl | rfl <;> rfl
abbrev C_X6_mend : Ct := (5, true, fun as M => ∃ (o : Nat) (t : Int) (w : Int) (k : Int) (v : Int), as = [wR o, wI t, wI w, wI k, wI v] ∧ (o = 3 ∧ GI M ∧ inr t ∧ inr w ∧ inr k ∧ inr v), fun as M x M' => ∀ (o : Nat) (t : Int) (w : Int) (k : Int) (v : Int), as = [wR o, wI t, wI w, wI k, wI v] → (Bo C_X7_mend [wR 11, wI t, wI w, wI k, wI v] M M' x))
def sx_X6_mend : Sx := (tb_X6_mend, fdX6, kLX6, kIX6, sgX6, ntX6, [(104, (4, C_X4_isWaiting)), (41, (9, C_X6_isWithin)), (52, (1, C_X1_keep)), (111, (9, C_X3_withPieces)), (117, (4, C_X4_doubtOf))], 1)
set_option maxRecDepth 100000 in
set_option maxHeartbeats 1000000 in
theorem ok_X6_mend (L : Nat) (scr : Int → Int) (o : Nat) (t : Int) (w : Int) (k : Int) (v : Int) (M : Mem) (hp : o = 3 ∧ GI M ∧ inr t ∧ inr w ∧ inr k ∧ inr v) : Runs sx_X6_mend L (xcF scr) (fun x M' => Bo C_X7_mend [wR 11, wI t, wI w, wI k, wI v] M M' x) 0 [wR o, wI t, wI w, wI k, wI v, none] [] M := by
  obtain ⟨rfl, g, h1, h2, h3, h4⟩ := hp
  have sz := g.sz
  have cm := g.cm
  have I := g.2.1.1
  have i7 := g.i7
  by_cases hw : wtT (M 12) t
  · have hw2 := hw
    unfold wtT at hw2
    refine R_aload_n (q := 1) (i := 0) rfl rfl rfl rfl ?_
    refine R_getR (q := 4) rfl rfl rfl rfl rfl (by omega) ?_
    refine R_iload_n (q := 5) (i := 1) rfl rfl rfl rfl ?_
    refine R_gh (M 12) ?_
    refine R_cV1I (q := 8) (ci := 4) (C := C_X4_isWaiting) rfl rfl rfl rfl rfl ⟨_, _, rfl, ⟨g.si, h1⟩⟩ rfl (lay0 st15) (by omega) (fun x M' hc => ?_)
    replace hc := hc _ _ rfl
    obtain ⟨hc, rfl⟩ := hc
    rw [gho_g] at hc
    replace hc := w01 hc
    refine R_un ?_
    refine R_if_eq (q := 11) (tgt := 20) rfl rfl (by decide) (by omega) (fun h8 => ?_) (fun h8 => ?_)
    · omega
    · refine R_iload_n (q := 12) (i := 3) rfl rfl rfl rfl ?_
      refine R_iconst (q := 13) rfl rfl ?_
      refine R_iconst (q := 14) rfl rfl ?_
      refine R_cS3I (q := 17) (ci := 9) (C := C_X6_isWithin) rfl rfl rfl rfl rfl ⟨_, _, _, rfl, (by first | trivial | assumption | omega)⟩ rfl rfl (fun x M' hc => ?_)
      replace hc := hc _ _ _ rfl
      obtain ⟨w14, rfl⟩ := hc
      refine R_if_ne (q := 20) (tgt := 22) rfl rfl (by decide) (by omega) (fun h17 => ?_) (fun h17 => ?_)
      · refine R_iload_n (q := 23) (i := 2) rfl rfl rfl rfl ?_
        refine R_iconst (q := 24) rfl rfl ?_
        refine R_iconst (q := 25) rfl rfl ?_
        refine R_cS3I (q := 28) (ci := 9) (C := C_X6_isWithin) rfl rfl rfl rfl rfl ⟨_, _, _, rfl, (by first | trivial | assumption | omega)⟩ rfl rfl (fun x M' hc => ?_)
        replace hc := hc _ _ _ rfl
        obtain ⟨w25, rfl⟩ := hc
        refine R_if_eq (q := 31) (tgt := 42) rfl rfl (by decide) (by omega) (fun h28 => ?_) (fun h28 => ?_)
        · refine R_bipush (q := 44) rfl rfl (by decide) ?_
          refine R_ret rfl (Or.inl rfl) ?_
          refine Bo_sm g SmC.rf (fun y N q => ?_)
          rcases q 11 t w k v rfl with ⟨z, _⟩ | ⟨_, _, z, rfl⟩ | ⟨_, z, _⟩
          · exact absurd ⟨hw, by omega⟩ z
          · exact ⟨z.symm, SmR.rf⟩
          · omega
        · refine R_iload (q := 33) rfl rfl rfl ?_
          refine R_iconst (q := 34) rfl rfl ?_
          refine R_bipush (q := 36) rfl rfl (by decide) ?_
          refine R_cS3I (q := 39) (ci := 9) (C := C_X6_isWithin) rfl rfl rfl rfl rfl ⟨_, _, _, rfl, (by first | trivial | assumption | omega)⟩ rfl rfl (fun x M' hc => ?_)
          replace hc := hc _ _ _ rfl
          obtain ⟨w36, rfl⟩ := hc
          refine R_if_ne (q := 42) (tgt := 45) rfl rfl (by decide) (by omega) (fun h39 => ?_) (fun h39 => ?_)
          · refine R_aload_n (q := 46) (i := 0) rfl rfl rfl rfl ?_
            refine R_getR (q := 49) rfl rfl rfl rfl rfl (by omega) ?_
            refine R_aload_n (q := 50) (i := 0) rfl rfl rfl rfl ?_
            refine R_getR (q := 53) rfl rfl rfl rfl rfl (by omega) ?_
            refine R_cV1N (q := 56) (ci := 1) (C := C_X1_keep) rfl rfl rfl rfl rfl ⟨_, _, rfl, ⟨rfl, rfl, g.1.2.1, sz, cm⟩⟩ rfl rfl (by omega) (fun M' hc => ?_)
            replace hc := hc _ _ rfl
            generalize M' = M1 at hc ⊢
            have hk : Kp4 M M1 := hc
            have r1 := hk.r0 (by omega) g.1.1
            have w0 : w = 0 ∨ w = 1 := by omega
            have hk6 : 0 ≤ k ∧ k < 6 := by omega
            have hv9 : 0 ≤ v ∧ v ≤ 9 := by omega
            have t64 : t < 64 := by omega
            have hl : LAY L (29 + w.toNat) = .inr (.inl (0, 64)) := by
              rcases w0 with rfl | rfl <;> rfl
            obtain ⟨D, hD⟩ : ∃ D, D = M 12 (87 + 9 * t + w) := ⟨_, rfl⟩
            have bd : 0 ≤ D ∧ D < 1000000 := by
              obtain ⟨-, c1, c2, -⟩ := I.1.2.2.2 t hw2.1.1 t64
              rw [hD]
              rcases w0 with rfl | rfl
              · rw [Int.add_zero]
                exact c1
              · rw [show 87 + 9 * t + 1 = 88 + 9 * t by omega]
                exact c2
            have pc := pap_cl hw2.1.1 w0
            have ep : M1 (29 + w.toNat) t = nib D := by
              rw [hD]
              exact r1.atp (87 + 9 * t + w) ⟨by unfold Pv; omega, by omega⟩ pc.1 pc.2.1 pc.2.2
            have nb := nib_bd bd.1
            refine R_aload_n (q := 57) (i := 0) rfl rfl rfl rfl ?_
            refine R_getR (q := 60) rfl rfl rfl rfl rfl (by omega) ?_
            refine R_getR (q := 63) rfl rfl rfl (lay0 st15) rfl (by omega) ?_
            refine R_getR (q := 66) rfl rfl rfl (lay_tk (tkI st15)) rfl (by omega) ?_
            refine R_iload_n (q := 67) (i := 2) rfl rfl rfl rfl ?_
            refine R_aald (q := 68) (r2 := 29 + w.toNat) rfl rfl (lay_tp (tkI st15)) (by omega) (by omega) rfl ?_
            refine R_astore (q := 70) rfl rfl rfl ?_
            refine R_aload (q := 72) rfl rfl rfl ?_
            refine R_iload_n (q := 73) (i := 1) rfl rfl rfl rfl ?_
            refine R_aload (q := 75) rfl rfl rfl ?_
            refine R_iload_n (q := 76) (i := 1) rfl rfl rfl rfl ?_
            refine R_iald (q := 77) (v := nib D) rfl rfl hl (by omega) (by omega) ep ?_
            refine R_iload_n (q := 78) (i := 3) rfl rfl rfl rfl ?_
            refine R_iload (q := 80) rfl rfl rfl ?_
            refine R_cS3I (q := 83) (ci := 9) (C := C_X3_withPieces) rfl rfl rfl rfl rfl ⟨_, _, _, rfl, ⟨nb, hk6, hv9⟩⟩ rfl rfl (fun x M' hc => ?_)
            replace hc := hc _ _ _ rfl
            obtain ⟨hx, rfl⟩ := hc
            rw [nib_dig bd.1 hk6, ← nib_set bd hv9 hk6] at hx
            subst hx
            have r2 : RelS (upM M1 (29 + w.toNat) t (nib (D + (v - dig D k) * pw k))) 15 (mnd (M 12) t w k v) := by
              unfold mnd
              rw [← hD]
              exact r1.up (87 + 9 * t + w) (by unfold Pv; omega) (by omega) pc.1 pc.2.1 (en_p pc.2.2)
            have I2 := mnd_Inv I ⟨hw2.1.1, t64⟩ w0 hk6 hv9
            have f2 : FrS M1 (upM M1 (29 + w.toNat) t (nib (D + (v - dig D k) * pw k))) 15 := FrS.rf.up (by omega) (by omega)
            have e7 : mnd (M 12) t w k v 7 = M 12 7 := us_n (by omega)
            refine R_iast (q := 84) rfl rfl hl (by omega) (by omega) rfl ?_
            refine R_aload_n (q := 85) (i := 0) rfl rfl rfl rfl ?_
            refine R_getR (q := 88) rfl rfl rfl rfl rfl (by omega) ?_
            refine R_iload_n (q := 89) (i := 1) rfl rfl rfl rfl ?_
            refine R_gh (mnd (M 12) t w k v) ?_
            refine R_cV1I (q := 92) (ci := 4) (C := C_X4_doubtOf) rfl rfl rfl rfl rfl ⟨_, _, rfl, ⟨si_gh st15 r2 I2, by rw [gho_g, e7]; exact hw2.1⟩⟩ rfl (lay0 st15) (by omega) (fun x M' hc => ?_)
            replace hc := hc _ _ rfl
            obtain ⟨hc, rfl⟩ := hc
            simp only [gho_g] at hc
            subst hc
            refine R_un ?_
            refine R_ret rfl (Or.inl rfl) ?_
            refine Bo_chg g hk f2 r2 ⟨I2, by unfold mnd; rw [us_n (by omega)]; exact g.2.1.2⟩ (fun y N q => ?_)
            have e12 := hk.e12 f2 (r := 12) (by omega) (by omega)
            rcases q 11 t w k v rfl with ⟨z, _⟩ | ⟨_, z, _⟩ | ⟨_, _, g2, z1, z2, z3, z4, z5⟩
            · exact absurd ⟨by rw [e12]; exact hw, hk6⟩ z
            · exact absurd ⟨w0, hv9⟩ z
            · rw [e12] at z1
              have wm := z1.mnd_ (t := t) (w := w) (k := k) (v := v) ⟨hw2.1.1, t64⟩ (by omega)
              refine ⟨?_, _, wm, z3, z4, z5⟩
              rw [z2]
              exact (wm.dbt_ I2.1 ⟨hw2.1.1, t64⟩).symm
          · refine R_bipush (q := 44) rfl rfl (by decide) ?_
            refine R_ret rfl (Or.inl rfl) ?_
            refine Bo_sm g SmC.rf (fun y N q => ?_)
            rcases q 11 t w k v rfl with ⟨z, _⟩ | ⟨_, _, z, rfl⟩ | ⟨_, z, _⟩
            · exact absurd ⟨hw, by omega⟩ z
            · exact ⟨z.symm, SmR.rf⟩
            · omega
      · refine R_iconst (q := 21) rfl rfl ?_
        refine R_ret rfl (Or.inl rfl) ?_
        refine Bo_sm g SmC.rf (fun y N q => ?_)
        rcases q 11 t w k v rfl with ⟨_, z, rfl⟩ | ⟨z, _⟩ | ⟨z, _⟩
        · exact ⟨z.symm, SmR.rf⟩
        · omega
        · omega
  · refine R_aload_n (q := 1) (i := 0) rfl rfl rfl rfl ?_
    refine R_getR (q := 4) rfl rfl rfl rfl rfl (by omega) ?_
    refine R_iload_n (q := 5) (i := 1) rfl rfl rfl rfl ?_
    refine R_gh (M 12) ?_
    refine R_cV1I (q := 8) (ci := 4) (C := C_X4_isWaiting) rfl rfl rfl rfl rfl ⟨_, _, rfl, ⟨g.si, h1⟩⟩ rfl (lay0 st15) (by omega) (fun x M' hc => ?_)
    replace hc := hc _ _ rfl
    obtain ⟨hc, rfl⟩ := hc
    rw [gho_g] at hc
    replace hc := w01 hc
    refine R_un ?_
    refine R_if_eq (q := 11) (tgt := 20) rfl rfl (by decide) (by omega) (fun h8 => ?_) (fun h8 => ?_)
    · refine R_iconst (q := 21) rfl rfl ?_
      refine R_ret rfl (Or.inl rfl) ?_
      refine Bo_sm g SmC.rf (fun y N q => ?_)
      rcases q 11 t w k v rfl with ⟨_, z, rfl⟩ | ⟨z, _⟩ | ⟨z, _⟩
      · exact ⟨z.symm, SmR.rf⟩
      · exact absurd z.1 hw
      · exact absurd z.1 hw
    · exact absurd (by unfold wtT; omega) hw
set_option maxRecDepth 100000 in
theorem mt_X6_mend : MtOK yX6_mend cX6_mend 6 (some .int) 3 C_X6_mend := by
  refine mt_of sx_X6_mend (by decide +kernel) (Or.inl ⟨rfl, rfl, rfl⟩) (by decide +kernel) fdX6_ok kLX6_ok kIX6_ok sgX6_ok ntX6_ok
    (all_cons (clokV mt_X4_isWaiting rfl (GT_at 360 (by decide +kernel) (by decide +kernel)) (GT_at 12 (by decide +kernel) (by decide +kernel)) (GT_at 363 (by decide +kernel) (by decide +kernel)) (by decide +kernel) (by decide) (GT_at 361 (by decide +kernel) (by decide +kernel)) (GT_at 362 (by decide +kernel) (by decide +kernel)) rfl rfl) (all_cons (clokS mt_X6_isWithin (GT_at 282 (by decide +kernel) (by decide +kernel)) (GT_at 11 (by decide +kernel) (by decide +kernel)) (GT_at 284 (by decide +kernel) (by decide +kernel)) (by decide +kernel) (by decide) (GT_at 283 (by decide +kernel) (by decide +kernel))) (all_cons (clokV mt_X1_keep rfl (GT_at 245 (by decide +kernel) (by decide +kernel)) (GT_at 15 (by decide +kernel) (by decide +kernel)) (GT_at 248 (by decide +kernel) (by decide +kernel)) (by decide +kernel) (by decide) (GT_at 246 (by decide +kernel) (by decide +kernel)) (GT_at 247 (by decide +kernel) (by decide +kernel)) rfl rfl) (all_cons (clokS mt_X3_withPieces (GT_at 368 (by decide +kernel) (by decide +kernel)) (GT_at 17 (by decide +kernel) (by decide +kernel)) (GT_at 240 (by decide +kernel) (by decide +kernel)) (by decide +kernel) (by decide) (GT_at 239 (by decide +kernel) (by decide +kernel))) (all_cons (clokV mt_X4_doubtOf rfl (GT_at 369 (by decide +kernel) (by decide +kernel)) (GT_at 12 (by decide +kernel) (by decide +kernel)) (GT_at 372 (by decide +kernel) (by decide +kernel)) (by decide +kernel) (by decide) (GT_at 370 (by decide +kernel) (by decide +kernel)) (GT_at 371 (by decide +kernel) (by decide +kernel)) rfl rfl) (all_nil)))))) ?_ ?_
  · rintro as M - ⟨o, t, w, k, v, rfl, hp⟩
    exact Nat.le_of_ble_eq_true rfl
  · rintro L scr as M - ⟨o, t, w, k, v, rfl, hp⟩
    exact Runs.mono (fun x M' h _ _ _ _ _ e => by cases e; exact h) (ok_X6_mend L scr o t w k v M hp)
abbrev C_X6_turn : Ct := (2, true, fun as M => ∃ (o : Nat) (n : Int), as = [wR o, wI n] ∧ (o = 3 ∧ GI M ∧ inr n), fun as M x M' => ∀ (o : Nat) (n : Int), as = [wR o, wI n] → (Bo C_X7_turn [wR 11, wI n] M M' x))
def sx_X6_turn : Sx := (tb_X6_turn, fdX6, kLX6, kIX6, sgX6, ntX6, [(41, (9, C_X6_isWithin)), (52, (1, C_X1_keep)), (137, (4, C_X4_makeTurns))], 1)
set_option maxRecDepth 100000 in
set_option maxHeartbeats 1000000 in
theorem ok_X6_turn (L : Nat) (scr : Int → Int) (o : Nat) (n : Int) (M : Mem) (hp : o = 3 ∧ GI M ∧ inr n) : Runs sx_X6_turn L (xcF scr) (fun x M' => Bo C_X7_turn [wR 11, wI n] M M' x) 0 [wR o, wI n] [] M := by
  obtain ⟨rfl, g, h1⟩ := hp
  have sz := g.sz
  have cm := g.cm
  have I := g.2.1.1
  have i6 := I.2.1.1
  have t6 := g.2.1.2
  have e6 : M 15 5 = M 12 6 := g.1.1.tm
  refine R_iload_n (q := 1) (i := 1) rfl rfl rfl rfl ?_
  refine R_iconst (q := 2) rfl rfl ?_
  refine R_bipush (q := 4) rfl rfl (by decide) ?_
  refine R_cS3I (q := 7) (ci := 9) (C := C_X6_isWithin) rfl rfl rfl rfl rfl ⟨_, _, _, rfl, (by first | trivial | assumption | omega)⟩ rfl rfl (fun x M' hc => ?_)
  replace hc := hc _ _ _ rfl
  obtain ⟨w4, rfl⟩ := hc
  refine R_if_ne (q := 10) (tgt := 13) rfl rfl (by decide) (by omega) (fun h7 => ?_) (fun h7 => ?_)
  · refine R_aload_n (q := 14) (i := 0) rfl rfl rfl rfl ?_
    refine R_getR (q := 17) rfl rfl rfl rfl rfl (by omega) ?_
    refine R_getI (q := 20) (k1 := 5) rfl rfl rfl (lay0 st15) rfl (by omega) rfl ?_
    rw [e6]
    refine R_iload_n (q := 21) (i := 1) rfl rfl rfl rfl ?_
    refine R_iadd (q := 22) rfl rfl ?_
    refine R_sipush (q := 25) rfl rfl (by decide) ?_
    refine R_icmp_le (q := 28) (tgt := 31) rfl rfl (by decide) (by omega) (by omega) (fun h25 => ?_) (fun h25 => ?_)
    · refine R_aload_n (q := 32) (i := 0) rfl rfl rfl rfl ?_
      refine R_getR (q := 35) rfl rfl rfl rfl rfl (by omega) ?_
      refine R_aload_n (q := 36) (i := 0) rfl rfl rfl rfl ?_
      refine R_getR (q := 39) rfl rfl rfl rfl rfl (by omega) ?_
      refine R_cV1N (q := 42) (ci := 1) (C := C_X1_keep) rfl rfl rfl rfl rfl ⟨_, _, rfl, ⟨rfl, rfl, g.1.2.1, sz, cm⟩⟩ rfl rfl (by omega) (fun M' hc => ?_)
      replace hc := hc _ _ rfl
      generalize M' = M1 at hc ⊢
      have hk : Kp4 M M1 := hc
      have r1 := hk.r0 (by omega) g.1.1
      refine R_aload_n (q := 43) (i := 0) rfl rfl rfl rfl ?_
      refine R_getR (q := 46) rfl rfl rfl rfl rfl (by omega) ?_
      refine R_iload_n (q := 47) (i := 1) rfl rfl rfl rfl ?_
      refine R_gh (M 12) ?_
      refine R_cV1I (q := 50) (ci := 4) (C := C_X4_makeTurns) rfl rfl rfl rfl rfl ⟨_, _, rfl, ⟨si_gh st15 r1 I, by omega⟩⟩ rfl (lay0 st15) (by omega) (fun x M' hc => ?_)
      replace hc := hc _ _ rfl
      obtain ⟨hx, r2, f2⟩ := hc
      rw [gho_g] at hx r2
      have f2 := f2.gh
      obtain ⟨I2, -, k6⟩ := tnN_Inv n.toNat (M 12) I
      refine R_ret rfl (Or.inl rfl) ?_
      refine Bo_chg g hk f2 r2 ⟨I2, by rw [k6]; omega⟩ (fun y N q => ?_)
      have e12 := hk.e12 f2 (r := 12) (by omega) (by omega)
      rcases q 11 n rfl with ⟨z, _⟩ | ⟨_, z, _⟩ | ⟨_, _, g2, z1, z2, z3, z4, z5⟩
      · omega
      · rw [e12] at z
        omega
      · rw [e12] at z1
        exact ⟨by rw [← hx, z2]; exact (z1.psn_ I _).symm, _, Wn.tnN_ _ _ _ z1 I, z3, z4, z5⟩
    · refine R_bipush (q := 30) rfl rfl (by decide) ?_
      refine R_ret rfl (Or.inl rfl) ?_
      refine Bo_sm g SmC.rf (fun y N q => ?_)
      rcases q 11 n rfl with ⟨z, _⟩ | ⟨_, _, z, rfl⟩ | ⟨_, z, _⟩
      · omega
      · exact ⟨z.symm, SmR.rf⟩
      · omega
  · refine R_bipush (q := 12) rfl rfl (by decide) ?_
    refine R_ret rfl (Or.inl rfl) ?_
    refine Bo_sm g SmC.rf (fun y N q => ?_)
    rcases q 11 n rfl with ⟨_, z, rfl⟩ | ⟨z, _⟩ | ⟨z, _⟩
    · exact ⟨z.symm, SmR.rf⟩
    · omega
    · omega
set_option maxRecDepth 100000 in
theorem mt_X6_turn : MtOK yX6_turn cX6_turn 2 (some .int) 6 C_X6_turn := by
  refine mt_of sx_X6_turn (by decide +kernel) (Or.inl ⟨rfl, rfl, rfl⟩) (by decide +kernel) fdX6_ok kLX6_ok kIX6_ok sgX6_ok ntX6_ok
    (all_cons (clokS mt_X6_isWithin (GT_at 282 (by decide +kernel) (by decide +kernel)) (GT_at 11 (by decide +kernel) (by decide +kernel)) (GT_at 284 (by decide +kernel) (by decide +kernel)) (by decide +kernel) (by decide) (GT_at 283 (by decide +kernel) (by decide +kernel))) (all_cons (clokV mt_X1_keep rfl (GT_at 245 (by decide +kernel) (by decide +kernel)) (GT_at 15 (by decide +kernel) (by decide +kernel)) (GT_at 248 (by decide +kernel) (by decide +kernel)) (by decide +kernel) (by decide) (GT_at 246 (by decide +kernel) (by decide +kernel)) (GT_at 247 (by decide +kernel) (by decide +kernel)) rfl rfl) (all_cons (clokV mt_X4_makeTurns rfl (GT_at 404 (by decide +kernel) (by decide +kernel)) (GT_at 12 (by decide +kernel) (by decide +kernel)) (GT_at 407 (by decide +kernel) (by decide +kernel)) (by decide +kernel) (by decide) (GT_at 405 (by decide +kernel) (by decide +kernel)) (GT_at 406 (by decide +kernel) (by decide +kernel)) rfl rfl) (all_nil)))) ?_ ?_
  · rintro as M - ⟨o, n, rfl, hp⟩
    exact Nat.le_of_ble_eq_true rfl
  · rintro L scr as M - ⟨o, n, rfl, hp⟩
    exact Runs.mono (fun x M' h _ _ e => by cases e; exact h) (ok_X6_turn L scr o n M hp)
abbrev C_X6_sendBack : Ct := (2, true, fun as M => ∃ (o : Nat) (t : Int), as = [wR o, wI t] ∧ (o = 3 ∧ GI M ∧ inr t), fun as M x M' => ∀ (o : Nat) (t : Int), as = [wR o, wI t] → (Bo C_X7_sendBack [wR 11, wI t] M M' x))
def sx_X6_sendBack : Sx := (tb_X6_sendBack, fdX6, kLX6, kIX6, sgX6, ntX6, [(104, (4, C_X4_isWaiting)), (52, (1, C_X1_keep)), (121, (4, C_X4_deskOf)), (124, (0, C_X0_dismiss))], 1)
set_option maxRecDepth 100000 in
set_option maxHeartbeats 1000000 in
theorem ok_X6_sendBack (L : Nat) (scr : Int → Int) (o : Nat) (t : Int) (M : Mem) (hp : o = 3 ∧ GI M ∧ inr t) : Runs sx_X6_sendBack L (xcF scr) (fun x M' => Bo C_X7_sendBack [wR 11, wI t] M M' x) 0 [wR o, wI t, none] [] M := by
  obtain ⟨rfl, g, h1⟩ := hp
  have sz := g.sz
  have cm := g.cm
  have I := g.2.1.1
  have i7 := g.i7
  by_cases hw : wtT (M 12) t
  · have hw2 := hw
    unfold wtT at hw2
    obtain ⟨d, p, q, hq⟩ := ((I.2.2.2.2.2.2.1 t hw2.1.1 hw2.1.2).2.2 hw2.2).2
    obtain ⟨e1, e2⟩ := I.at q hq
    have e3 := e1 d q.1 q.2.1
    rw [if_pos rfl] at e3
    have hd : 0 ≤ d ∧ d < 3 := ⟨q.1, q.2.1⟩
    have le := I.le hd.1 hd.2
    have t64 : t < 64 := by omega
    have q3 := q.2.2
    refine R_aload_n (q := 1) (i := 0) rfl rfl rfl rfl ?_
    refine R_getR (q := 4) rfl rfl rfl rfl rfl (by omega) ?_
    refine R_iload_n (q := 5) (i := 1) rfl rfl rfl rfl ?_
    refine R_gh (M 12) ?_
    refine R_cV1I (q := 8) (ci := 4) (C := C_X4_isWaiting) rfl rfl rfl rfl rfl ⟨_, _, rfl, ⟨g.si, h1⟩⟩ rfl (lay0 st15) (by omega) (fun x M' hc => ?_)
    replace hc := hc _ _ rfl
    obtain ⟨hc, rfl⟩ := hc
    rw [gho_g] at hc
    replace hc := w01 hc
    refine R_un ?_
    refine R_if_ne (q := 11) (tgt := 13) rfl rfl (by decide) (by omega) (fun h8 => ?_) (fun h8 => ?_)
    · refine R_aload_n (q := 14) (i := 0) rfl rfl rfl rfl ?_
      refine R_getR (q := 17) rfl rfl rfl rfl rfl (by omega) ?_
      refine R_aload_n (q := 18) (i := 0) rfl rfl rfl rfl ?_
      refine R_getR (q := 21) rfl rfl rfl rfl rfl (by omega) ?_
      refine R_cV1N (q := 24) (ci := 1) (C := C_X1_keep) rfl rfl rfl rfl rfl ⟨_, _, rfl, ⟨rfl, rfl, g.1.2.1, sz, cm⟩⟩ rfl rfl (by omega) (fun M' hc => ?_)
      replace hc := hc _ _ rfl
      generalize M' = M1 at hc ⊢
      have hk : Kp4 M M1 := hc
      have r1 := hk.r0 (by omega) g.1.1
      refine R_aload_n (q := 25) (i := 0) rfl rfl rfl rfl ?_
      refine R_getR (q := 28) rfl rfl rfl rfl rfl (by omega) ?_
      refine R_iload_n (q := 29) (i := 1) rfl rfl rfl rfl ?_
      refine R_gh (M 12) ?_
      refine R_cV1I (q := 32) (ci := 4) (C := C_X4_deskOf) rfl rfl rfl rfl rfl ⟨_, _, rfl, ⟨si_gh st15 r1 I, h1⟩⟩ rfl (lay0 st15) (by omega) (fun x M' hc => ?_)
      replace hc := hc _ _ rfl
      obtain ⟨hc, rfl⟩ := hc
      rw [gho_g, e2] at hc
      subst hc
      refine R_un ?_
      have ew := r1.wa hd
      refine R_istore_n (q := 33) (i := 2) rfl rfl rfl rfl ?_
      refine R_iload_n (q := 34) (i := 2) rfl rfl rfl rfl ?_
      refine R_bipush (q := 36) rfl rfl (by decide) ?_
      refine R_icmp_eq (q := 39) (tgt := 52) rfl rfl (by decide) (by omega) (by omega) (fun h36 => ?_) (fun h36 => ?_)
      · omega
      · refine R_aload_n (q := 40) (i := 0) rfl rfl rfl rfl ?_
        refine R_getR (q := 43) rfl rfl rfl rfl rfl (by omega) ?_
        refine R_getR (q := 46) rfl rfl rfl (lay0 st15) rfl (by omega) ?_
        refine R_iload_n (q := 47) (i := 2) rfl rfl rfl rfl ?_
        refine R_aald (q := 48) (r2 := 15 + 5 + 2 * d.toNat) rfl rfl (layi st15 rfl) (by omega) (by omega) rfl ?_
        refine R_iload_n (q := 49) (i := 1) rfl rfl rfl rfl ?_
        refine R_cV1N (q := 52) (ci := 0) (C := C_X0_dismiss) rfl rfl rfl rfl rfl ⟨_, _, rfl, ⟨dkI st15 hd, by rw [ew]; exact le, h1, fun p' a b => by rw [ew] at b; rw [r1.qu hd (by omega)]; have := I.2.2.2.2.1 d p' ⟨hd.1, hd.2, a, b⟩; omega, p, by omega, by omega, by rw [r1.qu hd (by omega)]; exact hq⟩⟩ rfl (lay_dk (dkI st15 hd)) (by omega) (fun M' hc => ?_)
        replace hc := hc _ _ rfl
        obtain ⟨p2, ⟨s1, s2, s3, -⟩, rfl⟩ := hc
        rw [ew] at s2
        rw [r1.qu hd (by omega)] at s3
        have ep : p2 = p := (I.2.2.2.2.2.1 d p2 d p ⟨hd.1, hd.2, s1, s2⟩ q (s3.trans hq.symm)).2
        subst ep
        have r2 := r1.ds (p := p2) hd (by omega) (by omega)
        have f2 : FrS M1 (dsM M1 (15 + 5 + 2 * d.toNat) p2) 15 := FrS.rf.ds (by omega)
        generalize dsM M1 (15 + 5 + 2 * d.toNat) p2 = N2 at r2 f2 ⊢
        have r3 := tkU r2 (t := t) (c := 4) (x := 3) (r := 15 + 11 + 8) ⟨hw2.1.1, t64⟩ (by omega) rfl rfl (i := 90 + 9 * t) (by omega)
        have f3 : FrS M1 (upM N2 (15 + 11 + 8) t 3) 15 := f2.up (by omega) (by omega)
        have r4 : RelS (upM N2 (15 + 11 + 8) t 3) 15 (sbk (M 12) t) := r3.cg (fun i hi => by
          have h10 := hi.1.2.2.2.2.1
          unfold sbk
          rw [e2, e3, us_n h10])
        have I4 := sbk_Inv I hw
        have eo : ∀ j, j ≠ 27 + 4 * d → (j < 38 ∨ 86 ≤ j) → j ≠ 90 + 9 * t → j ≠ 10 → sbk (M 12) t j = M 12 j := fun j a b c e => by
          unfold sbk
          rw [e2, e3]
          exact sbk_o hd q3.1 le.2 a b c e
        have ea : upM N2 (15 + 11 + 8) t 3 (15 + 11 + 6) t = M 12 (91 + 9 * t) := by
          rw [← eo (91 + 9 * t) (by omega) (by omega) (by omega) (by omega)]
          exact r4.ac (by rw [eo 7 (by omega) (by omega) (by omega) (by omega)]; exact hw2.1) t64
        refine R_aload_n (q := 53) (i := 0) rfl rfl rfl rfl ?_
        refine R_getR (q := 56) rfl rfl rfl rfl rfl (by omega) ?_
        refine R_getR (q := 59) rfl rfl rfl (lay0 st15) rfl (by omega) ?_
        refine R_getR (q := 62) rfl rfl rfl (lay_tk (tkI st15)) rfl (by omega) ?_
        refine R_iload_n (q := 63) (i := 1) rfl rfl rfl rfl ?_
        refine R_iconst (q := 64) rfl rfl ?_
        refine R_iast (q := 65) rfl rfl (lay_ta (tkI st15) rfl) (by omega) (by omega) rfl ?_
        refine R_aload_n (q := 66) (i := 0) rfl rfl rfl rfl ?_
        refine R_getR (q := 69) rfl rfl rfl rfl rfl (by omega) ?_
        refine R_getR (q := 72) rfl rfl rfl (lay0 st15) rfl (by omega) ?_
        refine R_getR (q := 75) rfl rfl rfl (lay_tk (tkI st15)) rfl (by omega) ?_
        refine R_iload_n (q := 76) (i := 1) rfl rfl rfl rfl ?_
        refine R_iald (q := 77) rfl rfl (lay_ta (tkI st15) rfl) (by omega) (by omega) rfl ?_
        refine R_ret rfl (Or.inl rfl) ?_
        refine Bo_chg g hk f3 r4 ⟨I4, by rw [eo 6 (by omega) (by omega) (by omega) (by omega)]; exact g.2.1.2⟩ (fun y N z => ?_)
        have e12 := hk.e12 f3 (r := 12) (by omega) (by omega)
        rcases z 11 t rfl with ⟨z, _⟩ | ⟨_, g2, z1, z2, z3, z4, z5⟩
        · exact absurd (by rw [e12]; exact hw) z
        · rw [e12] at z1
          exact ⟨by rw [z2, z1 (91 + 9 * t) (by omega) (by omega)]; exact ea, _, z1.sbk_ I (by rw [e2]; exact hd) (by rw [e2, e3]; omega), z3, z4, z5⟩
    · omega
  · refine R_aload_n (q := 1) (i := 0) rfl rfl rfl rfl ?_
    refine R_getR (q := 4) rfl rfl rfl rfl rfl (by omega) ?_
    refine R_iload_n (q := 5) (i := 1) rfl rfl rfl rfl ?_
    refine R_gh (M 12) ?_
    refine R_cV1I (q := 8) (ci := 4) (C := C_X4_isWaiting) rfl rfl rfl rfl rfl ⟨_, _, rfl, ⟨g.si, h1⟩⟩ rfl (lay0 st15) (by omega) (fun x M' hc => ?_)
    replace hc := hc _ _ rfl
    obtain ⟨hc, rfl⟩ := hc
    rw [gho_g] at hc
    replace hc := w01 hc
    refine R_un ?_
    refine R_if_ne (q := 11) (tgt := 13) rfl rfl (by decide) (by omega) (fun h8 => ?_) (fun h8 => ?_)
    · exact absurd (by unfold wtT; omega) hw
    · refine R_iconst (q := 12) rfl rfl ?_
      refine R_ret rfl (Or.inl rfl) ?_
      refine Bo_sm g SmC.rf (fun y N q => ?_)
      rcases q 11 t rfl with ⟨_, z, rfl⟩ | ⟨z, _⟩
      · exact ⟨z.symm, SmR.rf⟩
      · exact absurd z hw
set_option maxRecDepth 100000 in
theorem mt_X6_sendBack : MtOK yX6_sendBack cX6_sendBack 3 (some .int) 3 C_X6_sendBack := by
  refine mt_of sx_X6_sendBack (by decide +kernel) (Or.inl ⟨rfl, rfl, rfl⟩) (by decide +kernel) fdX6_ok kLX6_ok kIX6_ok sgX6_ok ntX6_ok
    (all_cons (clokV mt_X4_isWaiting rfl (GT_at 360 (by decide +kernel) (by decide +kernel)) (GT_at 12 (by decide +kernel) (by decide +kernel)) (GT_at 363 (by decide +kernel) (by decide +kernel)) (by decide +kernel) (by decide) (GT_at 361 (by decide +kernel) (by decide +kernel)) (GT_at 362 (by decide +kernel) (by decide +kernel)) rfl rfl) (all_cons (clokV mt_X1_keep rfl (GT_at 245 (by decide +kernel) (by decide +kernel)) (GT_at 15 (by decide +kernel) (by decide +kernel)) (GT_at 248 (by decide +kernel) (by decide +kernel)) (by decide +kernel) (by decide) (GT_at 246 (by decide +kernel) (by decide +kernel)) (GT_at 247 (by decide +kernel) (by decide +kernel)) rfl rfl) (all_cons (clokV mt_X4_deskOf rfl (GT_at 387 (by decide +kernel) (by decide +kernel)) (GT_at 12 (by decide +kernel) (by decide +kernel)) (GT_at 390 (by decide +kernel) (by decide +kernel)) (by decide +kernel) (by decide) (GT_at 388 (by decide +kernel) (by decide +kernel)) (GT_at 389 (by decide +kernel) (by decide +kernel)) rfl rfl) (all_cons (clokV mt_X0_dismiss rfl (GT_at 395 (by decide +kernel) (by decide +kernel)) (GT_at 13 (by decide +kernel) (by decide +kernel)) (GT_at 398 (by decide +kernel) (by decide +kernel)) (by decide +kernel) (by decide) (GT_at 396 (by decide +kernel) (by decide +kernel)) (GT_at 397 (by decide +kernel) (by decide +kernel)) rfl rfl) (all_nil))))) ?_ ?_
  · rintro as M - ⟨o, t, rfl, hp⟩
    exact Nat.le_of_ble_eq_true rfl
  · rintro L scr as M - ⟨o, t, rfl, hp⟩
    exact Runs.mono (fun x M' h _ _ e => by cases e; exact h) (ok_X6_sendBack L scr o t M hp)
