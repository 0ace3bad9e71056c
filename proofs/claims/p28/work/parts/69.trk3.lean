/-! THE LAW'S trunks: its loop -/
def SmA (M M' : Mem) : Prop := GI M' ∧ ∀ r, (r ≤ 2 ∨ 11 ≤ r) → r ≤ 14 → M' r = M r
theorem SmA.s {M N N1 : Mem} (h : SmA M N) (s : Sme N N1) : SmA M N1 := ⟨s.1, fun r a b => (s.2.1 r a b).trans (h.2 r a b)⟩
theorem SmA.u {M N : Mem} (h : SmA M N) {r : Nat} (hr : 191 ≤ r) (i x : Int) : SmA M (upM N r i x) := ⟨GI_co h.1 (fun r' z => upM_ne r' (by omega)), fun r' a b => (upM_ne r' (by omega)).trans (h.2 r' a b)⟩
theorem SmA.e12 {M N : Mem} (h : SmA M N) : N 12 = M 12 := h.2 12 (by omega) (by omega)
def ArI (f : Int → Int) (kw kq : Nat) (i : Int) (N : Mem) : Prop := (∀ w, 0 ≤ w → w < 4 → N 191 w = cF f w kw) ∧ ∀ j, 0 ≤ j → j < 3 → N 192 j = qS f j (fun _ => 1) (if j < i then kq + 1 else kq) ∧ N 193 j = qS f j (dbt f) (if j < i then kq + 1 else kq)
theorem ArI_w {f : Int → Int} {N N1 : Mem} {k : Nat} (hA : ArI f k k 0 N) (s : Sme N N1) (st : 0 ≤ f (90 + 9 * (k : Int)) ∧ f (90 + 9 * (k : Int)) ≤ 3) : ArI f (k + 1) k 0 (upM N1 191 (f (90 + 9 * (k : Int))) (N1 191 (f (90 + 9 * (k : Int))) + 1)) := by
  have e1 := s.2.2 191 (by omega) (by omega)
  have e2 := s.2.2 192 (by omega) (by omega)
  have e3 := s.2.2 193 (by omega) (by omega)
  refine ⟨fun w a b => ?_, fun j a b => ?_⟩
  · show _ = cF f w k + bt_ (f (90 + 9 * (k : Int)) = w) 1
    by_cases z : w = f (90 + 9 * (k : Int))
    · subst z
      rw [upM_s, bt_t rfl, e1, hA.1 _ a b]
    · rw [upM_k z, bt_f (fun y => z y.symm), e1, hA.1 _ a b, Int.add_zero]
  · rw [upM_ne 192 (by omega), upM_ne 193 (by omega), e2, e3]
    exact hA.2 j a b
theorem ArI_q {f : Int → Int} {N : Mem} {kw kq : Nat} {i b c : Int} (hA : ArI f kw kq i N) (hi : 0 ≤ i ∧ i < 3) (hb : b = bt_ (dko f (kq : Int) 3 = i) 1) (hc : c = bt_ (dko f (kq : Int) 3 = i) (dbt f (kq : Int))) : ArI f kw kq (i + 1) (upM (upM N 192 i (N 192 i + b)) 193 i ((upM N 192 i (N 192 i + b)) 193 i + c)) := by
  refine ⟨fun w x y => ?_, fun j x y => ?_⟩
  · rw [upM_ne 191 (by omega), upM_ne 191 (by omega)]
    exact hA.1 w x y
  · obtain ⟨p, q⟩ := hA.2 j x y
    rw [upM_ne 192 (by omega)]
    by_cases z : j = i
    · subst z
      rw [if_neg (by omega)] at p q
      rw [upM_s, upM_s, upM_ne 193 (by omega), p, q, if_pos (by omega), hb, hc]
      exact ⟨rfl, rfl⟩
    · rw [upM_k z, upM_k z, upM_ne 193 (by omega), p, q]
      by_cases y : j < i
      · rw [if_pos y, if_pos (by omega)]
        exact ⟨rfl, rfl⟩
      · rw [if_neg y, if_neg (by omega)]
        exact ⟨rfl, rfl⟩
theorem ArI_e {f : Int → Int} {N : Mem} {kw kq : Nat} (hA : ArI f kw kq 3 N) : ArI f kw (kq + 1) 0 N := ⟨hA.1, fun j x y => by
  have := hA.2 j x y
  rw [if_pos y] at this
  rw [if_neg (by omega)]
  exact this⟩
set_option maxRecDepth 100000 in
set_option maxHeartbeats 8000000 in
theorem trk_loop (L : Nat) (scr : Int → Int) (Q : Int → Mem → Prop) (M : Mem) (f : Int → Int) (hfM : M 12 = f) (O : Ok2 f) (h6 : f 6 ≤ 9999)
    (hout : ∀ (N : Mem) (l8 l9 l10 l11 l12 l13 l14 l15 l16 l17 : PV), SmA M N → ArI f (f 7).toNat (f 7).toNat 0 N → Run2 sx_L_trunks L (xcF scr) true 0 Q 0 599 [wR 3, wI (sA f (f 7).toNat), wI (mdb f (f 7).toNat), wR 191, wR 192, wR 193, wI (cU f (f 7).toNat), wI (((f 7).toNat : Nat) : Int), l8, l9, l10, l11, l12, l13, l14, l15, l16, l17] [] N) :
    ∀ (m k : Nat) (N : Mem) (l8 l9 l10 l11 l12 l13 l14 l15 l16 l17 : PV), k + m = (f 7).toNat → SmA M N → ArI f k k 0 N → Run2 sx_L_trunks L (xcF scr) true 0 Q 0 25 [wR 3, wI (sA f k), wI (mdb f k), wR 191, wR 192, wR 193, wI (cU f k), wI (k : Int), l8, l9, l10, l11, l12, l13, l14, l15, l16, l17] [] N := by
  obtain ⟨I, V, -⟩ := id O
  have i7 := I.i7
  intro m
  induction m with
  | zero =>
    intro k N l8 l9 l10 l11 l12 l13 l14 l15 l16 l17 hk hS hA
    have hk : k = (f 7).toNat := by omega
    subst hk
    have hf : N 12 = f := hS.e12.trans hfM
    have s := Sme.rf hS.1
    have hA' : ∀ N', Sme N N' → ArI f (f 7).toNat (f 7).toNat 0 N' := fun N' s => by
      unfold ArI
      rw [s.2.2 191 (by omega) (by omega), s.2.2 192 (by omega) (by omega), s.2.2 193 (by omega) (by omega)]
      exact hA
    refine T_iload (q := 27) rfl rfl rfl rfl ?_
    refine T_aload_n (q := 28) (i := 0) rfl rfl rfl rfl rfl ?_
    refine T_bipush (q := 30) rfl rfl rfl (by decide) ?_
    refine O_count (q := 33) s rfl rfl rfl rfl (by decide) (by rewrite [hf]; exact cnV_7 _ _) rfl (fun M' s => ?_)
    refine T_icmp_ge (q := 36) (tgt := 599) rfl rfl rfl (by decide) (by omega) (by omega) (fun h33 => ?_) (fun h33 => ?_)
    · exact hout _ _ _ _ _ _ _ _ _ _ _ (hS.s s) (hA' _ s)
    · omega
  | succ m ih =>
    intro k N l8 l9 l10 l11 l12 l13 l14 l15 l16 l17 hk hS hA
    have ks : ((k + 1 : Nat) : Int) = (k : Int) + 1 := by omega
    have hf : N 12 = f := hS.e12.trans hfM
    have hkk : 0 ≤ (k : Int) ∧ (k : Int) < f 7 := by omega
    have hT : hasT (N 12) (k : Int) := by rw [hf]; exact hkk
    have st := (I.2.2.2.2.2.2.1 (k : Int) hkk.1 hkk.2).1
    have st2 := (I.2.2.2.2.2.2.1 (k : Int) hkk.1 hkk.2).2.1
    have db := dbt_bd I.1 (t := (k : Int)) (by omega)
    have dr := dko_r f (k : Int)
    have mb := mdb_bd (f := f) k
    have mdb1 : mdb f (k + 1) = if f (90 + 9 * (k : Int)) = 0 ∧ (mdb f k = -6 ∨ dbt f (mdb f k) < dbt f (k : Int)) then (k : Int) else mdb f k := rfl
    have cu1 : cU f (k + 1) = cU f k + bt_ (f (90 + 9 * (k : Int)) = 2 ∧ f (93 + 9 * (k : Int)) = 0) 1 := rfl
    have J540 : ∀ (y14 : Int) (x16 x17 : PV) (n i : Nat) (N3 : Mem), i + n = 3 → SmA M N3 → ArI f (k + 1) k (i : Int) N3 → Run2 sx_L_trunks L (xcF scr) true 0 Q 0 540 [wR 3, wI (sA f (k + 1)), wI (mdb f (k + 1)), wR 191, wR 192, wR 193, wI (cU f (k + 1)), wI (k : Int), wI (f (90 + 9 * (k : Int))), wI (dko f (k : Int) 3), wI (dbt f (k : Int)), wI (msk f (k : Int)), wI (smP f (k : Int) 6), wI (fmk f (k : Int)), wI y14, wI (i : Int), x16, x17] [] N3 := by
      intro y14 x16 x17 n
      induction n with
      | zero =>
        intro i N3 hi hS3 hA3
        have hi : i = 3 := by omega
        subst hi
        refine T_iload (q := 542) rfl rfl rfl rfl ?_
        refine T_iconst (q := 543) rfl rfl rfl ?_
        refine T_icmp_ge (q := 546) (tgt := 593) rfl rfl rfl (by decide) (by omega) (by omega) (fun h543 => ?_) (fun h543 => ?_)
        · refine T_iinc (q := 596) rfl rfl rfl rfl rfl ?_
          refine T_goto (q := 599) (tgt := 25) rfl rfl rfl (by decide) ?_
          have := ih (k + 1) N3 (wI (f (90 + 9 * (k : Int)))) (wI (dko f (k : Int) 3)) (wI (dbt f (k : Int))) (wI (msk f (k : Int))) (wI (smP f (k : Int) 6)) (wI (fmk f (k : Int))) (wI y14) (wI ((3 : Nat) : Int)) x16 x17 (by omega) hS3 (ArI_e hA3)
          rw [ks] at this
          exact this
        · omega
      | succ n ih2 =>
        intro i N3 hi hS3 hA3
        have is1 : ((i + 1 : Nat) : Int) = (i : Int) + 1 := by omega
        have i3 : 0 ≤ (i : Int) ∧ (i : Int) < 3 := by omega
        refine T_iload (q := 542) rfl rfl rfl rfl ?_
        refine T_iconst (q := 543) rfl rfl rfl ?_
        refine T_icmp_ge (q := 546) (tgt := 593) rfl rfl rfl (by decide) (by omega) (by omega) (fun h543 => ?_) (fun h543 => ?_)
        · omega
        · refine T_aload (q := 548) rfl rfl rfl rfl ?_
          refine T_iload (q := 550) rfl rfl rfl rfl ?_
          refine T_dup2 (q := 551) rfl rfl rfl rfl rfl ?_
          refine T_iald2 (q := 552) rfl rfl rfl rfl (by decide) (aI2 i3) rfl ?_
          refine T_iload (q := 554) rfl rfl rfl rfl ?_
          refine T_iload (q := 556) rfl rfl rfl rfl ?_
          refine T_icmp_ne (q := 559) (tgt := 563) rfl rfl rfl (by decide) (by omega) (by omega) (fun h556 => ?_) (fun h556 => ?_)
          · refine T_iconst (q := 564) rfl rfl rfl ?_
            refine T_iadd (q := 565) rfl rfl rfl ?_
            refine T_iast2 (q := 566) rfl rfl rfl rfl (by decide) (aI2 i3) rfl ?_
            refine T_aload (q := 568) rfl rfl rfl rfl ?_
            refine T_iload (q := 570) rfl rfl rfl rfl ?_
            refine T_dup2 (q := 571) rfl rfl rfl rfl rfl ?_
            refine T_iald2 (q := 572) rfl rfl rfl rfl (by decide) (aI3 i3) rfl ?_
            refine T_iload (q := 574) rfl rfl rfl rfl ?_
            refine T_iload (q := 576) rfl rfl rfl rfl ?_
            refine T_icmp_ne (q := 579) (tgt := 584) rfl rfl rfl (by decide) (by omega) (by omega) (fun h576 => ?_) (fun h576 => ?_)
            · refine T_iconst (q := 585) rfl rfl rfl ?_
              refine T_iadd (q := 586) rfl rfl rfl ?_
              refine T_iast2 (q := 587) rfl rfl rfl rfl (by decide) (aI3 i3) rfl ?_
              refine T_iinc (q := 590) rfl rfl rfl rfl rfl ?_
              refine T_goto (q := 593) (tgt := 540) rfl rfl rfl (by decide) ?_
              first
                | (exfalso; omega)
                | (rw [← is1]
                   refine ih2 (i + 1) _ (by omega) ((hS3.u (by decide) _ _).u (by decide) _ _) ?_
                   rw [is1]
                   exact ArI_q hA3 i3 (bt_f h556).symm (bt_f h576).symm)
                | (rw [← is1]
                   refine ih2 (i + 1) _ (by omega) ((hS3.u (by decide) _ _).u (by decide) _ _) ?_
                   rw [is1]
                   exact ArI_q hA3 i3 (bt_t (by omega)).symm (bt_t (by omega)).symm)
            · refine T_iload (q := 581) rfl rfl rfl rfl ?_
              refine T_goto (q := 584) (tgt := 585) rfl rfl rfl (by decide) ?_
              refine T_iadd (q := 586) rfl rfl rfl ?_
              refine T_iast2 (q := 587) rfl rfl rfl rfl (by decide) (aI3 i3) rfl ?_
              refine T_iinc (q := 590) rfl rfl rfl rfl rfl ?_
              refine T_goto (q := 593) (tgt := 540) rfl rfl rfl (by decide) ?_
              first
                | (exfalso; omega)
                | (rw [← is1]
                   refine ih2 (i + 1) _ (by omega) ((hS3.u (by decide) _ _).u (by decide) _ _) ?_
                   rw [is1]
                   exact ArI_q hA3 i3 (bt_f h556).symm (bt_f h576).symm)
                | (rw [← is1]
                   refine ih2 (i + 1) _ (by omega) ((hS3.u (by decide) _ _).u (by decide) _ _) ?_
                   rw [is1]
                   exact ArI_q hA3 i3 (bt_t (by omega)).symm (bt_t (by omega)).symm)
          · refine T_iconst (q := 560) rfl rfl rfl ?_
            refine T_goto (q := 563) (tgt := 564) rfl rfl rfl (by decide) ?_
            refine T_iadd (q := 565) rfl rfl rfl ?_
            refine T_iast2 (q := 566) rfl rfl rfl rfl (by decide) (aI2 i3) rfl ?_
            refine T_aload (q := 568) rfl rfl rfl rfl ?_
            refine T_iload (q := 570) rfl rfl rfl rfl ?_
            refine T_dup2 (q := 571) rfl rfl rfl rfl rfl ?_
            refine T_iald2 (q := 572) rfl rfl rfl rfl (by decide) (aI3 i3) rfl ?_
            refine T_iload (q := 574) rfl rfl rfl rfl ?_
            refine T_iload (q := 576) rfl rfl rfl rfl ?_
            refine T_icmp_ne (q := 579) (tgt := 584) rfl rfl rfl (by decide) (by omega) (by omega) (fun h576 => ?_) (fun h576 => ?_)
            · refine T_iconst (q := 585) rfl rfl rfl ?_
              refine T_iadd (q := 586) rfl rfl rfl ?_
              refine T_iast2 (q := 587) rfl rfl rfl rfl (by decide) (aI3 i3) rfl ?_
              refine T_iinc (q := 590) rfl rfl rfl rfl rfl ?_
              refine T_goto (q := 593) (tgt := 540) rfl rfl rfl (by decide) ?_
              first
                | (exfalso; omega)
                | (rw [← is1]
                   refine ih2 (i + 1) _ (by omega) ((hS3.u (by decide) _ _).u (by decide) _ _) ?_
                   rw [is1]
                   exact ArI_q hA3 i3 (bt_f h556).symm (bt_f h576).symm)
                | (rw [← is1]
                   refine ih2 (i + 1) _ (by omega) ((hS3.u (by decide) _ _).u (by decide) _ _) ?_
                   rw [is1]
                   exact ArI_q hA3 i3 (bt_t (by omega)).symm (bt_t (by omega)).symm)
            · refine T_iload (q := 581) rfl rfl rfl rfl ?_
              refine T_goto (q := 584) (tgt := 585) rfl rfl rfl (by decide) ?_
              refine T_iadd (q := 586) rfl rfl rfl ?_
              refine T_iast2 (q := 587) rfl rfl rfl rfl (by decide) (aI3 i3) rfl ?_
              refine T_iinc (q := 590) rfl rfl rfl rfl rfl ?_
              refine T_goto (q := 593) (tgt := 540) rfl rfl rfl (by decide) ?_
              first
                | (exfalso; omega)
                | (rw [← is1]
                   refine ih2 (i + 1) _ (by omega) ((hS3.u (by decide) _ _).u (by decide) _ _) ?_
                   rw [is1]
                   exact ArI_q hA3 i3 (bt_f h556).symm (bt_f h576).symm)
                | (rw [← is1]
                   refine ih2 (i + 1) _ (by omega) ((hS3.u (by decide) _ _).u (by decide) _ _) ?_
                   rw [is1]
                   exact ArI_q hA3 i3 (bt_t (by omega)).symm (bt_t (by omega)).symm)
    have J483 : ∀ (y14 : Int) (x15 x16 x17 : PV) (N2 : Mem), SmA M N2 → ArI f (k + 1) k 0 N2 → Run2 sx_L_trunks L (xcF scr) true 0 Q 0 483 [wR 3, wI (sA f (k + 1)), wI (mdb f k), wR 191, wR 192, wR 193, wI (cU f k), wI (k : Int), wI (f (90 + 9 * (k : Int))), wI (dko f (k : Int) 3), wI (dbt f (k : Int)), wI (msk f (k : Int)), wI (smP f (k : Int) 6), wI (fmk f (k : Int)), wI y14, x15, x16, x17] [] N2 := by
      intro y14 x15 x16 x17 N2 hS2 hA2
      have hf2 : N2 12 = f := hS2.e12.trans hfM
      have hT2 : hasT (N2 12) (k : Int) := by rw [hf2]; exact hkk
      have hA2' : ∀ N', Sme N2 N' → ArI f (k + 1) k 0 N' := fun N' s => by
        unfold ArI
        rw [s.2.2 191 (by omega) (by omega), s.2.2 192 (by omega) (by omega), s.2.2 193 (by omega) (by omega)]
        exact hA2
      have J536 : ∀ N3 v, Sme N2 N3 → v = mdb f (k + 1) → Run2 sx_L_trunks L (xcF scr) true 0 Q 0 536 [wR 3, wI (sA f (k + 1)), wI (mdb f k), wR 191, wR 192, wR 193, wI (cU f (k + 1)), wI (k : Int), wI (f (90 + 9 * (k : Int))), wI (dko f (k : Int) 3), wI (dbt f (k : Int)), wI (msk f (k : Int)), wI (smP f (k : Int) 6), wI (fmk f (k : Int)), wI y14, x15, x16, x17] [wI v] N3 := by
        intro N3 v s hv
        subst hv
        refine T_istore_n (q := 537) (i := 2) rfl rfl rfl rfl rfl ?_
        refine T_iconst (q := 538) rfl rfl rfl ?_
        refine T_istore (q := 540) rfl rfl rfl rfl ?_
        exact J540 y14 x16 x17 3 0 N3 rfl (hS2.s s) (hA2' _ s)
      have J508 : ∀ N3 v, Sme N2 N3 → v = cU f (k + 1) → Run2 sx_L_trunks L (xcF scr) true 0 Q 0 508 [wR 3, wI (sA f (k + 1)), wI (mdb f k), wR 191, wR 192, wR 193, wI (cU f k), wI (k : Int), wI (f (90 + 9 * (k : Int))), wI (dko f (k : Int) 3), wI (dbt f (k : Int)), wI (msk f (k : Int)), wI (smP f (k : Int) 6), wI (fmk f (k : Int)), wI y14, x15, x16, x17] [wI v] N3 := by
        intro N3 v s hv
        subst hv
        have dm : ∀ t, 0 ≤ t → t < 64 → 0 ≤ dbt f t ∧ dbt f t ≤ 500 := fun t a b => dbt_bd I.1 ⟨a, b⟩
        refine T_istore (q := 510) rfl rfl rfl rfl ?_
        refine T_iload (q := 512) rfl rfl rfl rfl ?_
        refine T_if_ne (q := 515) (tgt := 535) rfl rfl rfl (by decide) (by omega) (fun h512 => ?_) (fun h512 => ?_)
        · refine T_iload_n (q := 536) (i := 2) rfl rfl rfl rfl rfl ?_
          first
            | exact J536 _ _ s (by rw [mdb1, if_pos (by omega)])
            | exact J536 _ _ s (by rw [mdb1, if_neg (by omega)])
        · refine T_iload_n (q := 516) (i := 2) rfl rfl rfl rfl rfl ?_
          refine T_if_lt (q := 519) (tgt := 530) rfl rfl rfl (by decide) (by omega) (fun h516 => ?_) (fun h516 => ?_)
          · refine T_iload (q := 532) rfl rfl rfl rfl ?_
            refine T_goto (q := 535) (tgt := 536) rfl rfl rfl (by decide) ?_
            first
              | exact J536 _ _ s (by rw [mdb1, if_pos (by omega)])
              | exact J536 _ _ s (by rw [mdb1, if_neg (by omega)])
          · refine T_iload (q := 521) rfl rfl rfl rfl ?_
            refine T_aload_n (q := 522) (i := 0) rfl rfl rfl rfl rfl ?_
            refine T_iload_n (q := 523) (i := 2) rfl rfl rfl rfl rfl ?_
            refine T_iconst (q := 524) rfl rfl rfl ?_
            refine O_trunk (q := 527) s rfl rfl rfl rfl ⟨by rw [hf2]; exact ⟨by omega, by omega⟩, by omega, by omega⟩ (by rewrite [hf2]; exact trV_3 _ _) rfl (fun M' s => ?_)
            have dm1 := dm (mdb f k) (by omega) (by omega)
            refine T_icmp_le (q := 530) (tgt := 535) rfl rfl rfl (by decide) (by omega) (by omega) (fun h527 => ?_) (fun h527 => ?_)
            · refine T_iload_n (q := 536) (i := 2) rfl rfl rfl rfl rfl ?_
              first
                | exact J536 _ _ s (by rw [mdb1, if_pos (by omega)])
                | exact J536 _ _ s (by rw [mdb1, if_neg (by omega)])
            · refine T_iload (q := 532) rfl rfl rfl rfl ?_
              refine T_goto (q := 535) (tgt := 536) rfl rfl rfl (by decide) ?_
              first
                | exact J536 _ _ s (by rw [mdb1, if_pos (by omega)])
                | exact J536 _ _ s (by rw [mdb1, if_neg (by omega)])
      have s := Sme.rf hS2.1
      refine T_iload (q := 485) rfl rfl rfl rfl ?_
      refine T_iload (q := 487) rfl rfl rfl rfl ?_
      refine T_iconst (q := 488) rfl rfl rfl ?_
      refine T_icmp_ne (q := 491) (tgt := 506) rfl rfl rfl (by decide) (by omega) (by omega) (fun h488 => ?_) (fun h488 => ?_)
      · refine T_iconst (q := 507) rfl rfl rfl ?_
        refine T_iadd (q := 508) rfl rfl rfl ?_
        first
          | exact J508 _ _ s (by rw [cu1, bt_f (by omega)])
          | exact J508 _ _ s (by rw [cu1, bt_t (by omega)])
      · refine T_aload_n (q := 492) (i := 0) rfl rfl rfl rfl rfl ?_
        refine T_iload (q := 494) rfl rfl rfl rfl ?_
        refine T_bipush (q := 496) rfl rfl rfl (by decide) ?_
        refine O_trunk (q := 499) s rfl rfl rfl rfl ⟨hT2, by omega, by omega⟩ (by rewrite [hf2]; exact trV_8 _ _) rfl (fun M' s => ?_)
        refine T_if_ne (q := 502) (tgt := 506) rfl rfl rfl (by decide) (by omega) (fun h499 => ?_) (fun h499 => ?_)
        · refine T_iconst (q := 507) rfl rfl rfl ?_
          refine T_iadd (q := 508) rfl rfl rfl ?_
          first
            | exact J508 _ _ s (by rw [cu1, bt_f (by omega)])
            | exact J508 _ _ s (by rw [cu1, bt_t (by omega)])
        · refine T_iconst (q := 503) rfl rfl rfl ?_
          refine T_goto (q := 506) (tgt := 507) rfl rfl rfl (by decide) ?_
          refine T_iadd (q := 508) rfl rfl rfl ?_
          first
            | exact J508 _ _ s (by rw [cu1, bt_f (by omega)])
            | exact J508 _ _ s (by rw [cu1, bt_t (by omega)])
    have J465 : ∀ (x15 x16 x17 : PV) (N1 : Mem), Sme N N1 → Run2 sx_L_trunks L (xcF scr) true 0 Q 0 465 [wR 3, wI (sA f k), wI (mdb f k), wR 191, wR 192, wR 193, wI (cU f k), wI (k : Int), wI (f (90 + 9 * (k : Int))), wI (dko f (k : Int) 3), wI (dbt f (k : Int)), wI (msk f (k : Int)), wI (smP f (k : Int) 6), wI (fmk f (k : Int)), wI (bt_ (msk f (k : Int) = 0) 1), x15, x16, x17] [] N1 := by
      intro x15 x16 x17 N1 s
      refine T_iload_n (q := 466) (i := 1) rfl rfl rfl rfl rfl ?_
      refine T_aload_n (q := 467) (i := 0) rfl rfl rfl rfl rfl ?_
      refine T_iload (q := 469) rfl rfl rfl rfl ?_
      refine T_iconst (q := 470) rfl rfl rfl ?_
      refine O_trunk (q := 473) s rfl rfl rfl rfl ⟨hT, by omega, by omega⟩ (by rewrite [hf]; exact trV_5 _ _) rfl (fun M' s => ?_)
      refine T_iadd (q := 474) rfl rfl rfl ?_
      refine T_istore_n (q := 475) (i := 1) rfl rfl rfl rfl rfl ?_
      refine T_aload_n (q := 476) (i := 3) rfl rfl rfl rfl rfl ?_
      refine T_iload (q := 478) rfl rfl rfl rfl ?_
      refine T_dup2 (q := 479) rfl rfl rfl rfl rfl ?_
      refine T_iald2 (q := 480) rfl rfl rfl rfl (by decide) (aI1 ⟨st.1, by omega⟩) rfl ?_
      refine T_iconst (q := 481) rfl rfl rfl ?_
      refine T_iadd (q := 482) rfl rfl rfl ?_
      refine T_iast2 (q := 483) rfl rfl rfl rfl (by decide) (aI1 ⟨st.1, by omega⟩) rfl ?_
      exact J483 _ _ _ _ _ ((hS.s s).u (by omega) _ _) (ArI_w hA s st)
    have s := Sme.rf hS.1
    refine T_iload (q := 27) rfl rfl rfl rfl ?_
    refine T_aload_n (q := 28) (i := 0) rfl rfl rfl rfl rfl ?_
    refine T_bipush (q := 30) rfl rfl rfl (by decide) ?_
    refine O_count (q := 33) s rfl rfl rfl rfl (by decide) (by rewrite [hf]; exact cnV_7 _ _) rfl (fun M' s => ?_)
    refine T_icmp_ge (q := 36) (tgt := 599) rfl rfl rfl (by decide) (by omega) (by omega) (fun h33 => ?_) (fun h33 => ?_)
    · omega
    · refine T_aload_n (q := 37) (i := 0) rfl rfl rfl rfl rfl ?_
      refine T_iload (q := 39) rfl rfl rfl rfl ?_
      refine T_bipush (q := 41) rfl rfl rfl (by decide) ?_
      refine O_trunk (q := 44) s rfl rfl rfl rfl ⟨hT, by omega, by omega⟩ (by rewrite [hf]; exact trV_7 _ _) rfl (fun M' s => ?_)
      refine T_istore (q := 46) rfl rfl rfl rfl ?_
      refine T_aload_n (q := 47) (i := 0) rfl rfl rfl rfl rfl ?_
      refine T_iload (q := 49) rfl rfl rfl rfl ?_
      refine T_iconst (q := 50) rfl rfl rfl ?_
      refine O_trunk (q := 53) s rfl rfl rfl rfl ⟨hT, by omega, by omega⟩ (by rewrite [hf]; exact trV_1 _ _) rfl (fun M' s => ?_)
      refine T_istore (q := 55) rfl rfl rfl rfl ?_
      refine T_aload_n (q := 56) (i := 0) rfl rfl rfl rfl rfl ?_
      refine T_iload (q := 58) rfl rfl rfl rfl ?_
      refine T_iconst (q := 59) rfl rfl rfl ?_
      refine O_trunk (q := 62) s rfl rfl rfl rfl ⟨hT, by omega, by omega⟩ (by rewrite [hf]; exact trV_3 _ _) rfl (fun M' s => ?_)
      refine T_istore (q := 64) rfl rfl rfl rfl ?_
      refine T_iconst (q := 65) rfl rfl rfl ?_
      refine T_istore (q := 67) rfl rfl rfl rfl ?_
      refine T_iconst (q := 68) rfl rfl rfl ?_
      refine T_istore (q := 70) rfl rfl rfl rfl ?_
      refine T_iconst (q := 71) rfl rfl rfl ?_
      refine T_istore (q := 73) rfl rfl rfl rfl ?_
      refine T_iconst (q := 74) rfl rfl rfl ?_
      refine T_istore (q := 76) rfl rfl rfl rfl ?_
      exact trk_kind L scr Q f N (k : Int) (sA f k) (mdb f k) (cU f k) (f (90 + 9 * (k : Int))) (dko f (k : Int) 3) (dbt f (k : Int)) hf I hkk (fun N1 y14 y15 y16 y17 s1 => trk_chk L scr Q f N (k : Int) (sA f k) (mdb f k) (cU f k) hf O h6 hkk y15 y16 y17 (fun N2 s2 => J465 _ _ _ N2 s2) y14 N1 s1) 6 0 _ _ _ _ rfl s
