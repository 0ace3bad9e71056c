/-! THE LAW'S SMALL METHODS: cell, low, types, print -/
def lowF (v n : Int) : Int := i32rem (xiand v 2147483647) n
theorem xiand_bd (v : Int) : 0 ≤ xiand v 2147483647 ∧ xiand v 2147483647 < 2147483648 := by
  unfold xiand
  have h1 : ((Int32.ofInt v &&& Int32.ofInt 2147483647).toBitVec).toNat ≤ 2147483647 := by
    rw [Int32.toBitVec_and, BitVec.toNat_and]
    exact Nat.le_trans Nat.and_le_right (by decide +kernel)
  have h2 : (Int32.ofInt v &&& Int32.ofInt 2147483647).toInt = (((Int32.ofInt v &&& Int32.ofInt 2147483647).toBitVec).toNat : Int) := BitVec.toInt_eq_toNat_of_lt (by omega)
  rw [h2]
  omega
theorem lowF_bd (v : Int) {n : Int} (h : 0 < n) (h2 : n < 2147483648) : 0 ≤ lowF v n ∧ lowF v n < n := by
  have a := xiand_bd v
  unfold lowF
  rw [i32rem_of a.1 a.2 h h2]
  exact ⟨Int.emod_nonneg _ (by omega), Int.emod_lt_of_pos _ h⟩
abbrev C_L_cell : Ct2 := (2, false, 0, fun as M => ∃ (s : Nat) (k : Int), as = [wR s, wI k] ∧ (s = 0 ∧ 0 ≤ k ∧ k < 1000), fun as M x M' => ∀ (s : Nat) (k : Int), as = [wR s, wI k] → (M = M'))
def sx_L_cell : Sx2 := (tb_L_cell, kLL, kIL, [], [], 1)
set_option maxRecDepth 100000 in
set_option maxHeartbeats 2000000 in
theorem ok_L_cell (L : Nat) (scr : Int → Int) (hL : L < 2147483648) (s : Nat) (k : Int) (M : Mem) (hp : s = 0 ∧ 0 ≤ k ∧ k < 1000) : Run2 sx_L_cell L (xcF scr) false 0 (fun x M' => M = M') 0 0 [wR s, wI k] [] M := by
  obtain ⟨rfl, k0, k1⟩ := hp
  refine T_iload_n (q := 1) (i := 1) rfl rfl rfl rfl rfl ?_
  refine T_aload_n (q := 2) (i := 0) rfl rfl rfl rfl rfl ?_
  refine T_alenX (q := 3) rfl rfl rfl (by decide) ?_
  rw [show exN L 0 = L from rfl]
  refine T_icmp_ge (q := 6) (tgt := 12) rfl rfl rfl (by decide) (by omega) (by omega) (fun h3 => ?_) (fun h3 => ?_)
  · refine T_ldc (q := 14) rfl rfl rfl rfl ?_
    refine T_iload_n (q := 15) (i := 1) rfl rfl rfl rfl rfl ?_
    refine T_iconst (q := 16) rfl rfl rfl ?_
    refine T_iadd (q := 17) rfl rfl rfl ?_
    refine T_imul (q := 18) rfl rfl rfl ?_
    refine T_ldc (q := 20) rfl rfl rfl rfl ?_
    refine T_iadd (q := 21) rfl rfl rfl ?_
    refine T_ret rfl rfl (Or.inl rfl) ?_
    rfl
  · refine T_aload_n (q := 7) (i := 0) rfl rfl rfl rfl rfl ?_
    refine T_iload_n (q := 8) (i := 1) rfl rfl rfl rfl rfl ?_
    refine T_ialdX (q := 9) rfl rfl rfl (by decide) (show 0 ≤ k ∧ k < ((L : Nat) : Int) by omega) ?_
    refine T_goto (q := 12) (tgt := 21) rfl rfl rfl (by decide) ?_
    refine T_ret rfl rfl (Or.inl rfl) ?_
    rfl
set_option maxRecDepth 100000 in
set_option maxHeartbeats 1000000 in
theorem mt_L_cell : Mt2 yL_cell cL_cell 2 (some .int) 0 C_L_cell := by
  refine mt2_of sx_L_cell (by decide +kernel) (Or.inl ⟨rfl, rfl, rfl⟩) (by decide +kernel) kLL_ok kIL_ok
    (all_nil)
    (all_nil) ?_ ?_
  · rintro as M - ⟨s, k, rfl, hp⟩
    exact Nat.le_of_ble_eq_true rfl
  · rintro L scr as M hL - ⟨s, k, rfl, hp⟩
    exact Run2.mono (fun x M' h _ _ e => by cases e; exact h) (ok_L_cell L scr hL s k M hp)
abbrev C_L_low : Ct2 := (2, false, 0, fun as M => ∃ (v : Int) (n : Int), as = [wI v, wI n] ∧ (0 < n ∧ n < 1000), fun as M x M' => ∀ (v : Int) (n : Int), as = [wI v, wI n] → (x = lowF v n ∧ M = M'))
def sx_L_low : Sx2 := (tb_L_low, kLL, kIL, [], [], 1)
set_option maxRecDepth 100000 in
set_option maxHeartbeats 2000000 in
theorem ok_L_low (L : Nat) (scr : Int → Int) (hL : L < 2147483648) (v : Int) (n : Int) (M : Mem) (hp : 0 < n ∧ n < 1000) : Run2 sx_L_low L (xcF scr) false 0 (fun x M' => x = lowF v n ∧ M = M') 0 0 [wI v, wI n] [] M := by
  refine T_iload_n (q := 1) (i := 0) rfl rfl rfl rfl rfl ?_
  refine T_ldc (q := 3) rfl rfl rfl rfl ?_
  refine T_iand (q := 4) rfl rfl rfl ?_
  refine T_iload_n (q := 5) (i := 1) rfl rfl rfl rfl rfl ?_
  refine T_irem (q := 6) rfl rfl rfl ⟨⟨by omega, by omega⟩, by omega⟩ ?_
  refine T_ret rfl rfl (Or.inl rfl) ?_
  exact ⟨rfl, rfl⟩
set_option maxRecDepth 100000 in
set_option maxHeartbeats 1000000 in
theorem mt_L_low : Mt2 yL_low cL_low 2 (some .int) 0 C_L_low := by
  refine mt2_of sx_L_low (by decide +kernel) (Or.inl ⟨rfl, rfl, rfl⟩) (by decide +kernel) kLL_ok kIL_ok
    (all_nil)
    (all_nil) ?_ ?_
  · rintro as M - ⟨v, n, rfl, hp⟩
    exact Nat.le_of_ble_eq_true rfl
  · rintro L scr as M hL - ⟨v, n, rfl, hp⟩
    exact Run2.mono (fun x M' h _ _ e => by cases e; exact h) (ok_L_low L scr hL v n M hp)
/-- texts that are typed -/
def tyB (a k p : Int) : Int := if lowF (xishr a (4 + k)) 4 = 0 then p else 0
def tyQ (a c p k : Int) : Int := if lowF (xishr c (k + tyB a k p)) 3 = 0 then lowF (xishr c (3 + k + 2 * tyB a k p)) 10 else 0
abbrev PS : Type := Int × (Int → Int)
def pt2 (S : PS) (ch : Int) : PS := (S.1 + 1, us S.2 S.1 ch)
def tyK (a c p : Int) : Nat → PS → PS
  | 0, S => S
  | n + 1, S => if tyQ a c p (n : Int) = 0 then tyK a c p n S else pt2 (pt2 (tyK a c p n S) (97 + (n : Int))) (48 + tyQ a c p (n : Int))
def sepP (p : Int) : Int := if p = 0 then 58 else if p = 1 then 47 else 61
def tyP (a c : Int) : Nat → PS
  | 0 => pt2 (0, fun _ => 0) (48 + lowF a 5)
  | n + 1 => tyK a c (n : Int) 6 (pt2 (tyP a c n) (sepP (n : Int)))
theorem tyK_bd (a c p : Int) (S : PS) : ∀ n : Nat, S.1 ≤ (tyK a c p n S).1 ∧ (tyK a c p n S).1 ≤ S.1 + 2 * n
  | 0 => by show S.1 ≤ S.1 ∧ S.1 ≤ S.1 + 2 * 0; omega
  | n + 1 => by
    have := tyK_bd a c p S n
    unfold tyK
    split
    · omega
    · show S.1 ≤ (tyK a c p n S).1 + 1 + 1 ∧ (tyK a c p n S).1 + 1 + 1 ≤ S.1 + 2 * ((n + 1 : Nat) : Int)
      omega
theorem tyP_bd (a c : Int) : ∀ n : Nat, 1 ≤ (tyP a c n).1 ∧ (tyP a c n).1 ≤ 1 + 13 * n
  | 0 => by show 1 ≤ (0 : Int) + 1 ∧ (0 : Int) + 1 ≤ 1 + 13 * 0; omega
  | n + 1 => by
    have h := tyP_bd a c n
    have := tyK_bd a c (n : Int) (pt2 (tyP a c n) (sepP (n : Int))) 6
    have e : (pt2 (tyP a c n) (sepP (n : Int))).1 = (tyP a c n).1 + 1 := rfl
    show 1 ≤ (tyK a c (n : Int) 6 (pt2 (tyP a c n) (sepP (n : Int)))).1 ∧ (tyK a c (n : Int) 6 (pt2 (tyP a c n) (sepP (n : Int)))).1 ≤ 1 + 13 * ((n + 1 : Nat) : Int)
    omega
/-- the pad holds this text -/
def PdR (S : PS) (M : Mem) : Prop := M 11 4 = S.1 ∧ ∀ i, 0 ≤ i → i < S.1 → M 14 i = S.2 i
theorem PadS.tr {M M1 M2 : Mem} (h : PadS M M1) (k : PadS M1 M2) : PadS M M2 := ⟨k.1, k.2.1.trans h.2.1, k.2.2.1.trans h.2.2.1, fun j => (k.2.2.2.1 j).trans (h.2.2.2.1 j), fun r a b => (k.2.2.2.2 r a b).trans (h.2.2.2.2 r a b)⟩
theorem put_R {M M' : Mem} {S : PS} {ch x : Int} (h : PdR S M) (hx : x = M 11 4 + 1) (h4 : M' 11 4 = M 11 4 + 1) (h1 : M' 14 (M 11 4) = ch) (ho : ∀ i, i ≠ M 11 4 → M' 14 i = M 14 i) : x = (pt2 S ch).1 ∧ PdR (pt2 S ch) M' := by
  obtain ⟨a, b⟩ := h
  rw [a] at hx h4 h1 ho
  refine ⟨hx, h4, fun i i0 i1 => ?_⟩
  show M' 14 i = us S.2 S.1 ch i
  have i1 : i < S.1 + 1 := i1
  by_cases e : i = S.1
  · rw [e, us_s, h1]
  · rw [us_n e, ho i e, b i i0 (by omega)]
abbrev C_L_types : Ct2 := (3, false, 0, fun as M => ∃ (o : Nat) (a : Int) (c : Int), as = [wR o, wI a, wI c] ∧ (o = 3 ∧ GI M), fun as M x M' => ∀ (o : Nat) (a : Int) (c : Int), as = [wR o, wI a, wI c] → (x = (tyP a c 3).1 ∧ PadS M M' ∧ PdR (tyP a c 3) M'))
def sx_L_types : Sx2 := (tb_L_types, kLL, kIL, [(10, D_wipe), (22, D_put)], [(16, C_L_low)], 1)
set_option maxRecDepth 100000 in
set_option maxHeartbeats 2000000 in
theorem types_k (L : Nat) (scr : Int → Int) (a c p : Int) (M : Mem) (S : PS) (Q : Int → Mem → Prop) (hp : 0 ≤ p ∧ p < 3) (hS : 0 ≤ S.1 ∧ S.1 ≤ 46)
    (hout : ∀ (M1 : Mem) (l5 l6 l7 : PV), PadS M M1 → PdR (tyK a c p 6 S) M1 → Run2 sx_L_types L (xcF scr) false 0 Q 0 172 [wR 3, wI a, wI c, wI (tyK a c p 6 S).1, wI p, l5, l6, l7] [] M1) :
    ∀ (n k : Nat) (M1 : Mem) (l6 l7 : PV), k + n = 6 → PadS M M1 → PdR (tyK a c p k S) M1 → Run2 sx_L_types L (xcF scr) false 0 Q 0 62 [wR 3, wI a, wI c, wI (tyK a c p k S).1, wI p, wI (k : Int), l6, l7] [] M1 := by
  intro n
  induction n with
  | zero =>
    intro k M1 l6 l7 hk h1 h2
    have hk : k = 6 := by omega
    subst hk
    refine T_iload (q := 64) rfl rfl rfl rfl ?_
    refine T_bipush (q := 66) rfl rfl rfl (by decide) ?_
    refine T_icmp_ge (q := 69) (tgt := 172) rfl rfl rfl (by decide) (by omega) (by omega) (fun h66 => ?_) (fun h66 => ?_)
    · exact hout _ _ _ _ h1 h2
    · omega
  | succ n ih =>
    intro k M1 l6 l7 hk h1 h2
    have kb := tyK_bd a c p S k
    have ks : ((k + 1 : Nat) : Int) = (k : Int) + 1 := by omega
    have J126 : ∀ v, v = tyQ a c p (k : Int) → Run2 sx_L_types L (xcF scr) false 0 Q 0 126 [wR 3, wI a, wI c, wI (tyK a c p k S).1, wI p, wI (k : Int), wI (tyB a (k : Int) p), wI v] [] M1 := by
      intro v hv
      have v9 : 0 ≤ v ∧ v < 10 := by
        rw [hv]
        unfold tyQ
        split
        · exact lowF_bd _ (by omega) (by omega)
        · omega
      have ek : tyK a c p (k + 1) S = if v = 0 then tyK a c p k S else pt2 (pt2 (tyK a c p k S) (97 + (k : Int))) (48 + v) := by
        rw [hv]
        rfl
      refine T_iload (q := 128) rfl rfl rfl rfl ?_
      refine T_if_ne (q := 131) (tgt := 135) rfl rfl rfl (by decide) (by omega) (fun h128 => ?_) (fun h128 => ?_)
      · refine T_aload_n (q := 136) (i := 0) rfl rfl rfl rfl rfl ?_
        refine T_bipush (q := 138) rfl rfl rfl (by decide) ?_
        refine T_iload (q := 140) rfl rfl rfl rfl ?_
        refine T_iadd (q := 141) rfl rfl rfl ?_
        refine T_i2l (q := 142) rfl rfl rfl ?_
        rw [show i32 (97 + (k : Int)) = 97 + (k : Int) from i32_id ⟨by omega, by omega⟩]
        refine T_C1 (q := 145) (C := D_put) rfl rfl rfl rfl rfl ⟨_, rfl, ⟨h1.1, by omega, by rw [h2.1]; omega⟩⟩ rfl (fun x M' hc => ?_)
        replace hc := hc _ rfl
        obtain ⟨x1, x2, x3, x4, x5⟩ := hc
        obtain ⟨y1, y2⟩ := put_R h2 x1 x3 x4 x5
        subst y1
        replace h1 := h1.tr x2
        replace h2 := y2
        refine T_istore_n (q := 146) (i := 3) rfl rfl rfl rfl rfl ?_
        refine T_iload (q := 148) rfl rfl rfl rfl ?_
        refine T_if_ne (q := 151) (tgt := 155) rfl rfl rfl (by decide) (by omega) (fun h148 => ?_) (fun h148 => ?_)
        · refine T_aload_n (q := 156) (i := 0) rfl rfl rfl rfl rfl ?_
          refine T_bipush (q := 158) rfl rfl rfl (by decide) ?_
          refine T_iload (q := 160) rfl rfl rfl rfl ?_
          refine T_iadd (q := 161) rfl rfl rfl ?_
          refine T_i2l (q := 162) rfl rfl rfl ?_
          rw [show i32 (48 + v) = 48 + v from i32_id ⟨by omega, by omega⟩]
          refine T_C1 (q := 165) (C := D_put) rfl rfl rfl rfl rfl ⟨_, rfl, ⟨h1.1, by omega, by rw [h2.1]; first | omega | (show (tyK a c p k S).1 + 1 < 60; omega)⟩⟩ rfl (fun x M' hc => ?_)
          replace hc := hc _ rfl
          obtain ⟨x1, x2, x3, x4, x5⟩ := hc
          obtain ⟨y1, y2⟩ := put_R h2 x1 x3 x4 x5
          subst y1
          replace h1 := h1.tr x2
          replace h2 := y2
          refine T_istore_n (q := 166) (i := 3) rfl rfl rfl rfl rfl ?_
          refine T_iinc (q := 169) rfl rfl rfl rfl rfl ?_
          refine T_goto (q := 172) (tgt := 62) rfl rfl rfl (by decide) ?_
          first
            | (exfalso; omega)
            | (have := ih (k + 1) _ (wI (tyB a (k : Int) p)) (wI v) (by omega) h1 (by rw [ek, if_neg (by omega)]; exact h2)
               rw [ek, if_neg (by omega), ks] at this
               exact this)
            | (have := ih (k + 1) _ (wI (tyB a (k : Int) p)) (wI v) (by omega) h1 (by rw [ek, if_pos (by omega)]; exact h2)
               rw [ek, if_pos (by omega), ks] at this
               exact this)
        · refine T_iload_n (q := 152) (i := 3) rfl rfl rfl rfl rfl ?_
          refine T_goto (q := 155) (tgt := 165) rfl rfl rfl (by decide) ?_
          refine T_istore_n (q := 166) (i := 3) rfl rfl rfl rfl rfl ?_
          refine T_iinc (q := 169) rfl rfl rfl rfl rfl ?_
          refine T_goto (q := 172) (tgt := 62) rfl rfl rfl (by decide) ?_
          first
            | (exfalso; omega)
            | (have := ih (k + 1) _ (wI (tyB a (k : Int) p)) (wI v) (by omega) h1 (by rw [ek, if_neg (by omega)]; exact h2)
               rw [ek, if_neg (by omega), ks] at this
               exact this)
            | (have := ih (k + 1) _ (wI (tyB a (k : Int) p)) (wI v) (by omega) h1 (by rw [ek, if_pos (by omega)]; exact h2)
               rw [ek, if_pos (by omega), ks] at this
               exact this)
      · refine T_iload_n (q := 132) (i := 3) rfl rfl rfl rfl rfl ?_
        refine T_goto (q := 135) (tgt := 145) rfl rfl rfl (by decide) ?_
        refine T_istore_n (q := 146) (i := 3) rfl rfl rfl rfl rfl ?_
        refine T_iload (q := 148) rfl rfl rfl rfl ?_
        refine T_if_ne (q := 151) (tgt := 155) rfl rfl rfl (by decide) (by omega) (fun h148 => ?_) (fun h148 => ?_)
        · refine T_aload_n (q := 156) (i := 0) rfl rfl rfl rfl rfl ?_
          refine T_bipush (q := 158) rfl rfl rfl (by decide) ?_
          refine T_iload (q := 160) rfl rfl rfl rfl ?_
          refine T_iadd (q := 161) rfl rfl rfl ?_
          refine T_i2l (q := 162) rfl rfl rfl ?_
          rw [show i32 (48 + v) = 48 + v from i32_id ⟨by omega, by omega⟩]
          refine T_C1 (q := 165) (C := D_put) rfl rfl rfl rfl rfl ⟨_, rfl, ⟨h1.1, by omega, by rw [h2.1]; first | omega | (show (tyK a c p k S).1 + 1 < 60; omega)⟩⟩ rfl (fun x M' hc => ?_)
          replace hc := hc _ rfl
          obtain ⟨x1, x2, x3, x4, x5⟩ := hc
          obtain ⟨y1, y2⟩ := put_R h2 x1 x3 x4 x5
          subst y1
          replace h1 := h1.tr x2
          replace h2 := y2
          refine T_istore_n (q := 166) (i := 3) rfl rfl rfl rfl rfl ?_
          refine T_iinc (q := 169) rfl rfl rfl rfl rfl ?_
          refine T_goto (q := 172) (tgt := 62) rfl rfl rfl (by decide) ?_
          first
            | (exfalso; omega)
            | (have := ih (k + 1) _ (wI (tyB a (k : Int) p)) (wI v) (by omega) h1 (by rw [ek, if_neg (by omega)]; exact h2)
               rw [ek, if_neg (by omega), ks] at this
               exact this)
            | (have := ih (k + 1) _ (wI (tyB a (k : Int) p)) (wI v) (by omega) h1 (by rw [ek, if_pos (by omega)]; exact h2)
               rw [ek, if_pos (by omega), ks] at this
               exact this)
        · refine T_iload_n (q := 152) (i := 3) rfl rfl rfl rfl rfl ?_
          refine T_goto (q := 155) (tgt := 165) rfl rfl rfl (by decide) ?_
          refine T_istore_n (q := 166) (i := 3) rfl rfl rfl rfl rfl ?_
          refine T_iinc (q := 169) rfl rfl rfl rfl rfl ?_
          refine T_goto (q := 172) (tgt := 62) rfl rfl rfl (by decide) ?_
          first
            | (exfalso; omega)
            | (have := ih (k + 1) _ (wI (tyB a (k : Int) p)) (wI v) (by omega) h1 (by rw [ek, if_neg (by omega)]; exact h2)
               rw [ek, if_neg (by omega), ks] at this
               exact this)
            | (have := ih (k + 1) _ (wI (tyB a (k : Int) p)) (wI v) (by omega) h1 (by rw [ek, if_pos (by omega)]; exact h2)
               rw [ek, if_pos (by omega), ks] at this
               exact this)
    have J88 : ∀ w, w = tyB a (k : Int) p → Run2 sx_L_types L (xcF scr) false 0 Q 0 88 [wR 3, wI a, wI c, wI (tyK a c p k S).1, wI p, wI (k : Int), l6, l7] [wI w] M1 := by
      intro w hw
      subst hw
      have b3 := lowF_bd (xishr c ((k : Int) + tyB a (k : Int) p)) (n := 3) (by omega) (by omega)
      refine T_istore (q := 90) rfl rfl rfl rfl ?_
      refine T_iload_n (q := 91) (i := 2) rfl rfl rfl rfl rfl ?_
      refine T_iload (q := 93) rfl rfl rfl rfl ?_
      refine T_iload (q := 95) rfl rfl rfl rfl ?_
      refine T_iadd (q := 96) rfl rfl rfl ?_
      refine T_ishr (q := 97) rfl rfl rfl ?_
      refine T_iconst (q := 98) rfl rfl rfl ?_
      refine T_L2I (q := 101) (b2 := 0) (C := C_L_low) rfl rfl rfl rfl rfl rfl ⟨_, _, rfl, ⟨by omega, by omega⟩⟩ rfl rfl rfl rfl (fun x M' hc => ?_)
      replace hc := hc _ _ rfl
      obtain ⟨rfl, rfl⟩ := hc
      refine T_if_ne (q := 104) (tgt := 123) rfl rfl rfl (by decide) (by omega) (fun h101 => ?_) (fun h101 => ?_)
      · refine T_iconst (q := 124) rfl rfl rfl ?_
        refine T_istore (q := 126) rfl rfl rfl rfl ?_
        first
          | exact J126 _ (if_pos (Classical.not_not.mp h101)).symm
          | exact J126 _ (if_neg h101).symm
      · refine T_iload_n (q := 105) (i := 2) rfl rfl rfl rfl rfl ?_
        refine T_iconst (q := 106) rfl rfl rfl ?_
        refine T_iload (q := 108) rfl rfl rfl rfl ?_
        refine T_iadd (q := 109) rfl rfl rfl ?_
        refine T_iconst (q := 110) rfl rfl rfl ?_
        refine T_iload (q := 112) rfl rfl rfl rfl ?_
        refine T_imul (q := 113) rfl rfl rfl ?_
        refine T_iadd (q := 114) rfl rfl rfl ?_
        refine T_ishr (q := 115) rfl rfl rfl ?_
        refine T_bipush (q := 117) rfl rfl rfl (by decide) ?_
        refine T_L2I (q := 120) (b2 := 0) (C := C_L_low) rfl rfl rfl rfl rfl rfl ⟨_, _, rfl, ⟨by omega, by omega⟩⟩ rfl rfl rfl rfl (fun x M' hc => ?_)
        replace hc := hc _ _ rfl
        obtain ⟨rfl, rfl⟩ := hc
        refine T_goto (q := 123) (tgt := 124) rfl rfl rfl (by decide) ?_
        refine T_istore (q := 126) rfl rfl rfl rfl ?_
        first
          | exact J126 _ (if_pos (Classical.not_not.mp h101)).symm
          | exact J126 _ (if_neg h101).symm
    have b4 := lowF_bd (xishr a (4 + (k : Int))) (n := 4) (by omega) (by omega)
    refine T_iload (q := 64) rfl rfl rfl rfl ?_
    refine T_bipush (q := 66) rfl rfl rfl (by decide) ?_
    refine T_icmp_ge (q := 69) (tgt := 172) rfl rfl rfl (by decide) (by omega) (by omega) (fun h66 => ?_) (fun h66 => ?_)
    · omega
    · refine T_iload_n (q := 70) (i := 1) rfl rfl rfl rfl rfl ?_
      refine T_iconst (q := 71) rfl rfl rfl ?_
      refine T_iload (q := 73) rfl rfl rfl rfl ?_
      refine T_iadd (q := 74) rfl rfl rfl ?_
      refine T_ishr (q := 75) rfl rfl rfl ?_
      refine T_iconst (q := 76) rfl rfl rfl ?_
      refine T_L2I (q := 79) (b2 := 0) (C := C_L_low) rfl rfl rfl rfl rfl rfl ⟨_, _, rfl, ⟨by omega, by omega⟩⟩ rfl rfl rfl rfl (fun x M' hc => ?_)
      replace hc := hc _ _ rfl
      obtain ⟨rfl, rfl⟩ := hc
      refine T_if_ne (q := 82) (tgt := 87) rfl rfl rfl (by decide) (by omega) (fun h79 => ?_) (fun h79 => ?_)
      · refine T_iconst (q := 88) rfl rfl rfl ?_
        first
          | exact J88 _ (if_pos (Classical.not_not.mp h79)).symm
          | exact J88 _ (if_neg h79).symm
      · refine T_iload (q := 84) rfl rfl rfl rfl ?_
        refine T_goto (q := 87) (tgt := 88) rfl rfl rfl (by decide) ?_
        first
          | exact J88 _ (if_pos (Classical.not_not.mp h79)).symm
          | exact J88 _ (if_neg h79).symm
set_option maxRecDepth 100000 in
set_option maxHeartbeats 2000000 in
theorem ok_L_types (L : Nat) (scr : Int → Int) (hL : L < 2147483648) (o : Nat) (a : Int) (c : Int) (M : Mem) (hp : o = 3 ∧ GI M) : Run2 sx_L_types L (xcF scr) false 0 (fun x M' => x = (tyP a c 3).1 ∧ PadS M M' ∧ PdR (tyP a c 3) M') 0 0 [wR o, wI a, wI c, none, none, none, none, none] [] M := by
  obtain ⟨rfl, g⟩ := hp
  have b5 := lowF_bd a (n := 5) (by omega) (by omega)
  have L1 : ∀ (n p : Nat) (M1 : Mem) (l5 l6 l7 : PV), p + n = 3 → PadS M M1 → PdR (tyP a c p) M1 → Run2 sx_L_types L (xcF scr) false 0 (fun x M' => x = (tyP a c 3).1 ∧ PadS M M' ∧ PdR (tyP a c 3) M') 0 22 [wR 3, wI a, wI c, wI (tyP a c p).1, wI (p : Int), l5, l6, l7] [] M1 := by
    intro n
    induction n with
    | zero =>
      intro p M1 l5 l6 l7 hk h1 h2
      have hk : p = 3 := by omega
      subst hk
      refine T_iload (q := 24) rfl rfl rfl rfl ?_
      refine T_iconst (q := 25) rfl rfl rfl ?_
      refine T_icmp_ge (q := 28) (tgt := 178) rfl rfl rfl (by decide) (by omega) (by omega) (fun h25 => ?_) (fun h25 => ?_)
      · refine T_iload_n (q := 179) (i := 3) rfl rfl rfl rfl rfl ?_
        refine T_ret rfl rfl (Or.inl rfl) ?_
        exact ⟨rfl, h1, h2⟩
      · omega
    | succ n ih =>
      intro p M1 l5 l6 l7 hk h1 h2
      have pb := tyP_bd a c p
      have ps : ((p + 1 : Nat) : Int) = (p : Int) + 1 := by omega
      have J55 : ∀ v, v = sepP (p : Int) → Run2 sx_L_types L (xcF scr) false 0 (fun x M' => x = (tyP a c 3).1 ∧ PadS M M' ∧ PdR (tyP a c 3) M') 0 55 [wR 3, wI a, wI c, wI (tyP a c p).1, wI (p : Int), l5, l6, l7] [wL v, wR 3] M1 := by
        intro v hv
        have vb : 33 ≤ v ∧ v ≤ 126 := by
          rw [hv]
          unfold sepP
          split
          · omega
          · split <;> omega
        refine T_C1 (q := 58) (C := D_put) rfl rfl rfl rfl rfl ⟨_, rfl, ⟨h1.1, vb, by rw [h2.1]; omega⟩⟩ rfl (fun x M' hc => ?_)
        replace hc := hc _ rfl
        obtain ⟨x1, x2, x3, x4, x5⟩ := hc
        obtain ⟨y1, y2⟩ := put_R h2 x1 x3 x4 x5
        subst y1
        replace h1 := h1.tr x2
        replace h2 := y2
        refine T_istore_n (q := 59) (i := 3) rfl rfl rfl rfl rfl ?_
        refine T_iconst (q := 60) rfl rfl rfl ?_
        refine T_istore (q := 62) rfl rfl rfl rfl ?_
        rw [hv] at h2 ⊢
        refine types_k L scr a c (p : Int) M (pt2 (tyP a c p) (sepP (p : Int))) _ (by omega) (by show 0 ≤ (tyP a c p).1 + 1 ∧ (tyP a c p).1 + 1 ≤ 46; omega) (fun M2 l5 l6 l7 a1 a2 => ?_) 6 0 _ _ _ rfl h1 h2
        refine T_iinc (q := 175) rfl rfl rfl rfl rfl ?_
        refine T_goto (q := 178) (tgt := 22) rfl rfl rfl (by decide) ?_
        have := ih (p + 1) M2 l5 l6 l7 (by omega) a1 a2
        rw [ps] at this
        exact this
      refine T_iload (q := 24) rfl rfl rfl rfl ?_
      refine T_iconst (q := 25) rfl rfl rfl ?_
      refine T_icmp_ge (q := 28) (tgt := 178) rfl rfl rfl (by decide) (by omega) (by omega) (fun h25 => ?_) (fun h25 => ?_)
      · omega
      · refine T_aload_n (q := 29) (i := 0) rfl rfl rfl rfl rfl ?_
        refine T_iload (q := 31) rfl rfl rfl rfl ?_
        refine T_if_ne (q := 34) (tgt := 40) rfl rfl rfl (by decide) (by omega) (fun h31 => ?_) (fun h31 => ?_)
        · refine T_iload (q := 42) rfl rfl rfl rfl ?_
          refine T_iconst (q := 43) rfl rfl rfl ?_
          refine T_icmp_ne (q := 46) (tgt := 52) rfl rfl rfl (by decide) (by omega) (by omega) (fun h43 => ?_) (fun h43 => ?_)
          · refine T_ldc2 (q := 55) rfl rfl rfl rfl ?_
            first
              | exact J55 _ (by unfold sepP; rw [if_pos (by omega)])
              | exact J55 _ (by unfold sepP; rw [if_neg (by omega), if_pos (by omega)])
              | exact J55 _ (by unfold sepP; rw [if_neg (by omega), if_neg (by omega)])
          · refine T_ldc2 (q := 49) rfl rfl rfl rfl ?_
            refine T_goto (q := 52) (tgt := 55) rfl rfl rfl (by decide) ?_
            first
              | exact J55 _ (by unfold sepP; rw [if_pos (by omega)])
              | exact J55 _ (by unfold sepP; rw [if_neg (by omega), if_pos (by omega)])
              | exact J55 _ (by unfold sepP; rw [if_neg (by omega), if_neg (by omega)])
        · refine T_ldc2 (q := 37) rfl rfl rfl rfl ?_
          refine T_goto (q := 40) (tgt := 55) rfl rfl rfl (by decide) ?_
          first
            | exact J55 _ (by unfold sepP; rw [if_pos (by omega)])
            | exact J55 _ (by unfold sepP; rw [if_neg (by omega), if_pos (by omega)])
            | exact J55 _ (by unfold sepP; rw [if_neg (by omega), if_neg (by omega)])
  refine T_aload_n (q := 1) (i := 0) rfl rfl rfl rfl rfl ?_
  refine T_C0 (q := 4) (C := D_wipe) rfl rfl rfl rfl rfl ⟨rfl, g⟩ rfl (fun x M' hc => ?_)
  replace hc := hc rfl
  obtain ⟨h1, h4⟩ := hc
  refine T_istore_n (q := 5) (i := 3) rfl rfl rfl rfl rfl ?_
  refine T_aload_n (q := 6) (i := 0) rfl rfl rfl rfl rfl ?_
  refine T_bipush (q := 8) rfl rfl rfl (by decide) ?_
  refine T_iload_n (q := 9) (i := 1) rfl rfl rfl rfl rfl ?_
  refine T_iconst (q := 10) rfl rfl rfl ?_
  refine T_L2I (q := 13) (b2 := 0) (C := C_L_low) rfl rfl rfl rfl rfl rfl ⟨_, _, rfl, ⟨by omega, by omega⟩⟩ rfl rfl rfl rfl (fun x M' hc => ?_)
  replace hc := hc _ _ rfl
  obtain ⟨rfl, rfl⟩ := hc
  refine T_iadd (q := 14) rfl rfl rfl ?_
  refine T_i2l (q := 15) rfl rfl rfl ?_
  rw [show i32 (48 + lowF a 5) = 48 + lowF a 5 from i32_id ⟨by omega, by omega⟩]
  refine T_C1 (q := 18) (C := D_put) rfl rfl rfl rfl rfl ⟨_, rfl, ⟨h1.1, by omega, by rw [h4]; omega⟩⟩ rfl (fun x M' hc => ?_)
  replace hc := hc _ rfl
  obtain ⟨x1, x2, x3, x4, x5⟩ := hc
  obtain ⟨y1, y2⟩ := put_R (S := (0, fun _ => 0)) ⟨h4, fun i a b => by have b : i < 0 := b; omega⟩ x1 x3 x4 x5
  subst y1
  replace h1 := h1.tr x2
  replace h2 := y2
  refine T_istore_n (q := 19) (i := 3) rfl rfl rfl rfl rfl ?_
  refine T_iconst (q := 20) rfl rfl rfl ?_
  refine T_istore (q := 22) rfl rfl rfl rfl ?_
  exact L1 3 0 _ none none none rfl h1 h2
set_option maxRecDepth 100000 in
set_option maxHeartbeats 1000000 in
theorem mt_L_types : Mt2 yL_types cL_types 8 (some .int) 2 C_L_types := by
  refine mt2_of sx_L_types (by decide +kernel) (Or.inl ⟨rfl, rfl, rfl⟩) (by decide +kernel) kLL_ok kIL_ok
    (all_cons (cl2_of mt_X6_wipe rfl rfl der_wipe (GT_at 317 (by decide +kernel) (by decide +kernel)) (GT_at 11 (by decide +kernel) (by decide +kernel)) (GT_at 320 (by decide +kernel) (by decide +kernel)) (by decide +kernel) (by decide) (GT_at 318 (by decide +kernel) (by decide +kernel)) (GT_at 319 (by decide +kernel) (by decide +kernel)) rfl) (all_cons (cl2_of mt_X6_put rfl rfl der_put (GT_at 321 (by decide +kernel) (by decide +kernel)) (GT_at 11 (by decide +kernel) (by decide +kernel)) (GT_at 324 (by decide +kernel) (by decide +kernel)) (by decide +kernel) (by decide) (GT_at 322 (by decide +kernel) (by decide +kernel)) (GT_at 323 (by decide +kernel) (by decide +kernel)) rfl) (all_nil)))
    (all_cons (cw2_of mt_L_low (GT_at 310 (by decide +kernel) (by decide +kernel)) (GT_at 10 (by decide +kernel) (by decide +kernel)) (GT_at 312 (by decide +kernel) (by decide +kernel)) (by decide +kernel) (by decide) (GT_at 311 (by decide +kernel) (by decide +kernel))) (all_nil)) ?_ ?_
  · rintro as M - ⟨o, a, c, rfl, hp⟩
    exact Nat.le_of_ble_eq_true rfl
  · rintro L scr as M hL - ⟨o, a, c, rfl, hp⟩
    exact Run2.mono (fun x M' h _ _ _ e => by cases e; exact h) (ok_L_types L scr hL o a c M hp)
