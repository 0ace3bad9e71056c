/-! THE CLASS. Its sheets hold four bits a kind, the reference's papers a decimal place -/
def q16 (k : Int) : Int := if k = 0 then 1 else if k = 1 then 16 else if k = 2 then 256 else if k = 3 then 4096 else if k = 4 then 65536 else 1048576
def nib (d : Int) : Int := dig d 0 + dig d 1 * 16 + dig d 2 * 256 + dig d 3 * 4096 + dig d 4 * 65536 + dig d 5 * 1048576
theorem nib_bd {d : Int} (h : 0 ≤ d) : 0 ≤ nib d ∧ nib d < 16777216 := by
  have b := fun k => dig_bd (k := k) h
  have b0 := b 0
  have b1 := b 1
  have b2 := b 2
  have b3 := b 3
  have b4 := b 4
  have b5 := b 5
  unfold nib
  omega
theorem nib_dig {d k : Int} (h : 0 ≤ d) (hk : 0 ≤ k ∧ k < 6) : nib d / q16 k % 16 = dig d k := by
  have b := fun k => dig_bd (k := k) h
  have b0 := b 0
  have b1 := b 1
  have b2 := b 2
  have b3 := b 3
  have b4 := b 4
  have b5 := b 5
  unfold nib
  refine k6 (P := fun k => _ / q16 k % 16 = dig d k) hk ?_ ?_ ?_ ?_ ?_ ?_
  · show _ / 1 % 16 = _
    omega
  · show _ / 16 % 16 = _
    omega
  · show _ / 256 % 16 = _
    omega
  · show _ / 4096 % 16 = _
    omega
  · show _ / 65536 % 16 = _
    omega
  · show _ / 1048576 % 16 = _
    omega
/-- a paper's number with other pieces of a kind, on both sides -/
theorem nib_set {d v k : Int} (hd : 0 ≤ d ∧ d < 1000000) (hv : 0 ≤ v ∧ v ≤ 9) (hk : 0 ≤ k ∧ k < 6) : nib (d + (v - dig d k) * pw k) = nib d + (v - dig d k) * q16 k := by
  have z := (dig_set hd hv hk).2
  have z0 := z 0 (by omega)
  have z1 := z 1 (by omega)
  have z2 := z 2 (by omega)
  have z3 := z 3 (by omega)
  have z4 := z 4 (by omega)
  have z5 := z 5 (by omega)
  unfold nib
  rw [z0, z1, z2, z3, z4, z5]
  refine k6 (P := fun k => (if (0 : Int) = k then v else dig d 0) + (if (1 : Int) = k then v else dig d 1) * 16 + (if (2 : Int) = k then v else dig d 2) * 256 + (if (3 : Int) = k then v else dig d 3) * 4096 + (if (4 : Int) = k then v else dig d 4) * 65536 + (if (5 : Int) = k then v else dig d 5) * 1048576 = dig d 0 + dig d 1 * 16 + dig d 2 * 256 + dig d 3 * 4096 + dig d 4 * 65536 + dig d 5 * 1048576 + (v - dig d k) * q16 k) hk ?_ ?_ ?_ ?_ ?_ ?_
  · show v + dig d 1 * 16 + dig d 2 * 256 + dig d 3 * 4096 + dig d 4 * 65536 + dig d 5 * 1048576 = dig d 0 + dig d 1 * 16 + dig d 2 * 256 + dig d 3 * 4096 + dig d 4 * 65536 + dig d 5 * 1048576 + (v - dig d 0) * 1
    omega
  · show dig d 0 + v * 16 + dig d 2 * 256 + dig d 3 * 4096 + dig d 4 * 65536 + dig d 5 * 1048576 = dig d 0 + dig d 1 * 16 + dig d 2 * 256 + dig d 3 * 4096 + dig d 4 * 65536 + dig d 5 * 1048576 + (v - dig d 1) * 16
    omega
  · show dig d 0 + dig d 1 * 16 + v * 256 + dig d 3 * 4096 + dig d 4 * 65536 + dig d 5 * 1048576 = dig d 0 + dig d 1 * 16 + dig d 2 * 256 + dig d 3 * 4096 + dig d 4 * 65536 + dig d 5 * 1048576 + (v - dig d 2) * 256
    omega
  · show dig d 0 + dig d 1 * 16 + dig d 2 * 256 + v * 4096 + dig d 4 * 65536 + dig d 5 * 1048576 = dig d 0 + dig d 1 * 16 + dig d 2 * 256 + dig d 3 * 4096 + dig d 4 * 65536 + dig d 5 * 1048576 + (v - dig d 3) * 4096
    omega
  · show dig d 0 + dig d 1 * 16 + dig d 2 * 256 + dig d 3 * 4096 + v * 65536 + dig d 5 * 1048576 = dig d 0 + dig d 1 * 16 + dig d 2 * 256 + dig d 3 * 4096 + dig d 4 * 65536 + dig d 5 * 1048576 + (v - dig d 4) * 65536
    omega
  · show dig d 0 + dig d 1 * 16 + dig d 2 * 256 + dig d 3 * 4096 + dig d 4 * 65536 + v * 1048576 = dig d 0 + dig d 1 * 16 + dig d 2 * 256 + dig d 3 * 4096 + dig d 4 * 65536 + dig d 5 * 1048576 + (v - dig d 5) * 1048576
    omega
theorem shr_n2 {a : Nat} (ha : a < 2147483648) (c : Int) (n : Nat) (hc : ((Int32.ofInt c &&& 31).toBitVec.smod 32).toNat = n) : xishr (a : Int) c = ((a / 2 ^ n : Nat) : Int) := by
  unfold xishr
  rw [of_nI, pk_shrN (by omega) _ n hc, nI_toInt (Nat.lt_of_le_of_lt (Nat.div_le_self _ _) (by omega))]
theorem and_15 {a : Nat} (ha : a < 2147483648) : xiand (a : Int) 15 = ((a % 16 : Nat) : Int) := by
  unfold xiand
  rw [of_nI, pk_andN (by omega) (m := Int32.ofInt 15) 4 (by decide +kernel), nI_toInt (by omega)]
theorem pcs_of {s k : Int} (hs : 0 ≤ s ∧ s < 16777216) (hk : 0 ≤ k ∧ k < 6) : xiand (xishr s (k * 4)) 15 = s / q16 k % 16 := by
  obtain ⟨a, rfl⟩ : ∃ n : Nat, s = n := ⟨s.toNat, by omega⟩
  have key : ∀ (c : Int) (n : Nat), ((Int32.ofInt c &&& 31).toBitVec.smod 32).toNat = n → xiand (xishr (a : Int) c) 15 = ((a / 2 ^ n % 16 : Nat) : Int) := by
    intro c n hc
    rw [shr_n2 (by omega) c n hc, and_15 (Nat.lt_of_le_of_lt (Nat.div_le_self _ _) (by omega))]
  refine k6 (P := fun k => xiand (xishr (a : Int) (k * 4)) 15 = (a : Int) / q16 k % 16) hk ?_ ?_ ?_ ?_ ?_ ?_
  · rw [key (0 * 4) 0 (by decide +kernel)]
    show _ = (a : Int) / 1 % 16
    omega
  · rw [key (1 * 4) 4 (by decide +kernel)]
    show _ = (a : Int) / 16 % 16
    omega
  · rw [key (2 * 4) 8 (by decide +kernel)]
    show _ = (a : Int) / 256 % 16
    omega
  · rw [key (3 * 4) 12 (by decide +kernel)]
    show _ = (a : Int) / 4096 % 16
    omega
  · rw [key (4 * 4) 16 (by decide +kernel)]
    show _ = (a : Int) / 65536 % 16
    omega
  · rw [key (5 * 4) 20 (by decide +kernel)]
    show _ = (a : Int) / 1048576 % 16
    omega
abbrev C_X3_piecesOf : Ct := (2, true, fun as M => ∃ (s : Int) (k : Int), as = [wI s, wI k] ∧ ((0 ≤ s ∧ s < 16777216) ∧ 0 ≤ k ∧ k < 6), fun as M x M' => ∀ (s : Int) (k : Int), as = [wI s, wI k] → ((s / q16 k % 16) = x ∧ (M) = M'))
def sx_X3_piecesOf : Sx := (tb_X3_piecesOf, fdX3, kLX3, kIX3, sgX3, ntX3, [], 1)
set_option maxRecDepth 100000 in
set_option maxHeartbeats 1000000 in
theorem ok_X3_piecesOf (L : Nat) (scr : Int → Int) (s : Int) (k : Int) (M : Mem) (hp : (0 ≤ s ∧ s < 16777216) ∧ 0 ≤ k ∧ k < 6) : Runs sx_X3_piecesOf L (xcF scr) (fun x M' => (s / q16 k % 16) = x ∧ (M) = M') 0 [wI s, wI k] [] M := by
  refine R_iload_n (q := 1) (i := 0) rfl rfl rfl rfl ?_
  refine R_iload_n (q := 2) (i := 1) rfl rfl rfl rfl ?_
  refine R_iconst (q := 3) rfl rfl ?_
  refine R_imul (q := 4) rfl rfl ?_
  refine R_ishr (q := 5) rfl rfl ?_
  refine R_bipush (q := 7) rfl rfl (by decide) ?_
  refine R_iand (q := 8) rfl rfl ?_
  refine R_ret rfl (Or.inl rfl) ?_
  exact ⟨(pcs_of hp.1 hp.2).symm, rfl⟩
set_option maxRecDepth 100000 in
theorem mt_X3_piecesOf : MtOK yX3_piecesOf cX3_piecesOf 2 (some .int) 0 C_X3_piecesOf := by
  refine mt_of sx_X3_piecesOf (by decide +kernel) (Or.inl ⟨rfl, rfl, rfl⟩) (by decide +kernel) fdX3_ok kLX3_ok kIX3_ok sgX3_ok ntX3_ok
    (all_nil) ?_ ?_
  · rintro as M - ⟨s, k, rfl, hp⟩
    exact Nat.le_of_ble_eq_true rfl
  · rintro L scr as M - ⟨s, k, rfl, hp⟩
    exact Runs.mono (fun x M' h _ _ e => by cases e; exact h) (ok_X3_piecesOf L scr s k M hp)
theorem nset {a p n m : Nat} (hp : p < 16) (hm : ∀ i, i < 32 → m.testBit i = !(decide (n ≤ i) && decide (i < n + 4))) (ha : a < 2 ^ 24) : (a &&& m) ||| (2 ^ n * p) = 2 ^ (n + 4) * (a / 2 ^ (n + 4)) + (2 ^ n * p + a % 2 ^ n) := by
  have h1 : 2 ^ n * p + a % 2 ^ n < 2 ^ (n + 4) := by
    have : a % 2 ^ n < 2 ^ n := Nat.mod_lt _ (Nat.two_pow_pos n)
    have e : 2 ^ (n + 4) = 2 ^ n * 16 := by rw [Nat.pow_add]
    rw [e]
    have : 2 ^ n * p ≤ 2 ^ n * 15 := Nat.mul_le_mul_left _ (by omega)
    omega
  apply Nat.eq_of_testBit_eq
  intro i
  rw [Nat.testBit_or, Nat.testBit_and, Nat.testBit_two_pow_mul, Nat.testBit_two_pow_mul_add _ h1, Nat.testBit_two_pow_mul_add _ (Nat.mod_lt _ (Nat.two_pow_pos n)), Nat.testBit_div_two_pow, Nat.testBit_mod_two_pow]
  by_cases i32 : i < 32
  · rw [hm i i32]
    by_cases c1 : i < n
    · rw [if_pos (by omega), if_pos c1]
      simp [c1, show ¬ n ≤ i by omega]
    · by_cases c2 : i < n + 4
      · rw [if_pos c2, if_neg c1]
        simp [c1, c2, show n ≤ i by omega]
      · rw [if_neg c2]
        have : p.testBit (i - n) = false := Nat.testBit_lt_two_pow (Nat.lt_of_lt_of_le hp (show 2 ^ 4 ≤ 2 ^ (i - n) from Nat.pow_le_pow_right (by decide) (by omega)))
        simp [c2, this, show i - (n + 4) + (n + 4) = i by omega]
  · have z : a.testBit i = false := Nat.testBit_lt_two_pow (Nat.lt_of_lt_of_le ha (Nat.pow_le_pow_right (by decide) (by omega)))
    have z2 : ∀ j, j = i → a.testBit j = false := fun j h => h ▸ z
    by_cases c1 : i < n
    · rw [if_pos (by omega), if_pos c1]
      simp [z, show ¬ n ≤ i by omega]
    · by_cases c2 : i < n + 4
      · rw [if_pos c2, if_neg c1]
        simp [z, show n ≤ i by omega]
      · rw [if_neg c2]
        have : p.testBit (i - n) = false := Nat.testBit_lt_two_pow (Nat.lt_of_lt_of_le hp (show 2 ^ 4 ≤ 2 ^ (i - n) from Nat.pow_le_pow_right (by decide) (by omega)))
        simp [z, this, show i - (n + 4) + (n + 4) = i by omega]
theorem xiand_n {a m : Nat} (ha : a < 2147483648) {c : Int} (hc : (Int32.ofInt c).toBitVec.toNat = m) : xiand (a : Int) c = ((a &&& m : Nat) : Int) := by
  unfold xiand
  have h0 : (Int32.ofInt (a : Int)).toBitVec.toNat = a := by rw [of_nI]; exact pk_tn (by omega)
  have h1 : ((Int32.ofInt (a : Int) &&& Int32.ofInt c).toBitVec).toNat = a &&& m := by rw [Int32.toBitVec_and, BitVec.toNat_and, h0, hc]
  have h2 : a &&& m ≤ a := Nat.and_le_left
  have h3 : (Int32.ofInt (a : Int) &&& Int32.ofInt c).toInt = (((Int32.ofInt (a : Int) &&& Int32.ofInt c).toBitVec).toNat : Int) := BitVec.toInt_eq_toNat_of_lt (by omega)
  rw [h3, h1]
theorem xior_n {a b : Nat} (ha : a < 2147483648) (hb : b < 2147483648) : xior (a : Int) (b : Int) = ((a ||| b : Nat) : Int) := by
  unfold xior
  have h0 : ∀ a : Nat, a < 2147483648 → (Int32.ofInt (a : Int)).toBitVec.toNat = a := fun a ha => by rw [of_nI]; exact pk_tn (by omega)
  have h1 : ((Int32.ofInt (a : Int) ||| Int32.ofInt (b : Int)).toBitVec).toNat = a ||| b := by rw [Int32.toBitVec_or, BitVec.toNat_or, h0 a ha, h0 b hb]
  have h2 : a ||| b < 2 ^ 31 := Nat.or_lt_two_pow (by omega) (by omega)
  have h3 : (Int32.ofInt (a : Int) ||| Int32.ofInt (b : Int)).toInt = (((Int32.ofInt (a : Int) ||| Int32.ofInt (b : Int)).toBitVec).toNat : Int) := BitVec.toInt_eq_toNat_of_lt (by omega)
  rw [h3, h1]
theorem shl_n2 {p : Nat} (c : Int) (n : Nat) (hc : ((Int32.ofInt c &&& 31).toBitVec.smod 32).toNat = n) (hp : p * 2 ^ n < 2147483648) : xishl (p : Int) c = ((p * 2 ^ n : Nat) : Int) := by
  unfold xishl
  rw [of_nI, pk_shlN _ n hc (by omega), nI_toInt (by omega)]
theorem wps_of {s k p : Int} (hs : 0 ≤ s ∧ s < 16777216) (hk : 0 ≤ k ∧ k < 6) (hp : 0 ≤ p ∧ p ≤ 9) : xior (xiand s (xixor (xishl 15 (k * 4)) (-1))) (xishl p (k * 4)) = s + (p - s / q16 k % 16) * q16 k := by
  obtain ⟨a, rfl⟩ : ∃ n : Nat, s = n := ⟨s.toNat, by omega⟩
  obtain ⟨p, rfl⟩ : ∃ n : Nat, p = n := ⟨p.toNat, by omega⟩
  have key : ∀ (c : Int) (n m : Nat), ((Int32.ofInt c &&& 31).toBitVec.smod 32).toNat = n → n ≤ 20 → (Int32.ofInt (xixor (xishl 15 c) (-1))).toBitVec.toNat = m → (∀ i, i < 32 → m.testBit i = !(decide (n ≤ i) && decide (i < n + 4))) → xior (xiand (a : Int) (xixor (xishl 15 c) (-1))) (xishl (p : Int) c) = ((2 ^ (n + 4) * (a / 2 ^ (n + 4)) + (2 ^ n * p + a % 2 ^ n) : Nat) : Int) := by
    intro c n m h1 hn h2 h3
    have h9 : 2 ^ n ≤ 2 ^ 20 := Nat.pow_le_pow_right (by decide) hn
    have h8 : p * 2 ^ n ≤ 9 * 2 ^ 20 := Nat.mul_le_mul (by omega) h9
    have h7 : a &&& m ≤ a := Nat.and_le_left
    rw [xiand_n (by omega) h2, shl_n2 c n h1 (by omega), xior_n (by omega) (by omega), Nat.mul_comm p, nset (by omega) h3 (by omega)]
  refine k6 (P := fun k => xior (xiand (a : Int) (xixor (xishl 15 (k * 4)) (-1))) (xishl (p : Int) (k * 4)) = (a : Int) + ((p : Int) - (a : Int) / q16 k % 16) * q16 k) hk ?_ ?_ ?_ ?_ ?_ ?_
  · rw [key (0 * 4) 0 _ (by decide +kernel) (by decide) rfl (by decide +kernel)]
    show _ = (a : Int) + ((p : Int) - (a : Int) / 1 % 16) * 1
    omega
  · rw [key (1 * 4) 4 _ (by decide +kernel) (by decide) rfl (by decide +kernel)]
    show _ = (a : Int) + ((p : Int) - (a : Int) / 16 % 16) * 16
    omega
  · rw [key (2 * 4) 8 _ (by decide +kernel) (by decide) rfl (by decide +kernel)]
    show _ = (a : Int) + ((p : Int) - (a : Int) / 256 % 16) * 256
    omega
  · rw [key (3 * 4) 12 _ (by decide +kernel) (by decide) rfl (by decide +kernel)]
    show _ = (a : Int) + ((p : Int) - (a : Int) / 4096 % 16) * 4096
    omega
  · rw [key (4 * 4) 16 _ (by decide +kernel) (by decide) rfl (by decide +kernel)]
    show _ = (a : Int) + ((p : Int) - (a : Int) / 65536 % 16) * 65536
    omega
  · rw [key (5 * 4) 20 _ (by decide +kernel) (by decide) rfl (by decide +kernel)]
    show _ = (a : Int) + ((p : Int) - (a : Int) / 1048576 % 16) * 1048576
    omega
abbrev C_X3_withPieces : Ct := (3, true, fun as M => ∃ (s : Int) (k : Int) (p : Int), as = [wI s, wI k, wI p] ∧ ((0 ≤ s ∧ s < 16777216) ∧ (0 ≤ k ∧ k < 6) ∧ 0 ≤ p ∧ p ≤ 9), fun as M x M' => ∀ (s : Int) (k : Int) (p : Int), as = [wI s, wI k, wI p] → ((s + (p - s / q16 k % 16) * q16 k) = x ∧ (M) = M'))
def sx_X3_withPieces : Sx := (tb_X3_withPieces, fdX3, kLX3, kIX3, sgX3, ntX3, [], 1)
set_option maxRecDepth 100000 in
set_option maxHeartbeats 1000000 in
theorem ok_X3_withPieces (L : Nat) (scr : Int → Int) (s : Int) (k : Int) (p : Int) (M : Mem) (hp : (0 ≤ s ∧ s < 16777216) ∧ (0 ≤ k ∧ k < 6) ∧ 0 ≤ p ∧ p ≤ 9) : Runs sx_X3_withPieces L (xcF scr) (fun x M' => (s + (p - s / q16 k % 16) * q16 k) = x ∧ (M) = M') 0 [wI s, wI k, wI p] [] M := by
  refine R_iload_n (q := 1) (i := 0) rfl rfl rfl rfl ?_
  refine R_bipush (q := 3) rfl rfl (by decide) ?_
  refine R_iload_n (q := 4) (i := 1) rfl rfl rfl rfl ?_
  refine R_iconst (q := 5) rfl rfl ?_
  refine R_imul (q := 6) rfl rfl ?_
  refine R_ishl (q := 7) rfl rfl ?_
  refine R_iconst (q := 8) rfl rfl ?_
  refine R_ixor (q := 9) rfl rfl ?_
  refine R_iand (q := 10) rfl rfl ?_
  refine R_iload_n (q := 11) (i := 2) rfl rfl rfl rfl ?_
  refine R_iload_n (q := 12) (i := 1) rfl rfl rfl rfl ?_
  refine R_iconst (q := 13) rfl rfl ?_
  refine R_imul (q := 14) rfl rfl ?_
  refine R_ishl (q := 15) rfl rfl ?_
  refine R_ior (q := 16) rfl rfl ?_
  refine R_ret rfl (Or.inl rfl) ?_
  exact ⟨(wps_of hp.1 hp.2.1 hp.2.2).symm, rfl⟩
set_option maxRecDepth 100000 in
theorem mt_X3_withPieces : MtOK yX3_withPieces cX3_withPieces 3 (some .int) 0 C_X3_withPieces := by
  refine mt_of sx_X3_withPieces (by decide +kernel) (Or.inl ⟨rfl, rfl, rfl⟩) (by decide +kernel) fdX3_ok kLX3_ok kIX3_ok sgX3_ok ntX3_ok
    (all_nil) ?_ ?_
  · rintro as M - ⟨s, k, p, rfl, hp⟩
    exact Nat.le_of_ble_eq_true rfl
  · rintro L scr as M - ⟨s, k, p, rfl, hp⟩
    exact Runs.mono (fun x M' h _ _ _ e => by cases e; exact h) (ok_X3_withPieces L scr s k p M hp)
