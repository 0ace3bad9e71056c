/-! plain facts of numbers -/
theorem bt_01 (p : Prop) [Decidable p] : 0 ≤ bt_ p 1 ∧ bt_ p 1 ≤ 1 := by
  unfold bt_
  split <;> omega
theorem bt_t {p : Prop} [Decidable p] {x : Int} (h : p) : bt_ p x = x := if_pos h
theorem bt_f {p : Prop} [Decidable p] {x : Int} (h : ¬ p) : bt_ p x = 0 := if_neg h
theorem i32div_of {x y : Int} (h0 : 0 ≤ x) (h1 : x < 2147483648) (h2 : 0 < y) (h3 : y < 2147483648) : i32div x y = x / y := by
  obtain ⟨a, rfl⟩ : ∃ a : Nat, x = a := ⟨x.toNat, by omega⟩
  obtain ⟨b, rfl⟩ : ∃ b : Nat, y = b := ⟨y.toNat, by omega⟩
  unfold i32div
  rw [of_nI, of_nI, pk_div (by omega) (by omega) (by omega), nI_toInt (Nat.lt_of_le_of_lt (Nat.div_le_self _ _) (by omega))]
  exact Int.natCast_ediv a b
theorem i32rem_of {x y : Int} (h0 : 0 ≤ x) (h1 : x < 2147483648) (h2 : 0 < y) (h3 : y < 2147483648) : i32rem x y = x % y := by
  obtain ⟨a, rfl⟩ : ∃ a : Nat, x = a := ⟨x.toNat, by omega⟩
  obtain ⟨b, rfl⟩ : ∃ b : Nat, y = b := ⟨y.toNat, by omega⟩
  unfold i32rem
  rw [of_nI, of_nI, pk_rem (by omega) (by omega) (by omega), nI_toInt (Nat.lt_of_le_of_lt (Nat.mod_le _ _) (by omega))]
  exact Int.natCast_emod a b
theorem pw_pos (k : Int) : 1 ≤ pw k ∧ pw k ≤ 100000 := by
  unfold pw
  repeat' split
  all_goals omega
theorem dig_bd {d k : Int} (h : 0 ≤ d) : 0 ≤ dig d k ∧ dig d k ≤ 9 := by
  unfold dig
  omega
theorem df_bd {f : Int → Int} {t k : Int} (h1 : 0 ≤ f (87 + 9 * t)) (h2 : 0 ≤ f (88 + 9 * t)) : 0 ≤ df f t k ∧ df f t k ≤ 9 := by
  have a := dig_bd (k := k) h1
  have b := dig_bd (k := k) h2
  unfold df iab
  split <;> omega
theorem ds_01 (f : Int → Int) (t k : Int) : 0 ≤ ds f t k ∧ ds f t k ≤ 1 := bt_01 _
theorem ms_01 (f : Int → Int) (t k : Int) : 0 ≤ ms f t k ∧ ms f t k ≤ 1 := bt_01 _
theorem msk_bd (f : Int → Int) (t : Int) : 0 ≤ msk f t ∧ msk f t < 64 := by
  have h0 := ds_01 f t 0
  have h1 := ds_01 f t 1
  have h2 := ds_01 f t 2
  have h3 := ds_01 f t 3
  have h4 := ds_01 f t 4
  have h5 := ds_01 f t 5
  unfold msk
  omega
theorem fmk_bd (f : Int → Int) (t : Int) : 0 ≤ fmk f t ∧ fmk f t < 64 := by
  have h0 := ms_01 f t 0
  have h1 := ms_01 f t 1
  have h2 := ms_01 f t 2
  have h3 := ms_01 f t 3
  have h4 := ms_01 f t 4
  have h5 := ms_01 f t 5
  unfold fmk
  omega
theorem k6 {P : Int → Prop} {k : Int} (h : 0 ≤ k ∧ k < 6) (h0 : P 0) (h1 : P 1) (h2 : P 2) (h3 : P 3) (h4 : P 4) (h5 : P 5) : P k := by
  have : k = 0 ∨ k = 1 ∨ k = 2 ∨ k = 3 ∨ k = 4 ∨ k = 5 := by omega
  rcases this with rfl | rfl | rfl | rfl | rfl | rfl <;> assumption
theorem ior_shl_n : ∀ k, k < 6 → ∀ a, a < 2 ^ k → ∀ b, b < 2 → xior ((a : Nat) : Int) (xishl ((b : Nat) : Int) ((k : Nat) : Int)) = ((a + b * 2 ^ k : Nat) : Int) := by decide +kernel
theorem p2_n : ∀ k, k < 6 → p2 ((k : Nat) : Int) = ((2 ^ k : Nat) : Int) := by decide +kernel
theorem ior_shl {a b k : Int} (hk : 0 ≤ k ∧ k < 6) (ha : 0 ≤ a ∧ a < p2 k) (hb : 0 ≤ b ∧ b ≤ 1) : xior a (xishl b k) = a + b * p2 k := by
  obtain ⟨k, rfl⟩ : ∃ n : Nat, k = n := ⟨k.toNat, by omega⟩
  obtain ⟨a, rfl⟩ : ∃ n : Nat, a = n := ⟨a.toNat, by omega⟩
  obtain ⟨b, rfl⟩ : ∃ n : Nat, b = n := ⟨b.toNat, by omega⟩
  have e := p2_n k (by omega)
  rw [e] at ha ⊢
  rw [ior_shl_n k (by omega) a (by omega) b (by omega)]
  push_cast
  rfl
theorem shr_n : ∀ k, k < 6 → ∀ a, a < 64 → xiand (xishr ((a : Nat) : Int) ((k : Nat) : Int)) 1 = ((a / 2 ^ k % 2 : Nat) : Int) := by decide +kernel
theorem shr_and {a k : Int} (hk : 0 ≤ k ∧ k < 6) (ha : 0 ≤ a ∧ a < 64) : xiand (xishr a k) 1 = a / p2 k % 2 := by
  obtain ⟨k, rfl⟩ : ∃ n : Nat, k = n := ⟨k.toNat, by omega⟩
  obtain ⟨a, rfl⟩ : ∃ n : Nat, a = n := ⟨a.toNat, by omega⟩
  rw [p2_n k (by omega), shr_n k (by omega) a (by omega)]
  push_cast
  rfl
theorem msk_bit (f : Int → Int) (t : Int) {k : Int} (hk : 0 ≤ k ∧ k < 6) : msk f t / p2 k % 2 = ds f t k := by
  have h0 := ds_01 f t 0
  have h1 := ds_01 f t 1
  have h2 := ds_01 f t 2
  have h3 := ds_01 f t 3
  have h4 := ds_01 f t 4
  have h5 := ds_01 f t 5
  unfold msk
  refine k6 (P := fun k => _ / p2 k % 2 = ds f t k) hk ?_ ?_ ?_ ?_ ?_ ?_
  · show _ / 1 % 2 = _
    omega
  · show _ / 2 % 2 = _
    omega
  · show _ / 4 % 2 = _
    omega
  · show _ / 8 % 2 = _
    omega
  · show _ / 16 % 2 = _
    omega
  · show _ / 32 % 2 = _
    omega

