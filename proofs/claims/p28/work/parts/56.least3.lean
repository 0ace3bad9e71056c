theorem gdP_ge {f : Int → Int} {d : Int} : ∀ (n : Nat) (p : Int), 0 ≤ p → p < n → dbt f (f (38 + 16 * d + p)) ≤ gdP f d n
  | 0, p, h0, h1 => by omega
  | n + 1, p, h0, h1 => by
    unfold gdP
    by_cases e : p = n
    · subst e
      split <;> omega
    · have := gdP_ge (f := f) (d := d) n p h0 (by omega)
      split <;> omega
theorem gd_ge {f : Int → Int} {d t : Int} (m : mem f d t) : dbt f t ≤ gdD f d := by
  obtain ⟨p, ⟨a, b, c, e⟩, ht⟩ := m
  rw [← ht]
  exact gdP_ge _ p c (by omega)
theorem gdP_ex {f : Int → Int} {d : Int} : ∀ n : Nat, 0 < gdP f d n → ∃ p : Int, 0 ≤ p ∧ p < n ∧ dbt f (f (38 + 16 * d + p)) = gdP f d n
  | 0, h => by
    have h : (0 : Int) < 0 := h
    omega
  | n + 1, h => by
    unfold gdP at h ⊢
    by_cases e : gdP f d n < dbt f (f (38 + 16 * d + (n : Int)))
    · rw [if_pos e]
      exact ⟨n, by omega, by omega, rfl⟩
    · rw [if_neg e] at h ⊢
      obtain ⟨p, a, b, c⟩ := gdP_ex n h
      exact ⟨p, a, by omega, c⟩
theorem gd_ex {f : Int → Int} {d : Int} (hd : 0 ≤ d ∧ d < 3) (h : 0 < gdD f d) : ∃ t, mem f d t ∧ dbt f t = gdD f d := by
  obtain ⟨p, a, b, c⟩ := gdP_ex _ h
  exact ⟨_, ⟨p, ⟨hd.1, hd.2, a, by omega⟩, rfl⟩, c⟩
theorem us0_dm {f : Int → Int} {k t : Int} (hB : Bd f) (ht : 0 ≤ t ∧ t < 64) : dbt (us f 0 k) t = dbt f t ∧ msk (us f 0 k) t = msk f t := by
  obtain ⟨c0, -⟩ := hB.2.2.2 t ht.1 ht.2
  exact ⟨dbt_cg (us_n (by omega)) (us_n (by omega)) (us_n (by omega)) (us_n (by omega)) (fun k _ _ => us_n (by omega)) (us_n (by omega)), msk_cg (us_n (by omega)) (us_n (by omega)) (us_n (by omega))⟩
theorem us0_mem {f : Int → Int} {k e t : Int} (I : Inv f) (hk : 0 ≤ k ∧ k ≤ 200) : mem (us f 0 k) e t ↔ mem f e t :=
  ⟨fun m => mem_cg (us0_Inv hk I) (fun j hj => (us_n (by omega)).symm) m, fun m => mem_cg I (fun j hj => us_n (by omega)) m⟩
theorem ls_safe {f : Int → Int} {k D : Int} (I : Inv f) (hk : 0 ≤ k ∧ k ≤ 200) (h3 : 0 ≤ D ∧ D ≤ 3) (hD : D = 0 ∨ f (22 + 4 * D) = 0) (h2 : D ≤ 2 → gdD f 2 = 0) (h1 : ∀ e, D ≤ e → 0 ≤ e → e < 2 → gdD f e ≤ 2 * k) : tnN N200 (us f 0 k) 9 = f 9 := by
  have I2 := us0_Inv hk I
  have e9 : us f 0 k 9 = f 9 := us_n (by omega)
  rw [← e9]
  refine sf_tnN I2.1 (D := D) ?_ h3.2 _ _ ⟨I2, fun _ _ => rfl⟩ (fun e t he m => ?_)
  · rw [us_n (by omega)]
    exact hD
  · obtain ⟨b1, b2, -⟩ := mem_b I2 m
    have m := (us0_mem I hk).mp m
    obtain ⟨d1, d2⟩ := us0_dm (k := k) I.1 b2
    have ge := gd_ge m
    have bd := dbt_bd I.1 b2
    rw [d1, d2, us_s]
    refine ⟨fun z => ?_, fun z => ?_⟩
    · subst z
      rw [h2 he] at ge
      exact (dbt_0 I.1 b2).mp (by omega)
    · have := h1 e he b1.1 (by omega)
      omega
theorem ls_live {f : Int → Int} {k e : Int} (I : Inv f) (hk : 0 ≤ k ∧ k ≤ 200) (he : 0 ≤ e ∧ e < 3) (hh : ∀ e', e ≤ e' → e' < 3 → 1 ≤ f (26 + 4 * e')) (hg : e = 2 ∧ 0 < gdD f 2 ∨ e < 2 ∧ 2 * k < gdD f e) : tnN N200 (us f 0 k) 9 ≠ f 9 := by
  have I2 := us0_Inv hk I
  have e9 : us f 0 k 9 = f 9 := us_n (by omega)
  rw [← e9]
  have g0 : 0 < gdD f e := by
    rcases hg with ⟨rfl, z⟩ | ⟨-, z⟩
    · exact z
    · omega
  obtain ⟨t, m, hx⟩ := gd_ex he g0
  have b2 := (mem_b I m).2.1
  obtain ⟨d1, d2⟩ := us0_dm (k := k) I.1 b2
  have L : Lv (us f 0 k) t e := by
    refine ⟨I2.1, he.1, fun e' a b => ?_, ?_, ?_⟩
    · rw [us_n (by omega)]
      exact hh e' a b
    · rw [d2]
      intro z
      have := (dbt_0 I.1 b2).mpr z
      omega
    · rw [d1, us_s]
      omega
  have := lv_ok L I2 (Int.le_refl e) ((us0_mem I hk).mpr m) (n := N200) (by rw [N200_eq]; omega)
  omega
theorem lsm_g {f : Int → Int} {K : Int} (hl : ∀ k, 0 ≤ k → k < K → k ≤ 200 → tnN N200 (us f 0 k) 9 ≠ f 9) (hs : K ≤ 200 → tnN N200 (us f 0 K) 9 = f 9) : ∀ (n : Nat) (k : Int), 0 ≤ k → k + n = 201 → k ≤ K → lsm f n k = if K ≤ 200 then K else -6
  | 0, k, h0, h1, h2 => by
    rw [if_neg (by omega)]
    rfl
  | n + 1, k, h0, h1, h2 => by
    unfold lsm
    by_cases e : k = K
    · subst e
      rw [if_pos (hs (by omega)), if_pos (by omega)]
    · rw [if_neg (hl k h0 (by omega) (by omega))]
      exact lsm_g hl hs n (k + 1) (by omega) (by omega) (by omega)
theorem lsm_v {f : Int → Int} {K : Int} (h0 : 0 ≤ K) (hl : ∀ k, 0 ≤ k → k < K → k ≤ 200 → tnN N200 (us f 0 k) 9 ≠ f 9) (hs : K ≤ 200 → tnN N200 (us f 0 K) 9 = f 9) : lsm f 201 0 = if K ≤ 200 then K else -6 := lsm_g hl hs 201 0 (by omega) (by omega) h0
theorem Wn.lsm_ {f g : Int → Int} (h : Wn g f) (I : Inv f) : ∀ (n : Nat) (k : Int), 0 ≤ k → k + n = 201 → lsm g n k = lsm f n k
  | 0, _, _, _ => rfl
  | n + 1, k, h0, h1 => by
    have w := Wn.tnN_ N200 _ _ (h.us_ (i := 0) (x := k) rfl) (us0_Inv (by omega) I) 9 (by omega) (by omega)
    unfold lsm
    rw [w, h 9 (by omega) (by omega), Wn.lsm_ h I n (k + 1) (by omega) (by omega)]
/-- what the class finds, desk by desk -/
theorem ls_0 {f : Int → Int} (I : Inv f) (h : f 34 ≤ 0) : lsm f 201 0 = 0 := by
  have c := I.2.2.1 2 (by omega) (by omega)
  have c : 0 ≤ f 34 := c.1
  rw [lsm_v (K := 0) (by omega) (fun k a b => by omega) (fun _ => ls_safe (D := 3) I (by omega) (by omega) (Or.inr (by show f 34 = 0; omega)) (fun z => by omega) (fun e a _ b => by omega)), if_pos (by omega)]
theorem ls_1 {f : Int → Int} (I : Inv f) (h : 0 < f 34) (g : 0 < gdD f 2) : lsm f 201 0 = -6 := by
  have hh : ∀ e', 2 ≤ e' → e' < 3 → 1 ≤ f (26 + 4 * e') := fun e' x y => by
    have : e' = 2 := by omega
    subst this
    exact h
  rw [lsm_v (K := 201) (by omega) (fun k a _ b => ls_live (e := 2) I ⟨a, b⟩ (by omega) hh (Or.inl ⟨rfl, g⟩)) (fun z => by omega), if_neg (by omega)]
theorem ls_2 {f : Int → Int} (I : Inv f) (g : gdD f 2 = 0) (h1 : f 30 ≤ 0) : lsm f 201 0 = 0 := by
  have c : 0 ≤ f 30 := (I.2.2.1 1 (by omega) (by omega)).1
  rw [lsm_v (K := 0) (by omega) (fun k a b => by omega) (fun _ => ls_safe (D := 2) I (by omega) (by omega) (Or.inr (by show f 30 = 0; omega)) (fun _ => g) (fun e a _ b => by omega)), if_pos (by omega)]
theorem ls_3 {f : Int → Int} (I : Inv f) (h : 0 < f 34) (g : gdD f 2 = 0) (h1 : 0 < f 30) (h0 : f 26 ≤ 0) {K : Int} (hK : K = (gdD f 1 + 1) / 2) : lsm f 201 0 = if K ≤ 200 then K else -6 := by
  have c : 0 ≤ f 26 := (I.2.2.1 0 (by omega) (by omega)).1
  have b1 : 0 ≤ gdD f 1 := (gdP_bd I (d := 1) (by omega) (f (27 + 4 * 1)).toNat (by have := I.le (d := 1) (by omega) (by omega); omega)).1
  refine lsm_v (by omega) (fun k a b1 b2 => ls_live (e := 1) I ⟨a, b2⟩ (by omega) (fun e' x y => ?_) (Or.inr ⟨by omega, by omega⟩)) (fun z => ls_safe (D := 1) I (by omega) (by omega) (Or.inr (by show f 26 = 0; omega)) (fun _ => g) (fun e a _ b => ?_))
  · have : e' = 1 ∨ e' = 2 := by omega
    rcases this with rfl | rfl
    · exact h1
    · exact h
  · have : e = 1 := by omega
    subst this
    omega
theorem ls_4 {f : Int → Int} (I : Inv f) (h : 0 < f 34) (g : gdD f 2 = 0) (h1 : 0 < f 30) (h0 : 0 < f 26) {K : Int} (hK : K = (gdD f 1 + 1) / 2 ∧ (gdD f 0 + 1) / 2 ≤ K ∨ K = (gdD f 0 + 1) / 2 ∧ (gdD f 1 + 1) / 2 ≤ K) : lsm f 201 0 = if K ≤ 200 then K else -6 := by
  have b1 : 0 ≤ gdD f 1 := (gdP_bd I (d := 1) (by omega) (f (27 + 4 * 1)).toNat (by have := I.le (d := 1) (by omega) (by omega); omega)).1
  have b0 : 0 ≤ gdD f 0 := (gdP_bd I (d := 0) (by omega) (f (27 + 4 * 0)).toNat (by have := I.le (d := 0) (by omega) (by omega); omega)).1
  have hh : ∀ e', 0 ≤ e' → e' < 3 → 1 ≤ f (26 + 4 * e') := fun e' x y => by
    have : e' = 0 ∨ e' = 1 ∨ e' = 2 := by omega
    rcases this with rfl | rfl | rfl
    · exact h0
    · exact h1
    · exact h
  refine lsm_v (by omega) (fun k a b1 b2 => ?_) (fun z => ls_safe (D := 0) I (by omega) (by omega) (Or.inl rfl) (fun _ => g) (fun e a _ b => ?_))
  · rcases hK with ⟨z, -⟩ | ⟨z, -⟩
    · exact ls_live (e := 1) I ⟨a, b2⟩ (by omega) (fun e' x y => hh e' (by omega) y) (Or.inr ⟨by omega, by omega⟩)
    · exact ls_live (e := 0) I ⟨a, b2⟩ (by omega) (fun e' x y => hh e' (by omega) y) (Or.inr ⟨by omega, by omega⟩)
  · have : e = 0 ∨ e = 1 := by omega
    rcases this with rfl | rfl <;> omega
