/-! SUMS that the law's trunks makes -/
theorem xior_0 {a : Int} (h : 0 ≤ a ∧ a < 2147483648) : xior a 0 = a := by
  have := xior_n (a := a.toNat) (b := 0) (by omega) (by omega)
  rw [Nat.or_zero, show ((a.toNat : Nat) : Int) = a by omega] at this
  exact this
def smP (f : Int → Int) (t : Int) : Nat → Int
  | 0 => 0
  | n + 1 => smP f t n + ds f t (n : Int) * df f t (n : Int)
theorem ds_two (f : Int → Int) (t k : Int) : ds f t k = 0 ∨ ds f t k = 1 := by
  unfold ds
  by_cases z : f 4 < df f t k
  · exact Or.inr (bt_t z)
  · exact Or.inl (bt_f z)
theorem smP_bd {f : Int → Int} {t : Int} (h1 : 0 ≤ f (87 + 9 * t)) (h2 : 0 ≤ f (88 + 9 * t)) : ∀ n : Nat, 0 ≤ smP f t n ∧ smP f t n ≤ 9 * n
  | 0 => by show 0 ≤ (0 : Int) ∧ (0 : Int) ≤ 9 * 0; omega
  | n + 1 => by
    have i := smP_bd h1 h2 n
    have d := df_bd (f := f) (t := t) (k := (n : Int)) h1 h2
    show 0 ≤ smP f t n + ds f t (n : Int) * df f t (n : Int) ∧ smP f t n + ds f t (n : Int) * df f t (n : Int) ≤ 9 * ((n + 1 : Nat) : Int)
    rcases ds_two f t (n : Int) with e | e
    · rw [e, Int.zero_mul]; omega
    · rw [e, Int.one_mul]; omega
theorem dP_sm {f : Int → Int} (hB : Bd f) {t : Int} (ht : 0 ≤ t ∧ t < 64) : ∀ n : Nat, n ≤ 6 → smP f t n ≤ dP f t n - dP f t 0 ∧ dP f t n - dP f t 0 ≤ 9 * smP f t n
  | 0, _ => by show (0 : Int) ≤ dP f t 0 - dP f t 0 ∧ dP f t 0 - dP f t 0 ≤ 9 * 0; omega
  | n + 1, h => by
    have i := dP_sm hB ht n (by omega)
    obtain ⟨-, c1, c2, -⟩ := hB.2.2.2 t ht.1 ht.2
    have d := df_bd (f := f) (t := t) (k := (n : Int)) c1.1 c2.1
    have w := hB.2.1 (n : Int) (by omega) (by omega)
    show smP f t n + ds f t (n : Int) * df f t (n : Int) ≤ dP f t n + dw f t (n : Int) - dP f t 0 ∧ dP f t n + dw f t (n : Int) - dP f t 0 ≤ 9 * (smP f t n + ds f t (n : Int) * df f t (n : Int))
    unfold dw
    rcases ds_two f t (n : Int) with e | e
    · rw [e, Int.zero_mul, Int.zero_mul]; omega
    · rw [e, Int.one_mul]
      have a1 : df f t (n : Int) * 1 ≤ df f t (n : Int) * f (15 + (n : Int)) := Int.mul_le_mul_of_nonneg_left w.1 d.1
      have a2 : df f t (n : Int) * f (15 + (n : Int)) ≤ df f t (n : Int) * 9 := Int.mul_le_mul_of_nonneg_left w.2 d.1
      omega
theorem dbt_sm {f : Int → Int} (hB : Bd f) {t : Int} (ht : 0 ≤ t ∧ t < 64) (hm : msk f t ≠ 0) : smP f t 6 ≤ dbt f t ∧ dbt f t ≤ 9 * smP f t 6 + 9 := by
  have i := dP_sm hB ht 6 (by omega)
  obtain ⟨c0, -⟩ := hB.2.2.2 t ht.1 ht.2
  have tb := hB.2.2.1 _ c0.1 c0.2
  have e0 : dP f t 0 = 9 - f (21 + f (86 + 9 * t)) := rfl
  rw [dP_6, if_neg hm]
  omega
theorem plc_ex {f : Int → Int} {d t : Int} : ∀ n : Nat, plc f d t n ≠ -6 → 0 ≤ plc f d t n ∧ plc f d t n < n ∧ f (38 + 16 * d + plc f d t n) = t
  | 0, h => absurd rfl h
  | n + 1, h => by
    unfold plc at h ⊢
    by_cases z : f (38 + 16 * d + (n : Int)) = t
    · rw [if_pos z]
      exact ⟨by omega, by omega, z⟩
    · rw [if_neg z] at h ⊢
      have := plc_ex n h
      exact ⟨this.1, by omega, this.2.2⟩
theorem plD_q {f : Int → Int} (I : Inv f) {d t : Int} (hd : 0 ≤ d ∧ d < 3) (h : plD f d t ≠ -6) : Qv f d (plD f d t) ∧ f (38 + 16 * d + plD f d t) = t := by
  have l := I.le hd.1 hd.2
  obtain ⟨a, b, c⟩ := plc_ex (f := f) (d := d) (t := t) (f (27 + 4 * d)).toNat h
  unfold plD
  exact ⟨⟨hd.1, hd.2, a, by omega⟩, c⟩
theorem dko_d {f : Int → Int} (I : Inv f) {d t : Int} (hd : 0 ≤ d ∧ d < 3) : dko f t 3 = d ↔ plD f d t ≠ -6 := by
  constructor
  · intro h z
    have e : dko f t 3 = if plD f 2 t = -6 then (if plD f 1 t = -6 then (if plD f 0 t = -6 then -6 else 0) else 1) else 2 := rfl
    rw [h] at e
    have : d = 0 ∨ d = 1 ∨ d = 2 := by omega
    rcases this with rfl | rfl | rfl
    · rw [z, if_pos rfl] at e
      split at e
      · split at e <;> omega
      · omega
    · rw [z, if_pos rfl] at e
      split at e
      · split at e <;> omega
      · omega
    · rw [z, if_pos rfl] at e
      split at e
      · split at e <;> omega
      · omega
  · intro h
    obtain ⟨q, e⟩ := plD_q I hd h
    exact (I.at q e).2
theorem dko_r (f : Int → Int) (t : Int) : dko f t 3 = -6 ∨ dko f t 3 = 0 ∨ dko f t 3 = 1 ∨ dko f t 3 = 2 := by
  have e : dko f t 3 = if plD f 2 t = -6 then (if plD f 1 t = -6 then (if plD f 0 t = -6 then -6 else 0) else 1) else 2 := rfl
  rw [e]
  split
  · split
    · split <;> omega
    · omega
  · omega
/-- where a trunk is -/
theorem tk_f {f : Int → Int} (I : Inv f) (V : Iv2 f) {t : Int} (ht : 0 ≤ t ∧ t < f 7) : (f (90 + 9 * t) = 0 ∧ (0 ≤ dko f t 3 ∧ dko f t 3 < 3) ∧ (0 ≤ plD f (dko f t 3) t ∧ plD f (dko f t 3) t < 16) ∧ f (94 + 9 * t) = dko f t 3) ∨ (f (90 + 9 * t) ≠ 0 ∧ dko f t 3 = -6) := by
  by_cases h : f (90 + 9 * t) = 0
  · obtain ⟨d, p, q, e⟩ := ((I.2.2.2.2.2.2.1 t ht.1 ht.2).2.2 h).2
    obtain ⟨a, b⟩ := I.at q e
    have l := I.le q.1 q.2.1
    have q4 := q.2.2.2
    have q3 := q.2.2.1
    have pa := a d q.1 q.2.1
    rw [if_pos rfl] at pa
    rw [b, pa]
    refine Or.inl ⟨h, ⟨q.1, q.2.1⟩, ⟨q3, by omega⟩, ?_⟩
    have := V.2.1 d p q
    rwa [e] at this
  · refine Or.inr ⟨h, ?_⟩
    rcases dko_r f t with z | z
    · exact z
    · exfalso
      have hd : 0 ≤ dko f t 3 ∧ dko f t 3 < 3 := by omega
      obtain ⟨q, e⟩ := plD_q I hd ((dko_d I hd).mp rfl)
      have := (I.2.2.2.2.1 _ _ q).2.2
      rw [e] at this
      exact h this
/-- over all trunks: those of a desk, with a weight -/
def qS (f : Int → Int) (d : Int) (w : Int → Int) : Nat → Int
  | 0 => 0
  | n + 1 => qS f d w n + bt_ (dko f (n : Int) 3 = d) (w (n : Int))
def pS (f : Int → Int) (d : Int) (w : Int → Int) : Nat → Int
  | 0 => 0
  | n + 1 => pS f d w n + w (f (38 + 16 * d + (n : Int)))
def qM (f : Int → Int) (d : Int) (m : Nat) (w : Int → Int) : Nat → Int
  | 0 => 0
  | n + 1 => qM f d m w n + bt_ (plc f d (n : Int) m ≠ -6) (w (n : Int))
theorem qM_s {f : Int → Int} {d : Int} {m : Nat} {w : Int → Int} (h0 : 0 ≤ f (38 + 16 * d + (m : Int))) (hx : plc f d (f (38 + 16 * d + (m : Int))) m = -6) : ∀ n : Nat, qM f d (m + 1) w n = qM f d m w n + bt_ (f (38 + 16 * d + (m : Int)) < n) (w (f (38 + 16 * d + (m : Int))))
  | 0 => by
    show (0 : Int) = 0 + _
    rw [bt_f (by omega)]
    rfl
  | n + 1 => by
    show qM f d (m + 1) w n + bt_ (plc f d (n : Int) (m + 1) ≠ -6) (w (n : Int)) = qM f d m w n + bt_ (plc f d (n : Int) m ≠ -6) (w (n : Int)) + _
    rw [qM_s h0 hx n]
    by_cases e : f (38 + 16 * d + (m : Int)) = n
    · have e1 : plc f d (n : Int) (m + 1) = m := if_pos e
      rw [e] at hx ⊢
      rw [e1, hx, bt_f (by omega), bt_t (by omega), bt_f (by omega), bt_t (by omega)]
    · have e1 : plc f d (n : Int) (m + 1) = plc f d (n : Int) m := if_neg e
      rw [e1]
      by_cases e2 : f (38 + 16 * d + (m : Int)) < n
      · rw [bt_t e2, bt_t (show f (38 + 16 * d + (m : Int)) < ((n + 1 : Nat) : Int) by omega)]
        omega
      · rw [bt_f e2, bt_f (show ¬ f (38 + 16 * d + (m : Int)) < ((n + 1 : Nat) : Int) by omega)]
        omega
theorem qM_0 (f : Int → Int) (d : Int) (w : Int → Int) : ∀ n : Nat, qM f d 0 w n = 0
  | 0 => rfl
  | n + 1 => by
    show qM f d 0 w n + bt_ (plc f d (n : Int) 0 ≠ -6) (w (n : Int)) = 0
    rw [qM_0 f d w n, bt_f (fun z => z rfl)]
    rfl
theorem qM_p {f : Int → Int} (I : Inv f) {d : Int} (hd : 0 ≤ d ∧ d < 3) (w : Int → Int) : ∀ m : Nat, (m : Int) ≤ f (27 + 4 * d) → qM f d m w (f 7).toNat = pS f d w m
  | 0, _ => qM_0 f d w _
  | m + 1, h => by
    have q : Qv f d (m : Int) := ⟨hd.1, hd.2, by omega, by omega⟩
    have D := I.2.2.2.2.1 _ _ q
    have hx : plc f d (f (38 + 16 * d + (m : Int))) m = -6 := plc_out m (fun p a b z => by
      have := (I.2.2.2.2.2.1 d p d m ⟨hd.1, hd.2, a, by omega⟩ q z).2
      omega)
    rw [qM_s D.1 hx, qM_p I hd w m (by omega), bt_t (show f (38 + 16 * d + (m : Int)) < (((f 7).toNat : Nat) : Int) by omega)]
    rfl
theorem qS_M {f : Int → Int} (I : Inv f) {d : Int} (hd : 0 ≤ d ∧ d < 3) (w : Int → Int) : ∀ n : Nat, qS f d w n = qM f d (f (27 + 4 * d)).toNat w n
  | 0 => rfl
  | n + 1 => by
    show qS f d w n + _ = qM f d _ w n + _
    rw [qS_M I hd w n]
    congr 1
    have e : dko f (n : Int) 3 = d ↔ plc f d (n : Int) (f (27 + 4 * d)).toNat ≠ -6 := dko_d I hd
    by_cases z : dko f (n : Int) 3 = d
    · rw [bt_t z, bt_t (e.mp z)]
    · rw [bt_f z, bt_f (fun y => z (e.mpr y))]
theorem qS_p {f : Int → Int} (I : Inv f) {d : Int} (hd : 0 ≤ d ∧ d < 3) (w : Int → Int) : qS f d w (f 7).toNat = pS f d w (f (27 + 4 * d)).toNat := by
  have l := I.le hd.1 hd.2
  rw [qS_M I hd w, qM_p I hd w _ (by omega)]
theorem pS_1 (f : Int → Int) (d : Int) : ∀ n : Nat, pS f d (fun _ => 1) n = n
  | 0 => rfl
  | n + 1 => by
    show pS f d (fun _ => 1) n + 1 = _
    rw [pS_1 f d n]
    rfl
theorem pS_d (f : Int → Int) (d : Int) : ∀ n : Nat, pS f d (dbt f) n = sdP f d n
  | 0 => rfl
  | n + 1 => by
    show pS f d (dbt f) n + _ = sdP f d n + _
    rw [pS_d f d n]
theorem qS_len {f : Int → Int} (I : Inv f) {d : Int} (hd : 0 ≤ d ∧ d < 3) : qS f d (fun _ => 1) (f 7).toNat = f (27 + 4 * d) := by
  have l := I.le hd.1 hd.2
  rw [qS_p I hd, pS_1]
  omega
theorem qS_dbt {f : Int → Int} (I : Inv f) {d : Int} (hd : 0 ≤ d ∧ d < 3) : qS f d (dbt f) (f 7).toNat = sdD f d := by
  rw [qS_p I hd, pS_d]
  rfl
theorem cF_q {f : Int → Int} (I : Inv f) (V : Iv2 f) : ∀ n : Nat, (n : Int) ≤ f 7 → cF f 0 n = qS f 0 (fun _ => 1) n + qS f 1 (fun _ => 1) n + qS f 2 (fun _ => 1) n
  | 0, _ => rfl
  | n + 1, h => by
    show cF f 0 n + bt_ (f (90 + 9 * (n : Int)) = 0) 1 = qS f 0 (fun _ => 1) n + bt_ (dko f (n : Int) 3 = 0) 1 + (qS f 1 (fun _ => 1) n + bt_ (dko f (n : Int) 3 = 1) 1) + (qS f 2 (fun _ => 1) n + bt_ (dko f (n : Int) 3 = 2) 1)
    rw [cF_q I V n (by omega)]
    rcases tk_f I V (t := (n : Int)) ⟨by omega, by omega⟩ with ⟨a, b, -⟩ | ⟨a, b⟩
    · rw [bt_t a]
      rcases (show dko f (n : Int) 3 = 0 ∨ dko f (n : Int) 3 = 1 ∨ dko f (n : Int) 3 = 2 by omega) with z | z | z
      · rw [z, bt_t rfl, bt_f (by omega), bt_f (by omega)]; omega
      · rw [z, bt_t rfl, bt_f (by omega), bt_f (by omega)]; omega
      · rw [z, bt_t rfl, bt_f (by omega), bt_f (by omega)]; omega
    · rw [bt_f a, b, bt_f (by omega), bt_f (by omega), bt_f (by omega)]; omega
theorem cF_wait {f : Int → Int} (I : Inv f) (V : Iv2 f) : cF f 0 (f 7).toNat = f 27 + f 31 + f 35 := by
  have i7 := I.i7
  rw [cF_q I V _ (by omega), qS_len I (by omega), qS_len I (by omega), qS_len I (by omega)]
  rfl
theorem acc_bd {f : Int → Int} (h : Ok2 f) (h6 : f 6 ≤ 9999) {t : Int} (ht : 0 ≤ t ∧ t < f 7) : 0 ≤ f (91 + 9 * t) ∧ f (91 + 9 * t) ≤ 4000000 := by
  obtain ⟨I, V, b, -⟩ := h
  have g := gone_bd I
  have i7 := I.i7
  have s := sA_nn (f := f) (f 7).toNat (fun s a b => (V.1 s a (by omega)).1)
  have := s.2 t ht.1 (by omega)
  have c := V.2.2.1
  have d := V.2.2.2.1
  exact ⟨(V.1 t ht.1 ht.2).1, by omega⟩
