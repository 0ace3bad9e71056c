/-! a state copied from another one -/
def SC (M N : Mem) (a b : Nat) (S : List (Nat × Int × Int)) : Prop := (∀ e, e ∈ S → e.1 < 22 ∧ ∀ k, e.2.1 ≤ k → k < e.2.2 → N (a + e.1) k = M (b + e.1) k) ∧ ∀ r, (r < a ∨ a + 22 ≤ r) → N r = M r
theorem SC.ad {M N N' : Mem} {a b : Nat} {S : List (Nat × Int × Int)} (h : SC M N a b S) (c : Nat) (lo hi : Int) (hne : a + 22 ≤ b ∨ b + 22 ≤ a) (hc : c < 22) (h1 : ∀ k, lo ≤ k → k < hi → N' (a + c) k = N (b + c) k) (h2 : ∀ r k, (r ≠ a + c ∨ k < lo ∨ hi ≤ k) → N' r k = N r k) : SC M N' a b ((c, lo, hi) :: S) := by
  obtain ⟨g1, g2⟩ := h
  refine ⟨fun e he => ?_, fun r hr => ?_⟩
  · rcases List.mem_cons.mp he with rfl | he
    · refine ⟨hc, fun k a0 a1 => ?_⟩
      show N' (a + c) k = M (b + c) k
      rw [h1 k a0 a1, g2 _ (by omega)]
    · obtain ⟨z1, z2⟩ := g1 e he
      refine ⟨z1, fun k a0 a1 => ?_⟩
      by_cases x : e.1 = c ∧ lo ≤ k ∧ k < hi
      · rw [x.1, h1 k x.2.1 x.2.2, g2 _ (by omega)]
      · rw [h2 _ _ (by omega)]
        exact z2 k a0 a1
  · rw [← g2 r hr]
    funext k
    exact h2 r k (Or.inl (by omega))
theorem SC.cp {M N : Mem} {a b : Nat} {S : List (Nat × Int × Int)} (h : SC M N a b S) (c : Nat) (n : Int) (hne : a + 22 ≤ b ∨ b + 22 ≤ a) (hc : c < 22) : SC M (cpM N (b + c) 0 (a + c) 0 n) a b ((c, 0, n) :: S) :=
  h.ad c 0 n hne hc (fun k a0 a1 => by
    unfold cpM
    rw [if_pos (by omega)]
    congr 1
    omega) (fun r k hr => by
    unfold cpM
    rw [if_neg (by omega)])
theorem SC.up {M N : Mem} {a b : Nat} {S : List (Nat × Int × Int)} (h : SC M N a b S) (k : Int) (hne : a + 22 ≤ b ∨ b + 22 ≤ a) : SC M (upM N a k (N b k)) a b ((0, k, k + 1) :: S) :=
  h.ad 0 k (k + 1) hne (by omega) (fun k' a0 a1 => by
    rw [show k' = k by omega]
    exact upM_s) (fun r k' hr => upM_off (by omega))
theorem SC.cd {M N : Mem} {a b : Nat} {S : List (Nat × Int × Int)} (h : SC M N a b S) (d : Nat) (hne : a + 22 ≤ b ∨ b + 22 ≤ a) (hd : d < 3) : SC M (cpD N (b + (5 + 2 * d)) (a + (5 + 2 * d))) a b ((6 + 2 * d, 0, 16) :: (5 + 2 * d, 1, 5) :: S) := by
  have e : cpD N (b + (5 + 2 * d)) (a + (5 + 2 * d)) = cpM (fun r k => if r = a + (5 + 2 * d) ∧ 1 ≤ k ∧ k < 5 then N (b + (5 + 2 * d)) k else N r k) (b + (6 + 2 * d)) 0 (a + (6 + 2 * d)) 0 16 := by
    funext r k
    unfold cpD cpM
    dsimp only
    by_cases h1 : r = a + (5 + 2 * d) ∧ 1 ≤ k ∧ k ≤ 4
    · rw [if_pos h1, if_neg (by omega), if_pos (by omega)]
    · rw [if_neg h1]
      by_cases h2 : r = a + (5 + 2 * d) + 1 ∧ 0 ≤ k ∧ k < 16
      · rw [if_pos h2, if_pos (by omega), if_neg (by omega), show b + (5 + 2 * d) + 1 = b + (6 + 2 * d) by omega]
        congr 1
        omega
      · rw [if_neg h2, if_neg (by omega), if_neg (by omega)]
  rw [e]
  exact (h.ad (5 + 2 * d) 1 5 hne (by omega) (fun k a0 a1 => if_pos ⟨rfl, a0, a1⟩) (fun r k hr => if_neg (by omega))).cp (6 + 2 * d) 16 hne (by omega)
theorem SC.tk {M N N' : Mem} {a b : Nat} {S : List (Nat × Int × Int)} {l : List Nat} (h : SC M N a b S) (hS : S.all (fun e => decide (e.1 < 11)) = true) (hne : a + 22 ≤ b ∨ b + 22 ≤ a) (hc : CpI N N' (a + 11) (b + 11) (M (b + 11) 0) l) : SC M N' a b ((11, 0, 1) :: S) := by
  obtain ⟨g1, g2⟩ := h
  obtain ⟨c1, c2, c3⟩ := hc
  refine ⟨fun e he => ?_, fun r hr => ?_⟩
  · rcases List.mem_cons.mp he with rfl | he
    · refine ⟨by decide, fun k a0 a1 => ?_⟩
      have : k = 0 := by
        have a0 : (0 : Int) ≤ k := a0
        have a1 : k < (1 : Int) := a1
        omega
      subst this
      exact c1
    · obtain ⟨z1, z2⟩ := g1 e he
      have := of_decide_eq_true (List.all_eq_true.mp hS e he)
      refine ⟨z1, fun k a0 a1 => ?_⟩
      rw [c3 _ (by omega)]
      exact z2 k a0 a1
  · rw [c3 r (by omega), g2 r hr]
def TC_ (M N : Mem) (a b : Nat) (n : Int) : Prop := ∀ j, taB j = true → ∀ t, 0 ≤ t → t < n → N (a + 11 + j) t = M (b + 11 + j) t
theorem taB_l {j : Nat} (h : taB j = true) : j ∈ [10, 9, 8, 7, 6, 5, 4, 3, 1] := by
  unfold taB at h
  split at h <;> first | decide | cases h
def L86 : List (Nat × Int × Int) := [(0, 8, 9), (0, 7, 8), (0, 6, 7), (0, 5, 6), (11, 0, 1), (10, 0, 16), (9, 1, 5), (8, 0, 16), (7, 1, 5), (6, 0, 16), (5, 1, 5), (3, 0, 5), (2, 0, 6), (1, 0, 6)]
theorem L86_ok : ∀ n : Nat, n < 86 → n = 8 ∨ n = 9 ∨ n = 10 ∨ n = 14 ∨ L86.any (fun e => e.1 == cl (n : Int) && (decide (e.2.1 ≤ pl (n : Int)) && decide (pl (n : Int) < e.2.2))) = true := by decide +kernel
theorem tcl_j : ∀ c : Nat, c < 9 → taB (tcl (c : Int) - 11) = true ∧ 12 ≤ tcl (c : Int) := by decide +kernel
theorem SC.ok {M N : Mem} {a b : Nat} (h : SC M N a b L86) (f : Int → Int) (h2 : TC_ M N a b (f 7)) (hr : RelS M b f) : RelS N a f := by
  intro i hi
  rw [← hr i hi]
  by_cases e : i < 86
  · obtain ⟨h0, h1, q1, q2, q3, q4⟩ := hi.1
    obtain ⟨n, rfl⟩ : ∃ n : Nat, i = n := ⟨i.toNat, by omega⟩
    rcases L86_ok n (by omega) with z | z | z | z | z
    · omega
    · omega
    · omega
    · omega
    · obtain ⟨e, he, z⟩ := List.any_eq_true.mp z
      simp only [Bool.and_eq_true, beq_iff_eq, decide_eq_true_eq] at z
      rw [← z.1]
      exact (h.1 e he).2 _ z.2.1 z.2.2
  · obtain ⟨t, c, rfl, ht, hc⟩ : ∃ t c : Int, i = 86 + 9 * t + c ∧ 0 ≤ t ∧ 0 ≤ c ∧ c < 9 := ⟨(i - 86) / 9, (i - 86) % 9, by omega, by omega, by omega, by omega⟩
    rw [(cl_t ht hc).1, (cl_t ht hc).2]
    have hv := hi.2
    obtain ⟨n, rfl⟩ : ∃ n : Nat, c = n := ⟨c.toNat, by omega⟩
    obtain ⟨x, y⟩ := tcl_j n (by omega)
    have := h2 _ x t ht (by omega)
    rw [show a + 11 + (tcl (n : Int) - 11) = a + tcl (n : Int) by omega, show b + 11 + (tcl (n : Int) - 11) = b + tcl (n : Int) by omega] at this
    exact this
abbrev C_X4_copyFrom : Ct := (2, false, fun as M => ∃ (a : Nat) (b : Nat), as = [wR a, wR b] ∧ (isSt a ∧ isSt b ∧ (a + 22 ≤ b ∨ b + 22 ≤ a) ∧ 0 ≤ M (b + 11) 0 ∧ M (b + 11) 0 ≤ 64), fun as M x M' => ∀ (a : Nat) (b : Nat), as = [wR a, wR b] → ((∀ f, RelS M b f → RelS M' a f) ∧ FrS M M' a))
def sx_X4_copyFrom : Sx := (tb_X4_copyFrom, fdX4, kLX4, kIX4, sgX4, ntX4, [(155, (0, C_X0_copyFrom)), (159, (5, C_X5_copyFrom))], 0)
set_option maxRecDepth 100000 in
set_option maxHeartbeats 1000000 in
theorem ok_X4_copyFrom (L : Nat) (scr : Int → Int) (a : Nat) (b : Nat) (M : Mem) (hp : isSt a ∧ isSt b ∧ (a + 22 ≤ b ∨ b + 22 ≤ a) ∧ 0 ≤ M (b + 11) 0 ∧ M (b + 11) 0 ≤ 64) : Runs sx_X4_copyFrom L (xcF scr) (fun x M' => (∀ f, RelS M b f → RelS M' a f) ∧ FrS M M' a) 0 [wR a, wR b, none] [] M := by
  obtain ⟨hst, hst2, hne, g1, g2⟩ := hp
  have hb := id hst
  have hb2 := id hst2
  unfold isSt at hb hb2
  have I0 : SC M M a b [] := ⟨fun e h => absurd h List.not_mem_nil, fun r _ => rfl⟩
  refine R_aload_n (q := 1) (i := 1) rfl rfl rfl rfl ?_
  refine R_getR (q := 4) rfl rfl rfl (lay0 hst2) rfl (by omega) ?_
  refine R_iconst (q := 5) rfl rfl ?_
  refine R_aload_n (q := 6) (i := 0) rfl rfl rfl rfl ?_
  refine R_getR (q := 9) rfl rfl rfl (lay0 hst) rfl (by omega) ?_
  refine R_iconst (q := 10) rfl rfl ?_
  refine R_bipush (q := 12) rfl rfl (by decide) ?_
  refine R_copy (q := 15) rfl rfl rfl (layi hst2 rfl) (layi hst rfl) (by omega) (by omega) rfl rfl ?_
  have I1 := I0.cp 1 6 hne (by decide)
  generalize cpM M (b + 1) 0 (a + 1) 0 6 = N1 at I1 ⊢
  refine R_aload_n (q := 16) (i := 1) rfl rfl rfl rfl ?_
  refine R_getR (q := 19) rfl rfl rfl (lay0 hst2) rfl (by omega) ?_
  refine R_iconst (q := 20) rfl rfl ?_
  refine R_aload_n (q := 21) (i := 0) rfl rfl rfl rfl ?_
  refine R_getR (q := 24) rfl rfl rfl (lay0 hst) rfl (by omega) ?_
  refine R_iconst (q := 25) rfl rfl ?_
  refine R_bipush (q := 27) rfl rfl (by decide) ?_
  refine R_copy (q := 30) rfl rfl rfl (layi hst2 rfl) (layi hst rfl) (by omega) (by omega) rfl rfl ?_
  have I2 := I1.cp 2 6 hne (by decide)
  generalize cpM N1 (b + 2) 0 (a + 2) 0 6 = N2 at I2 ⊢
  refine R_aload_n (q := 31) (i := 1) rfl rfl rfl rfl ?_
  refine R_getR (q := 34) rfl rfl rfl (lay0 hst2) rfl (by omega) ?_
  refine R_iconst (q := 35) rfl rfl ?_
  refine R_aload_n (q := 36) (i := 0) rfl rfl rfl rfl ?_
  refine R_getR (q := 39) rfl rfl rfl (lay0 hst) rfl (by omega) ?_
  refine R_iconst (q := 40) rfl rfl ?_
  refine R_iconst (q := 41) rfl rfl ?_
  refine R_copy (q := 44) rfl rfl rfl (layi hst2 rfl) (layi hst rfl) (by omega) (by omega) rfl rfl ?_
  have I3 := I2.cp 3 5 hne (by decide)
  generalize cpM N2 (b + 3) 0 (a + 3) 0 5 = N3 at I3 ⊢
  refine R_iconst (q := 45) rfl rfl ?_
  refine R_istore_n (q := 46) (i := 2) rfl rfl rfl rfl ?_
  refine R_iload_n (q := 47) (i := 2) rfl rfl rfl rfl ?_
  refine R_iconst (q := 48) rfl rfl ?_
  refine R_icmp_ge (q := 51) (tgt := 72) rfl rfl (by decide) (by omega) (by omega) (fun h48 => ?_) (fun h48 => ?_)
  · omega
  · refine R_aload_n (q := 52) (i := 0) rfl rfl rfl rfl ?_
    refine R_getR (q := 55) rfl rfl rfl (lay0 hst) rfl (by omega) ?_
    refine R_iload_n (q := 56) (i := 2) rfl rfl rfl rfl ?_
    refine R_aald (q := 57) (r2 := a + (5 + 2 * 0)) rfl rfl (layi hst rfl) (by omega) (by omega) rfl ?_
    refine R_aload_n (q := 58) (i := 1) rfl rfl rfl rfl ?_
    refine R_getR (q := 61) rfl rfl rfl (lay0 hst2) rfl (by omega) ?_
    refine R_iload_n (q := 62) (i := 2) rfl rfl rfl rfl ?_
    refine R_aald (q := 63) (r2 := b + (5 + 2 * 0)) rfl rfl (layi hst2 rfl) (by omega) (by omega) rfl ?_
    refine R_cV1N (q := 66) (ci := 0) (C := C_X0_copyFrom) rfl rfl rfl rfl rfl ⟨_, _, rfl, (if h : a + 22 ≤ b then Or.inl ⟨dkI hst (d := 0) (by omega), dkI hst2 (d := 0) (by omega), by omega⟩ else Or.inr ⟨dkI hst (d := 0) (by omega), dkI hst2 (d := 0) (by omega), by omega⟩)⟩ rfl (lay_dk (dkI hst (d := 0) (by omega))) (by omega) (fun M' hc => ?_)
    replace hc := hc _ _ rfl
    have I4 := I3.cd 0 hne (by decide)
    rw [hc] at I4
    clear hc
    generalize M' = N4 at I4 ⊢
    refine R_iinc (q := 69) rfl rfl rfl rfl ?_
    refine R_goto (q := 72) (tgt := 46) rfl rfl (by decide) ?_
    refine R_iload_n (q := 47) (i := 2) rfl rfl rfl rfl ?_
    refine R_iconst (q := 48) rfl rfl ?_
    refine R_icmp_ge (q := 51) (tgt := 72) rfl rfl (by decide) (by omega) (by omega) (fun h48 => ?_) (fun h48 => ?_)
    · omega
    · refine R_aload_n (q := 52) (i := 0) rfl rfl rfl rfl ?_
      refine R_getR (q := 55) rfl rfl rfl (lay0 hst) rfl (by omega) ?_
      refine R_iload_n (q := 56) (i := 2) rfl rfl rfl rfl ?_
      refine R_aald (q := 57) (r2 := a + (5 + 2 * 1)) rfl rfl (layi hst rfl) (by omega) (by omega) rfl ?_
      refine R_aload_n (q := 58) (i := 1) rfl rfl rfl rfl ?_
      refine R_getR (q := 61) rfl rfl rfl (lay0 hst2) rfl (by omega) ?_
      refine R_iload_n (q := 62) (i := 2) rfl rfl rfl rfl ?_
      refine R_aald (q := 63) (r2 := b + (5 + 2 * 1)) rfl rfl (layi hst2 rfl) (by omega) (by omega) rfl ?_
      refine R_cV1N (q := 66) (ci := 0) (C := C_X0_copyFrom) rfl rfl rfl rfl rfl ⟨_, _, rfl, (if h : a + 22 ≤ b then Or.inl ⟨dkI hst (d := 1) (by omega), dkI hst2 (d := 1) (by omega), by omega⟩ else Or.inr ⟨dkI hst (d := 1) (by omega), dkI hst2 (d := 1) (by omega), by omega⟩)⟩ rfl (lay_dk (dkI hst (d := 1) (by omega))) (by omega) (fun M' hc => ?_)
      replace hc := hc _ _ rfl
      have I5 := I4.cd 1 hne (by decide)
      rw [hc] at I5
      clear hc
      generalize M' = N5 at I5 ⊢
      refine R_iinc (q := 69) rfl rfl rfl rfl ?_
      refine R_goto (q := 72) (tgt := 46) rfl rfl (by decide) ?_
      refine R_iload_n (q := 47) (i := 2) rfl rfl rfl rfl ?_
      refine R_iconst (q := 48) rfl rfl ?_
      refine R_icmp_ge (q := 51) (tgt := 72) rfl rfl (by decide) (by omega) (by omega) (fun h48 => ?_) (fun h48 => ?_)
      · omega
      · refine R_aload_n (q := 52) (i := 0) rfl rfl rfl rfl ?_
        refine R_getR (q := 55) rfl rfl rfl (lay0 hst) rfl (by omega) ?_
        refine R_iload_n (q := 56) (i := 2) rfl rfl rfl rfl ?_
        refine R_aald (q := 57) (r2 := a + (5 + 2 * 2)) rfl rfl (layi hst rfl) (by omega) (by omega) rfl ?_
        refine R_aload_n (q := 58) (i := 1) rfl rfl rfl rfl ?_
        refine R_getR (q := 61) rfl rfl rfl (lay0 hst2) rfl (by omega) ?_
        refine R_iload_n (q := 62) (i := 2) rfl rfl rfl rfl ?_
        refine R_aald (q := 63) (r2 := b + (5 + 2 * 2)) rfl rfl (layi hst2 rfl) (by omega) (by omega) rfl ?_
        refine R_cV1N (q := 66) (ci := 0) (C := C_X0_copyFrom) rfl rfl rfl rfl rfl ⟨_, _, rfl, (if h : a + 22 ≤ b then Or.inl ⟨dkI hst (d := 2) (by omega), dkI hst2 (d := 2) (by omega), by omega⟩ else Or.inr ⟨dkI hst (d := 2) (by omega), dkI hst2 (d := 2) (by omega), by omega⟩)⟩ rfl (lay_dk (dkI hst (d := 2) (by omega))) (by omega) (fun M' hc => ?_)
        replace hc := hc _ _ rfl
        have I6 := I5.cd 2 hne (by decide)
        rw [hc] at I6
        clear hc
        generalize M' = N6 at I6 ⊢
        have e11 : N6 (b + 11) = M (b + 11) := I6.2 _ (by omega)
        refine R_iinc (q := 69) rfl rfl rfl rfl ?_
        refine R_goto (q := 72) (tgt := 46) rfl rfl (by decide) ?_
        refine R_iload_n (q := 47) (i := 2) rfl rfl rfl rfl ?_
        refine R_iconst (q := 48) rfl rfl ?_
        refine R_icmp_ge (q := 51) (tgt := 72) rfl rfl (by decide) (by omega) (by omega) (fun h48 => ?_) (fun h48 => ?_)
        · refine R_aload_n (q := 73) (i := 0) rfl rfl rfl rfl ?_
          refine R_getR (q := 76) rfl rfl rfl (lay0 hst) rfl (by omega) ?_
          refine R_aload_n (q := 77) (i := 1) rfl rfl rfl rfl ?_
          refine R_getR (q := 80) rfl rfl rfl (lay0 hst2) rfl (by omega) ?_
          refine R_cV1N (q := 83) (ci := 5) (C := C_X5_copyFrom) rfl rfl rfl rfl rfl ⟨_, _, rfl, ⟨tkI hst, tkI hst2, by omega, by rw [e11]; exact g1, by rw [e11]; exact g2⟩⟩ rfl (lay_tk (tkI hst)) (by omega) (fun M' hc => ?_)
          replace hc := hc _ _ rfl
          rw [e11] at hc
          generalize M' = N7 at hc ⊢
          have I7 := I6.tk rfl hne hc
          have T7 : TC_ M N7 a b (M (b + 11) 0) := fun j hj t a0 a1 => (hc.2.1 j (taB_l hj) t a0 a1).trans (congrFun (I6.2 _ (by have := taB_bd hj; omega)) t)
          clear hc
          refine R_aload_n (q := 84) (i := 0) rfl rfl rfl rfl ?_
          refine R_aload_n (q := 85) (i := 1) rfl rfl rfl rfl ?_
          refine R_getI (q := 88) (k1 := 5) rfl rfl rfl (lay0 hst2) rfl (by omega) rfl ?_
          refine R_putI (q := 91) (k1 := 5) rfl rfl rfl (lay0 hst) rfl (by omega) rfl rfl rfl rfl ?_
          refine R_aload_n (q := 92) (i := 0) rfl rfl rfl rfl ?_
          refine R_aload_n (q := 93) (i := 1) rfl rfl rfl rfl ?_
          refine R_getI (q := 96) (k1 := 6) rfl rfl rfl (lay0 hst2) rfl (by omega) rfl ?_
          refine R_putI (q := 99) (k1 := 6) rfl rfl rfl (lay0 hst) rfl (by omega) rfl rfl rfl rfl ?_
          refine R_aload_n (q := 100) (i := 0) rfl rfl rfl rfl ?_
          refine R_aload_n (q := 101) (i := 1) rfl rfl rfl rfl ?_
          refine R_getI (q := 104) (k1 := 7) rfl rfl rfl (lay0 hst2) rfl (by omega) rfl ?_
          refine R_putI (q := 107) (k1 := 7) rfl rfl rfl (lay0 hst) rfl (by omega) rfl rfl rfl rfl ?_
          refine R_aload_n (q := 108) (i := 0) rfl rfl rfl rfl ?_
          refine R_aload_n (q := 109) (i := 1) rfl rfl rfl rfl ?_
          refine R_getI (q := 112) (k1 := 8) rfl rfl rfl (lay0 hst2) rfl (by omega) rfl ?_
          refine R_putI (q := 115) (k1 := 8) rfl rfl rfl (lay0 hst) rfl (by omega) rfl rfl rfl rfl ?_
          refine R_vret rfl rfl ?_
          have I8 := (((I7.up 5 hne).up 6 hne).up 7 hne).up 8 hne
          refine ⟨fun f hf => I8.ok f ?_ hf, fun r _ hr => I8.2 r hr⟩
          rw [← hf.ca]
          intro j hj t a0 a1
          have := taB_bd hj
          rw [upM_r (by omega), upM_r (by omega), upM_r (by omega), upM_r (by omega)]
          exact T7 j hj t a0 a1
        · omega
set_option maxRecDepth 100000 in
theorem mt_X4_copyFrom : MtOK yX4_copyFrom cX4_copyFrom 3 none 1 C_X4_copyFrom := by
  refine mt_of sx_X4_copyFrom (by decide +kernel) (Or.inr (Or.inr ⟨rfl, rfl, rfl⟩)) (by decide +kernel) fdX4_ok kLX4_ok kIX4_ok sgX4_ok ntX4_ok
    (all_cons (clokV mt_X0_copyFrom rfl (GT_at 256 (by decide +kernel) (by decide +kernel)) (GT_at 13 (by decide +kernel) (by decide +kernel)) (GT_at 259 (by decide +kernel) (by decide +kernel)) (by decide +kernel) (by decide) (GT_at 257 (by decide +kernel) (by decide +kernel)) (GT_at 258 (by decide +kernel) (by decide +kernel)) rfl rfl) (all_cons (clokV mt_X5_copyFrom rfl (GT_at 261 (by decide +kernel) (by decide +kernel)) (GT_at 14 (by decide +kernel) (by decide +kernel)) (GT_at 264 (by decide +kernel) (by decide +kernel)) (by decide +kernel) (by decide) (GT_at 262 (by decide +kernel) (by decide +kernel)) (GT_at 263 (by decide +kernel) (by decide +kernel)) rfl rfl) (all_nil))) ?_ ?_
  · rintro as M - ⟨a, b, rfl, hp⟩
    exact Nat.le_of_ble_eq_true rfl
  · rintro L scr as M - ⟨a, b, rfl, hp⟩
    exact Runs.mono (fun x M' h _ _ e => by cases e; exact h) (ok_X4_copyFrom L scr a b M hp)
