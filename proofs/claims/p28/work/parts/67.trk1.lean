/-! THE LAW'S trunks: one trunk's kinds -/
theorem aI1 {i : Int} (h : 0 ≤ i ∧ i < 4) : 0 ≤ i ∧ i < ((aN 191 : Nat) : Int) := h
theorem aI2 {i : Int} (h : 0 ≤ i ∧ i < 3) : 0 ≤ i ∧ i < ((aN 192 : Nat) : Int) := h
theorem aI3 {i : Int} (h : 0 ≤ i ∧ i < 3) : 0 ≤ i ∧ i < ((aN 193 : Nat) : Int) := h
/-- the lists of the places -/
def sx_L_trunks : Sx2 := (tb_L_trunks, kLL, kIL, [(62, D_count), (65, D_trunk), (68, D_pieces), (72, D_alike), (75, D_mostDoubted), (78, D_desk)], [], 2)
set_option maxRecDepth 100000 in
set_option maxHeartbeats 4000000 in
theorem trk_kind (L : Nat) (scr : Int → Int) (Q : Int → Mem → Prop) (f : Int → Int) (M1 : Mem) (k : Int) (a1 a2 a6 a8 a9 a10 : Int) (hf : M1 12 = f) (I : Inv f) (hk : 0 ≤ k ∧ k < f 7)
    (hout : ∀ (N : Mem) (l14 l15 l16 l17 : PV), Sme M1 N → Run2 sx_L_trunks L (xcF scr) true 0 Q 0 218 [wR 3, wI a1, wI a2, wR 191, wR 192, wR 193, wI a6, wI k, wI a8, wI a9, wI a10, wI (msk f k), wI (smP f k 6), wI (fmk f k), l14, l15, l16, l17] [] N) :
    ∀ (n j : Nat) (N : Mem) (l15 l16 l17 : PV), j + n = 6 → Sme M1 N → Run2 sx_L_trunks L (xcF scr) true 0 Q 0 76 [wR 3, wI a1, wI a2, wR 191, wR 192, wR 193, wI a6, wI k, wI a8, wI a9, wI a10, wI (mP f k j), wI (smP f k j), wI (fP f k j), wI (j : Int), l15, l16, l17] [] N := by
  have i7 := I.i7
  have f4 : 0 ≤ f 4 ∧ f 4 ≤ 9 := I.1.1.2.2.2.2.1
  obtain ⟨-, c1, c2, c3⟩ := I.1.2.2.2 k hk.1 (by omega)
  have hT : hasT (M1 12) k := by rw [hf]; exact hk
  intro n
  induction n with
  | zero =>
    intro j N l15 l16 l17 hj s
    have hj : j = 6 := by omega
    subst hj
    refine T_iload (q := 78) rfl rfl rfl rfl ?_
    refine T_bipush (q := 80) rfl rfl rfl (by decide) ?_
    refine T_icmp_ge (q := 83) (tgt := 218) rfl rfl rfl (by decide) (by omega) (by omega) (fun h80 => ?_) (fun h80 => ?_)
    · have := hout N (wI ((6 : Nat) : Int)) l15 l16 l17 s
      rw [← mP_6, ← fP_6] at this
      exact this
    · omega
  | succ n ih =>
    intro j N l15 l16 l17 hj s
    have js : ((j + 1 : Nat) : Int) = (j : Int) + 1 := by omega
    have j6 : 0 ≤ (j : Int) ∧ (j : Int) < 6 := by omega
    have d1 := dig_bd (k := (j : Int)) c1.1
    have d2 := dig_bd (k := (j : Int)) c2.1
    have d3 := dig_bd (k := (j : Int)) c3.1
    have db := df_bd (f := f) (t := k) (k := (j : Int)) c1.1 c2.1
    have mb := mP_bd f k j (by omega)
    have fb := fP_bd f k j (by omega)
    have p2b : p2 (j : Int) ≤ 32 := by unfold p2; split; omega; split; omega; split; omega; split; omega; split <;> omega
    have m1 : mP f k (j + 1) = mP f k j + ds f k (j : Int) * p2 (j : Int) := rfl
    have s1 : smP f k (j + 1) = smP f k j + ds f k (j : Int) * df f k (j : Int) := rfl
    have f1 : fP f k (j + 1) = fP f k j + ms f k (j : Int) * p2 (j : Int) := rfl
    have J212 : ∀ (N : Mem) (l17 : PV) (v : Int), Sme M1 N → v = fP f k (j + 1) → Run2 sx_L_trunks L (xcF scr) true 0 Q 0 210 [wR 3, wI a1, wI a2, wR 191, wR 192, wR 193, wI a6, wI k, wI a8, wI a9, wI a10, wI (mP f k (j + 1)), wI (smP f k (j + 1)), wI (fP f k j), wI (j : Int), wI (dig (f (87 + 9 * k)) (j : Int)), wI (dig (f (88 + 9 * k)) (j : Int)), l17] [wI v] N := by
      intro N l17 v s hv
      subst hv
      refine T_istore (q := 212) rfl rfl rfl rfl ?_
      refine T_iinc (q := 215) rfl rfl rfl rfl rfl ?_
      refine T_goto (q := 218) (tgt := 76) rfl rfl rfl (by decide) ?_
      have := ih (j + 1) N (wI (dig (f (87 + 9 * k)) (j : Int))) (wI (dig (f (88 + 9 * k)) (j : Int))) l17 (by omega) s
      rw [js] at this
      exact this
    have J171 : ∀ (N : Mem) (l17 : PV) (v : Int), Sme M1 N → v = smP f k (j + 1) → Run2 sx_L_trunks L (xcF scr) true 0 Q 0 169 [wR 3, wI a1, wI a2, wR 191, wR 192, wR 193, wI a6, wI k, wI a8, wI a9, wI a10, wI (mP f k (j + 1)), wI (smP f k j), wI (fP f k j), wI (j : Int), wI (dig (f (87 + 9 * k)) (j : Int)), wI (dig (f (88 + 9 * k)) (j : Int)), l17] [wI v] N := by
      intro N l17 v s hv
      subst hv
      refine T_istore (q := 171) rfl rfl rfl rfl ?_
      refine T_iload (q := 173) rfl rfl rfl rfl ?_
      refine T_aload_n (q := 174) (i := 0) rfl rfl rfl rfl rfl ?_
      refine T_iload (q := 176) rfl rfl rfl rfl ?_
      refine T_iconst (q := 177) rfl rfl rfl ?_
      refine T_iload (q := 179) rfl rfl rfl rfl ?_
      refine O_pieces (q := 182) s rfl rfl rfl rfl ⟨hT, by omega, by omega⟩ (by rewrite [hf]; exact pcV_2 _ _ _) rfl (fun M' s => ?_)
      refine T_iload (q := 184) rfl rfl rfl rfl ?_
      refine T_icmp_le (q := 187) (tgt := 208) rfl rfl rfl (by decide) (by omega) (by omega) (fun h184 => ?_) (fun h184 => ?_)
      · refine T_iconst (q := 209) rfl rfl rfl ?_
        refine T_ior (q := 210) rfl rfl rfl ?_
        first
          | exact J212 _ _ _ s (by rw [xior_0 (by omega), f1]; unfold ms; rw [bt_f (fun z => by have z1 := z.1; have z2 := z.2; omega)]; omega)
          | exact J212 _ _ _ s (by rw [ior_shl j6 fb (by omega), f1]; unfold ms; rw [bt_t ⟨by omega, by omega⟩])
      · refine T_aload_n (q := 188) (i := 0) rfl rfl rfl rfl rfl ?_
        refine T_iload (q := 190) rfl rfl rfl rfl ?_
        refine T_iconst (q := 191) rfl rfl rfl ?_
        refine T_iload (q := 193) rfl rfl rfl rfl ?_
        refine O_pieces (q := 196) s rfl rfl rfl rfl ⟨hT, by omega, by omega⟩ (by rewrite [hf]; exact pcV_2 _ _ _) rfl (fun M' s => ?_)
        refine T_iload (q := 198) rfl rfl rfl rfl ?_
        refine T_icmp_le (q := 201) (tgt := 208) rfl rfl rfl (by decide) (by omega) (by omega) (fun h198 => ?_) (fun h198 => ?_)
        · refine T_iconst (q := 209) rfl rfl rfl ?_
          refine T_ior (q := 210) rfl rfl rfl ?_
          first
            | exact J212 _ _ _ s (by rw [xior_0 (by omega), f1]; unfold ms; rw [bt_f (fun z => by have z1 := z.1; have z2 := z.2; omega)]; omega)
            | exact J212 _ _ _ s (by rw [ior_shl j6 fb (by omega), f1]; unfold ms; rw [bt_t ⟨by omega, by omega⟩])
        · refine T_iconst (q := 202) rfl rfl rfl ?_
          refine T_iload (q := 204) rfl rfl rfl rfl ?_
          refine T_ishl (q := 205) rfl rfl rfl ?_
          refine T_goto (q := 208) (tgt := 209) rfl rfl rfl (by decide) ?_
          refine T_ior (q := 210) rfl rfl rfl ?_
          first
            | exact J212 _ _ _ s (by rw [xior_0 (by omega), f1]; unfold ms; rw [bt_f (fun z => by have z1 := z.1; have z2 := z.2; omega)]; omega)
            | exact J212 _ _ _ s (by rw [ior_shl j6 fb (by omega), f1]; unfold ms; rw [bt_t ⟨by omega, by omega⟩])
    have J150 : ∀ (N : Mem) (v : Int), Sme M1 N → v = mP f k (j + 1) → Run2 sx_L_trunks L (xcF scr) true 0 Q 0 148 [wR 3, wI a1, wI a2, wR 191, wR 192, wR 193, wI a6, wI k, wI a8, wI a9, wI a10, wI (mP f k j), wI (smP f k j), wI (fP f k j), wI (j : Int), wI (dig (f (87 + 9 * k)) (j : Int)), wI (dig (f (88 + 9 * k)) (j : Int)), wI (df f k (j : Int))] [wI v] N := by
      intro N v s hv
      subst hv
      refine T_istore (q := 150) rfl rfl rfl rfl ?_
      refine T_iload (q := 152) rfl rfl rfl rfl ?_
      refine T_iload (q := 154) rfl rfl rfl rfl ?_
      refine T_aload_n (q := 155) (i := 0) rfl rfl rfl rfl rfl ?_
      refine T_iconst (q := 156) rfl rfl rfl ?_
      refine O_count (q := 159) s rfl rfl rfl rfl (by decide) (by rewrite [hf]; exact cnV_4 _ _) rfl (fun M' s => ?_)
      refine T_icmp_le (q := 162) (tgt := 167) rfl rfl rfl (by decide) (by omega) (by omega) (fun h159 => ?_) (fun h159 => ?_)
      · refine T_iconst (q := 168) rfl rfl rfl ?_
        refine T_iadd (q := 169) rfl rfl rfl ?_
        first
          | exact J171 _ _ _ s (by rw [s1]; unfold ds; rw [bt_f (by omega)]; omega)
          | exact J171 _ _ _ s (by rw [s1]; unfold ds; rw [bt_t (by omega)]; omega)
      · refine T_iload (q := 164) rfl rfl rfl rfl ?_
        refine T_goto (q := 167) (tgt := 168) rfl rfl rfl (by decide) ?_
        refine T_iadd (q := 169) rfl rfl rfl ?_
        first
          | exact J171 _ _ _ s (by rw [s1]; unfold ds; rw [bt_f (by omega)]; omega)
          | exact J171 _ _ _ s (by rw [s1]; unfold ds; rw [bt_t (by omega)]; omega)
    have J125 : ∀ (N : Mem) (v : Int), Sme M1 N → v = df f k (j : Int) → Run2 sx_L_trunks L (xcF scr) true 0 Q 0 125 [wR 3, wI a1, wI a2, wR 191, wR 192, wR 193, wI a6, wI k, wI a8, wI a9, wI a10, wI (mP f k j), wI (smP f k j), wI (fP f k j), wI (j : Int), wI (dig (f (87 + 9 * k)) (j : Int)), wI (dig (f (88 + 9 * k)) (j : Int)), l17] [wI v] N := by
      intro N v s hv
      subst hv
      refine T_istore (q := 127) rfl rfl rfl rfl ?_
      refine T_iload (q := 129) rfl rfl rfl rfl ?_
      refine T_iload (q := 131) rfl rfl rfl rfl ?_
      refine T_aload_n (q := 132) (i := 0) rfl rfl rfl rfl rfl ?_
      refine T_iconst (q := 133) rfl rfl rfl ?_
      refine O_count (q := 136) s rfl rfl rfl rfl (by decide) (by rewrite [hf]; exact cnV_4 _ _) rfl (fun M' s => ?_)
      refine T_icmp_le (q := 139) (tgt := 146) rfl rfl rfl (by decide) (by omega) (by omega) (fun h136 => ?_) (fun h136 => ?_)
      · refine T_iconst (q := 147) rfl rfl rfl ?_
        refine T_ior (q := 148) rfl rfl rfl ?_
        first
          | exact J150 _ _ s (by rw [xior_0 (by omega), m1]; unfold ds; rw [bt_f (by omega)]; omega)
          | exact J150 _ _ s (by rw [ior_shl j6 mb (by omega), m1]; unfold ds; rw [bt_t (by omega)])
      · refine T_iconst (q := 140) rfl rfl rfl ?_
        refine T_iload (q := 142) rfl rfl rfl rfl ?_
        refine T_ishl (q := 143) rfl rfl rfl ?_
        refine T_goto (q := 146) (tgt := 147) rfl rfl rfl (by decide) ?_
        refine T_ior (q := 148) rfl rfl rfl ?_
        first
          | exact J150 _ _ s (by rw [xior_0 (by omega), m1]; unfold ds; rw [bt_f (by omega)]; omega)
          | exact J150 _ _ s (by rw [ior_shl j6 mb (by omega), m1]; unfold ds; rw [bt_t (by omega)])
    refine T_iload (q := 78) rfl rfl rfl rfl ?_
    refine T_bipush (q := 80) rfl rfl rfl (by decide) ?_
    refine T_icmp_ge (q := 83) (tgt := 218) rfl rfl rfl (by decide) (by omega) (by omega) (fun h80 => ?_) (fun h80 => ?_)
    · omega
    · refine T_aload_n (q := 84) (i := 0) rfl rfl rfl rfl rfl ?_
      refine T_iload (q := 86) rfl rfl rfl rfl ?_
      refine T_iconst (q := 87) rfl rfl rfl ?_
      refine T_iload (q := 89) rfl rfl rfl rfl ?_
      refine O_pieces (q := 92) s rfl rfl rfl rfl ⟨hT, by omega, by omega⟩ (by rewrite [hf]; exact pcV_0 _ _ _) rfl (fun M' s => ?_)
      refine T_istore (q := 94) rfl rfl rfl rfl ?_
      refine T_aload_n (q := 95) (i := 0) rfl rfl rfl rfl rfl ?_
      refine T_iload (q := 97) rfl rfl rfl rfl ?_
      refine T_iconst (q := 98) rfl rfl rfl ?_
      refine T_iload (q := 100) rfl rfl rfl rfl ?_
      refine O_pieces (q := 103) s rfl rfl rfl rfl ⟨hT, by omega, by omega⟩ (by rewrite [hf]; exact pcV_1 _ _ _) rfl (fun M' s => ?_)
      refine T_istore (q := 105) rfl rfl rfl rfl ?_
      refine T_iload (q := 107) rfl rfl rfl rfl ?_
      refine T_iload (q := 109) rfl rfl rfl rfl ?_
      refine T_icmp_le (q := 112) (tgt := 120) rfl rfl rfl (by decide) (by omega) (by omega) (fun h109 => ?_) (fun h109 => ?_)
      · refine T_iload (q := 122) rfl rfl rfl rfl ?_
        refine T_iload (q := 124) rfl rfl rfl rfl ?_
        refine T_isub (q := 125) rfl rfl rfl ?_
        exact J125 _ _ s (by unfold df iab; split <;> omega)
      · refine T_iload (q := 114) rfl rfl rfl rfl ?_
        refine T_iload (q := 116) rfl rfl rfl rfl ?_
        refine T_isub (q := 117) rfl rfl rfl ?_
        refine T_goto (q := 120) (tgt := 125) rfl rfl rfl (by decide) ?_
        exact J125 _ _ s (by unfold df iab; split <;> omega)
