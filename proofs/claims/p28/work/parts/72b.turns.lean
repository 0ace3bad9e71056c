set_option maxRecDepth 100000 in
set_option maxHeartbeats 4000000 in
theorem turns_b (L : Nat) (scr : Int → Int) (n t U F a3 a4 a5 a8 a9 a10 : Int) (l14 : PV) (f G : Int → Int) (N : Mem) (gN : GI N) (hN : N 12 = G) (hl : 1 ≤ N 11 1 ∧ hs N (N 11 1) = f) (hn : 1 ≤ n ∧ n ≤ 12) (ht : 0 ≤ t ∧ t < G 7) (g7 : G 7 ≤ 64) (st : 0 ≤ G (90 + 9 * t) ∧ G (90 + 9 * t) ≤ 3)
    (C : (G (90 + 9 * t) ≠ 0 ∧ (0 ≤ U ∧ U ≤ n) ∧ F = G (90 + 9 * t)) ∨ (G (90 + 9 * t) = 0 ∧ U = -6) ∨ (G (90 + 9 * t) = 0 ∧ (n < U ∧ U < 201) ∧ Hd (unt t 201 0 G = U - n) ∧ Hd (ftV t G = F))) :
    Run2 sx_L_turns L (xcF scr) false 1 (fun x M' => x = 1 ∧ GI M' ∧ M' 12 = f) 1 134 [wR 3, wI n, wI t, wI a3, wI a4, wI a5, wI U, wI F, wI a8, wI a9, wI a10, wL (prV f), none, wI 1, l14] [] N := by
  have s := Sme.rf gN
  have hs5 := gN.2.2.1
  have J267 : ∀ (N' : Mem) (l14 : PV), Sme N N' → Run2 sx_L_turns L (xcF scr) false 1 (fun x M' => x = 1 ∧ GI M' ∧ M' 12 = f) 1 267 [wR 3, wI n, wI t, wI a3, wI a4, wI a5, wI U, wI F, wI a8, wI a9, wI a10, wL (prV f), none, wI 1, l14] [] N' := by
    intro N' l14 s
    clear C
    refine T_iload (q := 269) rfl rfl rfl rfl ?_
    refine T_if_eq (q := 272) (tgt := 293) rfl rfl rfl (by decide) (by omega) (fun h269 => ?_) (fun h269 => ?_)
    · omega
    · refine T_aload_n (q := 273) (i := 0) rfl rfl rfl rfl rfl ?_
      refine T_C0 (q := 276) (C := D_undo) rfl rfl rfl rfl rfl ⟨rfl, ⟨s.1, by rw [s.e11]; omega⟩⟩ rfl (fun x M' hc => ?_)
      replace hc := hc rfl
      obtain ⟨e, un⟩ := hc
      rw [s.e11] at e
      have hP := un.e12 s hl.2
      replace s := Sme.rf un.1
      refine T_if_lt (q := 279) (tgt := 293) rfl rfl rfl (by decide) (by omega) (fun h276 => ?_) (fun h276 => ?_)
      · omega
      · refine T_aload_n (q := 280) (i := 0) rfl rfl rfl rfl rfl ?_
        refine T_L1L (q := 283) (b2 := 1) (C := C_L_print) rfl rfl rfl rfl rfl rfl ⟨_, rfl, ⟨rfl, s.1⟩⟩ rfl rfl rfl rfl (fun x M' hc => ?_)
        replace hc := hc _ rfl
        obtain ⟨e2, sm⟩ := hc
        rw [s.e12, hP] at e2
        subst e2
        replace s := s.tr sm
        refine T_lload (q := 285) rfl rfl rfl rfl ?_
        refine T_lcmpS (q := 286) rfl rfl rfl ?_
        refine T_if_ne (q := 289) (tgt := 293) rfl rfl rfl (by decide) (by omega) (fun h286 => ?_) (fun h286 => ?_)
        · omega
        · refine T_iconst (q := 290) rfl rfl rfl ?_
          refine T_goto (q := 293) (tgt := 294) rfl rfl rfl (by decide) ?_
          refine T_ret rfl rfl (Or.inr ⟨rfl, (by first | exact Or.inl rfl | exact Or.inr rfl | omega)⟩) ?_
          exact ⟨rfl, s.1, by rw [s.e12, hP]⟩
  have hT : hasT (N 12) t := by rw [hN]; exact ht
  rcases C with ⟨C0, C1, C2⟩ | ⟨C0, C1⟩ | ⟨C0, C1, C3, C4⟩
  · refine T_iload_n (q := 135) (i := 2) rfl rfl rfl rfl rfl ?_
    refine T_aload_n (q := 136) (i := 0) rfl rfl rfl rfl rfl ?_
    refine T_bipush (q := 138) rfl rfl rfl (by decide) ?_
    refine O_count (q := 141) s rfl rfl rfl rfl (by decide) (by rewrite [hN]; exact cnV_7 _ _) rfl (fun M' s => ?_)
    refine T_icmp_ge (q := 144) (tgt := 242) rfl rfl rfl (by decide) (by omega) (by omega) (fun h141 => ?_) (fun h141 => ?_)
    · omega
    · refine T_aload_n (q := 145) (i := 0) rfl rfl rfl rfl rfl ?_
      refine T_iload_n (q := 146) (i := 2) rfl rfl rfl rfl rfl ?_
      refine T_bipush (q := 148) rfl rfl rfl (by decide) ?_
      refine O_trunk (q := 151) s rfl rfl rfl rfl ⟨hT, by omega, by omega⟩ (by rewrite [hN]; exact trV_7 _ _) rfl (fun M' s => ?_)
      refine T_if_le (q := 154) (tgt := 158) rfl rfl rfl (by decide) (by omega) (fun h151 => ?_) (fun h151 => ?_)
      · refine T_iconst (q := 159) rfl rfl rfl ?_
        refine T_istore (q := 161) rfl rfl rfl rfl ?_
        refine T_iload (q := 163) rfl rfl rfl rfl ?_
        refine T_if_eq (q := 166) (tgt := 236) rfl rfl rfl (by decide) (by omega) (fun h163 => ?_) (fun h163 => ?_)
        · omega
        · refine T_iload (q := 168) rfl rfl rfl rfl ?_
          refine T_iload (q := 170) rfl rfl rfl rfl ?_
          refine T_if_lt (q := 173) (tgt := 183) rfl rfl rfl (by decide) (by omega) (fun h170 => ?_) (fun h170 => ?_)
          · refine T_iconst (q := 184) rfl rfl rfl ?_
            refine T_icmp_ne (q := 187) (tgt := 236) rfl rfl rfl (by decide) (by omega) (by omega) (fun h184 => ?_) (fun h184 => ?_)
            · omega
            · refine T_iload (q := 189) rfl rfl rfl rfl ?_
              refine T_if_eq (q := 192) (tgt := 204) rfl rfl rfl (by decide) (by omega) (fun h189 => ?_) (fun h189 => ?_)
              · refine T_iload (q := 206) rfl rfl rfl rfl ?_
                refine T_iload_n (q := 207) (i := 1) rfl rfl rfl rfl rfl ?_
                refine T_icmp_le (q := 210) (tgt := 232) rfl rfl rfl (by decide) (by omega) (by omega) (fun h207 => ?_) (fun h207 => ?_)
                · refine T_iconst (q := 233) rfl rfl rfl ?_
                  refine T_goto (q := 236) (tgt := 237) rfl rfl rfl (by decide) ?_
                  refine T_istore (q := 239) rfl rfl rfl rfl ?_
                  refine T_goto (q := 242) (tgt := 267) rfl rfl rfl (by decide) ?_
                  exact J267 _ _ s
                · omega
              · omega
          · refine T_iload (q := 175) rfl rfl rfl rfl ?_
            refine T_iload_n (q := 176) (i := 1) rfl rfl rfl rfl rfl ?_
            refine T_icmp_gt (q := 179) (tgt := 183) rfl rfl rfl (by decide) (by omega) (by omega) (fun h176 => ?_) (fun h176 => ?_)
            · refine T_iconst (q := 184) rfl rfl rfl ?_
              refine T_icmp_ne (q := 187) (tgt := 236) rfl rfl rfl (by decide) (by omega) (by omega) (fun h184 => ?_) (fun h184 => ?_)
              · omega
              · refine T_iload (q := 189) rfl rfl rfl rfl ?_
                refine T_if_eq (q := 192) (tgt := 204) rfl rfl rfl (by decide) (by omega) (fun h189 => ?_) (fun h189 => ?_)
                · refine T_iload (q := 206) rfl rfl rfl rfl ?_
                  refine T_iload_n (q := 207) (i := 1) rfl rfl rfl rfl rfl ?_
                  refine T_icmp_le (q := 210) (tgt := 232) rfl rfl rfl (by decide) (by omega) (by omega) (fun h207 => ?_) (fun h207 => ?_)
                  · refine T_iconst (q := 233) rfl rfl rfl ?_
                    refine T_goto (q := 236) (tgt := 237) rfl rfl rfl (by decide) ?_
                    refine T_istore (q := 239) rfl rfl rfl rfl ?_
                    refine T_goto (q := 242) (tgt := 267) rfl rfl rfl (by decide) ?_
                    exact J267 _ _ s
                  · omega
                · omega
            · refine T_iconst (q := 180) rfl rfl rfl ?_
              refine T_goto (q := 183) (tgt := 184) rfl rfl rfl (by decide) ?_
              refine T_icmp_ne (q := 187) (tgt := 236) rfl rfl rfl (by decide) (by omega) (by omega) (fun h184 => ?_) (fun h184 => ?_)
              · exfalso; omega
              · omega
      · refine T_iconst (q := 155) rfl rfl rfl ?_
        refine T_goto (q := 158) (tgt := 159) rfl rfl rfl (by decide) ?_
        refine T_istore (q := 161) rfl rfl rfl rfl ?_
        refine T_iload (q := 163) rfl rfl rfl rfl ?_
        refine T_if_eq (q := 166) (tgt := 236) rfl rfl rfl (by decide) (by omega) (fun h163 => ?_) (fun h163 => ?_)
        · omega
        · refine T_iload (q := 168) rfl rfl rfl rfl ?_
          refine T_iload (q := 170) rfl rfl rfl rfl ?_
          refine T_if_lt (q := 173) (tgt := 183) rfl rfl rfl (by decide) (by omega) (fun h170 => ?_) (fun h170 => ?_)
          · refine T_iconst (q := 184) rfl rfl rfl ?_
            refine T_icmp_ne (q := 187) (tgt := 236) rfl rfl rfl (by decide) (by omega) (by omega) (fun h184 => ?_) (fun h184 => ?_)
            · exfalso; omega
            · omega
          · refine T_iload (q := 175) rfl rfl rfl rfl ?_
            refine T_iload_n (q := 176) (i := 1) rfl rfl rfl rfl rfl ?_
            refine T_icmp_gt (q := 179) (tgt := 183) rfl rfl rfl (by decide) (by omega) (by omega) (fun h176 => ?_) (fun h176 => ?_)
            · refine T_iconst (q := 184) rfl rfl rfl ?_
              refine T_icmp_ne (q := 187) (tgt := 236) rfl rfl rfl (by decide) (by omega) (by omega) (fun h184 => ?_) (fun h184 => ?_)
              · exfalso; omega
              · omega
            · refine T_iconst (q := 180) rfl rfl rfl ?_
              refine T_goto (q := 183) (tgt := 184) rfl rfl rfl (by decide) ?_
              refine T_icmp_ne (q := 187) (tgt := 236) rfl rfl rfl (by decide) (by omega) (by omega) (fun h184 => ?_) (fun h184 => ?_)
              · omega
              · refine T_iload (q := 189) rfl rfl rfl rfl ?_
                refine T_if_eq (q := 192) (tgt := 204) rfl rfl rfl (by decide) (by omega) (fun h189 => ?_) (fun h189 => ?_)
                · omega
                · refine T_aload_n (q := 193) (i := 0) rfl rfl rfl rfl rfl ?_
                  refine T_iload_n (q := 194) (i := 2) rfl rfl rfl rfl rfl ?_
                  refine T_bipush (q := 196) rfl rfl rfl (by decide) ?_
                  refine O_trunk (q := 199) s rfl rfl rfl rfl ⟨hT, by omega, by omega⟩ (by rewrite [hN]; exact trV_7 _ _) rfl (fun M' s => ?_)
                  refine T_iload (q := 201) rfl rfl rfl rfl ?_
                  refine T_icmp_ne (q := 204) (tgt := 236) rfl rfl rfl (by decide) (by omega) (by omega) (fun h201 => ?_) (fun h201 => ?_)
                  · exfalso; omega
                  · refine T_iload (q := 206) rfl rfl rfl rfl ?_
                    refine T_iload_n (q := 207) (i := 1) rfl rfl rfl rfl rfl ?_
                    refine T_icmp_le (q := 210) (tgt := 232) rfl rfl rfl (by decide) (by omega) (by omega) (fun h207 => ?_) (fun h207 => ?_)
                    · refine T_iconst (q := 233) rfl rfl rfl ?_
                      refine T_goto (q := 236) (tgt := 237) rfl rfl rfl (by decide) ?_
                      refine T_istore (q := 239) rfl rfl rfl rfl ?_
                      refine T_goto (q := 242) (tgt := 267) rfl rfl rfl (by decide) ?_
                      exact J267 _ _ s
                    · omega
  · refine T_iload_n (q := 135) (i := 2) rfl rfl rfl rfl rfl ?_
    refine T_aload_n (q := 136) (i := 0) rfl rfl rfl rfl rfl ?_
    refine T_bipush (q := 138) rfl rfl rfl (by decide) ?_
    refine O_count (q := 141) s rfl rfl rfl rfl (by decide) (by rewrite [hN]; exact cnV_7 _ _) rfl (fun M' s => ?_)
    refine T_icmp_ge (q := 144) (tgt := 242) rfl rfl rfl (by decide) (by omega) (by omega) (fun h141 => ?_) (fun h141 => ?_)
    · omega
    · refine T_aload_n (q := 145) (i := 0) rfl rfl rfl rfl rfl ?_
      refine T_iload_n (q := 146) (i := 2) rfl rfl rfl rfl rfl ?_
      refine T_bipush (q := 148) rfl rfl rfl (by decide) ?_
      refine O_trunk (q := 151) s rfl rfl rfl rfl ⟨hT, by omega, by omega⟩ (by rewrite [hN]; exact trV_7 _ _) rfl (fun M' s => ?_)
      refine T_if_le (q := 154) (tgt := 158) rfl rfl rfl (by decide) (by omega) (fun h151 => ?_) (fun h151 => ?_)
      · refine T_iconst (q := 159) rfl rfl rfl ?_
        refine T_istore (q := 161) rfl rfl rfl rfl ?_
        refine T_iload (q := 163) rfl rfl rfl rfl ?_
        refine T_if_eq (q := 166) (tgt := 236) rfl rfl rfl (by decide) (by omega) (fun h163 => ?_) (fun h163 => ?_)
        · omega
        · refine T_iload (q := 168) rfl rfl rfl rfl ?_
          refine T_iload (q := 170) rfl rfl rfl rfl ?_
          refine T_if_lt (q := 173) (tgt := 183) rfl rfl rfl (by decide) (by omega) (fun h170 => ?_) (fun h170 => ?_)
          · refine T_iconst (q := 184) rfl rfl rfl ?_
            refine T_icmp_ne (q := 187) (tgt := 236) rfl rfl rfl (by decide) (by omega) (by omega) (fun h184 => ?_) (fun h184 => ?_)
            · omega
            · refine T_iload (q := 189) rfl rfl rfl rfl ?_
              refine T_if_eq (q := 192) (tgt := 204) rfl rfl rfl (by decide) (by omega) (fun h189 => ?_) (fun h189 => ?_)
              · refine T_iload (q := 206) rfl rfl rfl rfl ?_
                refine T_iload_n (q := 207) (i := 1) rfl rfl rfl rfl rfl ?_
                refine T_icmp_le (q := 210) (tgt := 232) rfl rfl rfl (by decide) (by omega) (by omega) (fun h207 => ?_) (fun h207 => ?_)
                · refine T_iconst (q := 233) rfl rfl rfl ?_
                  refine T_goto (q := 236) (tgt := 237) rfl rfl rfl (by decide) ?_
                  refine T_istore (q := 239) rfl rfl rfl rfl ?_
                  refine T_goto (q := 242) (tgt := 267) rfl rfl rfl (by decide) ?_
                  exact J267 _ _ s
                · omega
              · omega
          · refine T_iload (q := 175) rfl rfl rfl rfl ?_
            refine T_iload_n (q := 176) (i := 1) rfl rfl rfl rfl rfl ?_
            refine T_icmp_gt (q := 179) (tgt := 183) rfl rfl rfl (by decide) (by omega) (by omega) (fun h176 => ?_) (fun h176 => ?_)
            · refine T_iconst (q := 184) rfl rfl rfl ?_
              refine T_icmp_ne (q := 187) (tgt := 236) rfl rfl rfl (by decide) (by omega) (by omega) (fun h184 => ?_) (fun h184 => ?_)
              · omega
              · refine T_iload (q := 189) rfl rfl rfl rfl ?_
                refine T_if_eq (q := 192) (tgt := 204) rfl rfl rfl (by decide) (by omega) (fun h189 => ?_) (fun h189 => ?_)
                · refine T_iload (q := 206) rfl rfl rfl rfl ?_
                  refine T_iload_n (q := 207) (i := 1) rfl rfl rfl rfl rfl ?_
                  refine T_icmp_le (q := 210) (tgt := 232) rfl rfl rfl (by decide) (by omega) (by omega) (fun h207 => ?_) (fun h207 => ?_)
                  · refine T_iconst (q := 233) rfl rfl rfl ?_
                    refine T_goto (q := 236) (tgt := 237) rfl rfl rfl (by decide) ?_
                    refine T_istore (q := 239) rfl rfl rfl rfl ?_
                    refine T_goto (q := 242) (tgt := 267) rfl rfl rfl (by decide) ?_
                    exact J267 _ _ s
                  · omega
                · omega
            · refine T_iconst (q := 180) rfl rfl rfl ?_
              refine T_goto (q := 183) (tgt := 184) rfl rfl rfl (by decide) ?_
              refine T_icmp_ne (q := 187) (tgt := 236) rfl rfl rfl (by decide) (by omega) (by omega) (fun h184 => ?_) (fun h184 => ?_)
              · exfalso; omega
              · omega
      · refine T_iconst (q := 155) rfl rfl rfl ?_
        refine T_goto (q := 158) (tgt := 159) rfl rfl rfl (by decide) ?_
        refine T_istore (q := 161) rfl rfl rfl rfl ?_
        refine T_iload (q := 163) rfl rfl rfl rfl ?_
        refine T_if_eq (q := 166) (tgt := 236) rfl rfl rfl (by decide) (by omega) (fun h163 => ?_) (fun h163 => ?_)
        · omega
        · refine T_iload (q := 168) rfl rfl rfl rfl ?_
          refine T_iload (q := 170) rfl rfl rfl rfl ?_
          refine T_if_lt (q := 173) (tgt := 183) rfl rfl rfl (by decide) (by omega) (fun h170 => ?_) (fun h170 => ?_)
          · refine T_iconst (q := 184) rfl rfl rfl ?_
            refine T_icmp_ne (q := 187) (tgt := 236) rfl rfl rfl (by decide) (by omega) (by omega) (fun h184 => ?_) (fun h184 => ?_)
            · exfalso; omega
            · omega
          · refine T_iload (q := 175) rfl rfl rfl rfl ?_
            refine T_iload_n (q := 176) (i := 1) rfl rfl rfl rfl rfl ?_
            refine T_icmp_gt (q := 179) (tgt := 183) rfl rfl rfl (by decide) (by omega) (by omega) (fun h176 => ?_) (fun h176 => ?_)
            · refine T_iconst (q := 184) rfl rfl rfl ?_
              refine T_icmp_ne (q := 187) (tgt := 236) rfl rfl rfl (by decide) (by omega) (by omega) (fun h184 => ?_) (fun h184 => ?_)
              · exfalso; omega
              · omega
            · refine T_iconst (q := 180) rfl rfl rfl ?_
              refine T_goto (q := 183) (tgt := 184) rfl rfl rfl (by decide) ?_
              refine T_icmp_ne (q := 187) (tgt := 236) rfl rfl rfl (by decide) (by omega) (by omega) (fun h184 => ?_) (fun h184 => ?_)
              · omega
              · refine T_iload (q := 189) rfl rfl rfl rfl ?_
                refine T_if_eq (q := 192) (tgt := 204) rfl rfl rfl (by decide) (by omega) (fun h189 => ?_) (fun h189 => ?_)
                · omega
                · refine T_aload_n (q := 193) (i := 0) rfl rfl rfl rfl rfl ?_
                  refine T_iload_n (q := 194) (i := 2) rfl rfl rfl rfl rfl ?_
                  refine T_bipush (q := 196) rfl rfl rfl (by decide) ?_
                  refine O_trunk (q := 199) s rfl rfl rfl rfl ⟨hT, by omega, by omega⟩ (by rewrite [hN]; exact trV_7 _ _) rfl (fun M' s => ?_)
                  refine T_iload (q := 201) rfl rfl rfl rfl ?_
                  refine T_icmp_ne (q := 204) (tgt := 236) rfl rfl rfl (by decide) (by omega) (by omega) (fun h201 => ?_) (fun h201 => ?_)
                  · exfalso; omega
                  · refine T_iload (q := 206) rfl rfl rfl rfl ?_
                    refine T_iload_n (q := 207) (i := 1) rfl rfl rfl rfl rfl ?_
                    refine T_icmp_le (q := 210) (tgt := 232) rfl rfl rfl (by decide) (by omega) (by omega) (fun h207 => ?_) (fun h207 => ?_)
                    · refine T_iconst (q := 233) rfl rfl rfl ?_
                      refine T_goto (q := 236) (tgt := 237) rfl rfl rfl (by decide) ?_
                      refine T_istore (q := 239) rfl rfl rfl rfl ?_
                      refine T_goto (q := 242) (tgt := 267) rfl rfl rfl (by decide) ?_
                      exact J267 _ _ s
                    · omega
  · refine T_iload_n (q := 135) (i := 2) rfl rfl rfl rfl rfl ?_
    refine T_aload_n (q := 136) (i := 0) rfl rfl rfl rfl rfl ?_
    refine T_bipush (q := 138) rfl rfl rfl (by decide) ?_
    refine O_count (q := 141) s rfl rfl rfl rfl (by decide) (by rewrite [hN]; exact cnV_7 _ _) rfl (fun M' s => ?_)
    refine T_icmp_ge (q := 144) (tgt := 242) rfl rfl rfl (by decide) (by omega) (by omega) (fun h141 => ?_) (fun h141 => ?_)
    · omega
    · refine T_aload_n (q := 145) (i := 0) rfl rfl rfl rfl rfl ?_
      refine T_iload_n (q := 146) (i := 2) rfl rfl rfl rfl rfl ?_
      refine T_bipush (q := 148) rfl rfl rfl (by decide) ?_
      refine O_trunk (q := 151) s rfl rfl rfl rfl ⟨hT, by omega, by omega⟩ (by rewrite [hN]; exact trV_7 _ _) rfl (fun M' s => ?_)
      refine T_if_le (q := 154) (tgt := 158) rfl rfl rfl (by decide) (by omega) (fun h151 => ?_) (fun h151 => ?_)
      · refine T_iconst (q := 159) rfl rfl rfl ?_
        refine T_istore (q := 161) rfl rfl rfl rfl ?_
        refine T_iload (q := 163) rfl rfl rfl rfl ?_
        refine T_if_eq (q := 166) (tgt := 236) rfl rfl rfl (by decide) (by omega) (fun h163 => ?_) (fun h163 => ?_)
        · omega
        · refine T_iload (q := 168) rfl rfl rfl rfl ?_
          refine T_iload (q := 170) rfl rfl rfl rfl ?_
          refine T_if_lt (q := 173) (tgt := 183) rfl rfl rfl (by decide) (by omega) (fun h170 => ?_) (fun h170 => ?_)
          · refine T_iconst (q := 184) rfl rfl rfl ?_
            refine T_icmp_ne (q := 187) (tgt := 236) rfl rfl rfl (by decide) (by omega) (by omega) (fun h184 => ?_) (fun h184 => ?_)
            · omega
            · refine T_iload (q := 189) rfl rfl rfl rfl ?_
              refine T_if_eq (q := 192) (tgt := 204) rfl rfl rfl (by decide) (by omega) (fun h189 => ?_) (fun h189 => ?_)
              · refine T_iload (q := 206) rfl rfl rfl rfl ?_
                refine T_iload_n (q := 207) (i := 1) rfl rfl rfl rfl rfl ?_
                refine T_icmp_le (q := 210) (tgt := 232) rfl rfl rfl (by decide) (by omega) (by omega) (fun h207 => ?_) (fun h207 => ?_)
                · refine T_iconst (q := 233) rfl rfl rfl ?_
                  refine T_goto (q := 236) (tgt := 237) rfl rfl rfl (by decide) ?_
                  refine T_istore (q := 239) rfl rfl rfl rfl ?_
                  refine T_goto (q := 242) (tgt := 267) rfl rfl rfl (by decide) ?_
                  exact J267 _ _ s
                · refine T_aload_n (q := 211) (i := 0) rfl rfl rfl rfl rfl ?_
                  refine T_iload_n (q := 212) (i := 2) rfl rfl rfl rfl rfl ?_
                  refine O_untilGone (q := 215) s rfl rfl rfl rfl ⟨hT, by omega⟩ (by rewrite [hN]; exact C3) rfl (fun M' s => ?_)
                  refine T_iload (q := 217) rfl rfl rfl rfl ?_
                  refine T_iload_n (q := 218) (i := 1) rfl rfl rfl rfl rfl ?_
                  refine T_isub (q := 219) rfl rfl rfl ?_
                  refine T_neS (q := 222) (tgt := 236) rfl rfl rfl (by decide) ?_
                  refine T_aload_n (q := 223) (i := 0) rfl rfl rfl rfl rfl ?_
                  refine T_iload_n (q := 224) (i := 2) rfl rfl rfl rfl rfl ?_
                  refine O_fate (q := 227) s rfl rfl rfl rfl ⟨hT, by omega⟩ (by rewrite [hN]; exact C4) rfl (fun M' s => ?_)
                  refine T_iload (q := 229) rfl rfl rfl rfl ?_
                  refine T_neS (q := 232) (tgt := 236) rfl rfl rfl (by decide) ?_
                  refine T_iconst (q := 233) rfl rfl rfl ?_
                  refine T_goto (q := 236) (tgt := 237) rfl rfl rfl (by decide) ?_
                  refine T_istore (q := 239) rfl rfl rfl rfl ?_
                  refine T_goto (q := 242) (tgt := 267) rfl rfl rfl (by decide) ?_
                  exact J267 _ _ s
              · omega
          · refine T_iload (q := 175) rfl rfl rfl rfl ?_
            refine T_iload_n (q := 176) (i := 1) rfl rfl rfl rfl rfl ?_
            refine T_icmp_gt (q := 179) (tgt := 183) rfl rfl rfl (by decide) (by omega) (by omega) (fun h176 => ?_) (fun h176 => ?_)
            · refine T_iconst (q := 184) rfl rfl rfl ?_
              refine T_icmp_ne (q := 187) (tgt := 236) rfl rfl rfl (by decide) (by omega) (by omega) (fun h184 => ?_) (fun h184 => ?_)
              · omega
              · refine T_iload (q := 189) rfl rfl rfl rfl ?_
                refine T_if_eq (q := 192) (tgt := 204) rfl rfl rfl (by decide) (by omega) (fun h189 => ?_) (fun h189 => ?_)
                · refine T_iload (q := 206) rfl rfl rfl rfl ?_
                  refine T_iload_n (q := 207) (i := 1) rfl rfl rfl rfl rfl ?_
                  refine T_icmp_le (q := 210) (tgt := 232) rfl rfl rfl (by decide) (by omega) (by omega) (fun h207 => ?_) (fun h207 => ?_)
                  · refine T_iconst (q := 233) rfl rfl rfl ?_
                    refine T_goto (q := 236) (tgt := 237) rfl rfl rfl (by decide) ?_
                    refine T_istore (q := 239) rfl rfl rfl rfl ?_
                    refine T_goto (q := 242) (tgt := 267) rfl rfl rfl (by decide) ?_
                    exact J267 _ _ s
                  · refine T_aload_n (q := 211) (i := 0) rfl rfl rfl rfl rfl ?_
                    refine T_iload_n (q := 212) (i := 2) rfl rfl rfl rfl rfl ?_
                    refine O_untilGone (q := 215) s rfl rfl rfl rfl ⟨hT, by omega⟩ (by rewrite [hN]; exact C3) rfl (fun M' s => ?_)
                    refine T_iload (q := 217) rfl rfl rfl rfl ?_
                    refine T_iload_n (q := 218) (i := 1) rfl rfl rfl rfl rfl ?_
                    refine T_isub (q := 219) rfl rfl rfl ?_
                    refine T_neS (q := 222) (tgt := 236) rfl rfl rfl (by decide) ?_
                    refine T_aload_n (q := 223) (i := 0) rfl rfl rfl rfl rfl ?_
                    refine T_iload_n (q := 224) (i := 2) rfl rfl rfl rfl rfl ?_
                    refine O_fate (q := 227) s rfl rfl rfl rfl ⟨hT, by omega⟩ (by rewrite [hN]; exact C4) rfl (fun M' s => ?_)
                    refine T_iload (q := 229) rfl rfl rfl rfl ?_
                    refine T_neS (q := 232) (tgt := 236) rfl rfl rfl (by decide) ?_
                    refine T_iconst (q := 233) rfl rfl rfl ?_
                    refine T_goto (q := 236) (tgt := 237) rfl rfl rfl (by decide) ?_
                    refine T_istore (q := 239) rfl rfl rfl rfl ?_
                    refine T_goto (q := 242) (tgt := 267) rfl rfl rfl (by decide) ?_
                    exact J267 _ _ s
                · omega
            · refine T_iconst (q := 180) rfl rfl rfl ?_
              refine T_goto (q := 183) (tgt := 184) rfl rfl rfl (by decide) ?_
              refine T_icmp_ne (q := 187) (tgt := 236) rfl rfl rfl (by decide) (by omega) (by omega) (fun h184 => ?_) (fun h184 => ?_)
              · exfalso; omega
              · omega
      · refine T_iconst (q := 155) rfl rfl rfl ?_
        refine T_goto (q := 158) (tgt := 159) rfl rfl rfl (by decide) ?_
        refine T_istore (q := 161) rfl rfl rfl rfl ?_
        refine T_iload (q := 163) rfl rfl rfl rfl ?_
        refine T_if_eq (q := 166) (tgt := 236) rfl rfl rfl (by decide) (by omega) (fun h163 => ?_) (fun h163 => ?_)
        · omega
        · refine T_iload (q := 168) rfl rfl rfl rfl ?_
          refine T_iload (q := 170) rfl rfl rfl rfl ?_
          refine T_if_lt (q := 173) (tgt := 183) rfl rfl rfl (by decide) (by omega) (fun h170 => ?_) (fun h170 => ?_)
          · refine T_iconst (q := 184) rfl rfl rfl ?_
            refine T_icmp_ne (q := 187) (tgt := 236) rfl rfl rfl (by decide) (by omega) (by omega) (fun h184 => ?_) (fun h184 => ?_)
            · exfalso; omega
            · omega
          · refine T_iload (q := 175) rfl rfl rfl rfl ?_
            refine T_iload_n (q := 176) (i := 1) rfl rfl rfl rfl rfl ?_
            refine T_icmp_gt (q := 179) (tgt := 183) rfl rfl rfl (by decide) (by omega) (by omega) (fun h176 => ?_) (fun h176 => ?_)
            · refine T_iconst (q := 184) rfl rfl rfl ?_
              refine T_icmp_ne (q := 187) (tgt := 236) rfl rfl rfl (by decide) (by omega) (by omega) (fun h184 => ?_) (fun h184 => ?_)
              · exfalso; omega
              · omega
            · refine T_iconst (q := 180) rfl rfl rfl ?_
              refine T_goto (q := 183) (tgt := 184) rfl rfl rfl (by decide) ?_
              refine T_icmp_ne (q := 187) (tgt := 236) rfl rfl rfl (by decide) (by omega) (by omega) (fun h184 => ?_) (fun h184 => ?_)
              · omega
              · refine T_iload (q := 189) rfl rfl rfl rfl ?_
                refine T_if_eq (q := 192) (tgt := 204) rfl rfl rfl (by decide) (by omega) (fun h189 => ?_) (fun h189 => ?_)
                · omega
                · refine T_aload_n (q := 193) (i := 0) rfl rfl rfl rfl rfl ?_
                  refine T_iload_n (q := 194) (i := 2) rfl rfl rfl rfl rfl ?_
                  refine T_bipush (q := 196) rfl rfl rfl (by decide) ?_
                  refine O_trunk (q := 199) s rfl rfl rfl rfl ⟨hT, by omega, by omega⟩ (by rewrite [hN]; exact trV_7 _ _) rfl (fun M' s => ?_)
                  refine T_iload (q := 201) rfl rfl rfl rfl ?_
                  refine T_icmp_ne (q := 204) (tgt := 236) rfl rfl rfl (by decide) (by omega) (by omega) (fun h201 => ?_) (fun h201 => ?_)
                  · exfalso; omega
                  · refine T_iload (q := 206) rfl rfl rfl rfl ?_
                    refine T_iload_n (q := 207) (i := 1) rfl rfl rfl rfl rfl ?_
                    refine T_icmp_le (q := 210) (tgt := 232) rfl rfl rfl (by decide) (by omega) (by omega) (fun h207 => ?_) (fun h207 => ?_)
                    · refine T_iconst (q := 233) rfl rfl rfl ?_
                      refine T_goto (q := 236) (tgt := 237) rfl rfl rfl (by decide) ?_
                      refine T_istore (q := 239) rfl rfl rfl rfl ?_
                      refine T_goto (q := 242) (tgt := 267) rfl rfl rfl (by decide) ?_
                      exact J267 _ _ s
                    · refine T_aload_n (q := 211) (i := 0) rfl rfl rfl rfl rfl ?_
                      refine T_iload_n (q := 212) (i := 2) rfl rfl rfl rfl rfl ?_
                      refine O_untilGone (q := 215) s rfl rfl rfl rfl ⟨hT, by omega⟩ (by rewrite [hN]; exact C3) rfl (fun M' s => ?_)
                      refine T_iload (q := 217) rfl rfl rfl rfl ?_
                      refine T_iload_n (q := 218) (i := 1) rfl rfl rfl rfl rfl ?_
                      refine T_isub (q := 219) rfl rfl rfl ?_
                      refine T_neS (q := 222) (tgt := 236) rfl rfl rfl (by decide) ?_
                      refine T_aload_n (q := 223) (i := 0) rfl rfl rfl rfl rfl ?_
                      refine T_iload_n (q := 224) (i := 2) rfl rfl rfl rfl rfl ?_
                      refine O_fate (q := 227) s rfl rfl rfl rfl ⟨hT, by omega⟩ (by rewrite [hN]; exact C4) rfl (fun M' s => ?_)
                      refine T_iload (q := 229) rfl rfl rfl rfl ?_
                      refine T_neS (q := 232) (tgt := 236) rfl rfl rfl (by decide) ?_
                      refine T_iconst (q := 233) rfl rfl rfl ?_
                      refine T_goto (q := 236) (tgt := 237) rfl rfl rfl (by decide) ?_
                      refine T_istore (q := 239) rfl rfl rfl rfl ?_
                      refine T_goto (q := 242) (tgt := 267) rfl rfl rfl (by decide) ?_
                      exact J267 _ _ s
