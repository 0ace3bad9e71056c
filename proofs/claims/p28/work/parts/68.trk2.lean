/-! THE LAW'S trunks: one trunk's checks -/
set_option maxRecDepth 100000 in
set_option maxHeartbeats 8000000 in
theorem trk_chk (L : Nat) (scr : Int → Int) (Q : Int → Mem → Prop) (f : Int → Int) (M1 : Mem) (k : Int) (a1 a2 a6 : Int) (hf : M1 12 = f) (O : Ok2 f) (h6 : f 6 ≤ 9999) (hk : 0 ≤ k ∧ k < f 7) (l15 l16 l17 : PV)
    (hout : ∀ (N : Mem), Sme M1 N → Run2 sx_L_trunks L (xcF scr) true 0 Q 0 465 [wR 3, wI a1, wI a2, wR 191, wR 192, wR 193, wI a6, wI k, wI (f (90 + 9 * k)), wI (dko f k 3), wI (dbt f k), wI (msk f k), wI (smP f k 6), wI (fmk f k), wI (bt_ (msk f k = 0) 1), l15, l16, l17] [] N) :
    ∀ (l14 : PV) (N : Mem), Sme M1 N → Run2 sx_L_trunks L (xcF scr) true 0 Q 0 218 [wR 3, wI a1, wI a2, wR 191, wR 192, wR 193, wI a6, wI k, wI (f (90 + 9 * k)), wI (dko f k 3), wI (dbt f k), wI (msk f k), wI (smP f k 6), wI (fmk f k), l14, l15, l16, l17] [] N := by
  intro l14
  obtain ⟨I, V, -⟩ := id O
  have i7 := I.i7
  have ht : 0 ≤ k ∧ k < 64 := by omega
  obtain ⟨-, c1, c2, c3⟩ := I.1.2.2.2 k ht.1 ht.2
  have hT : hasT (M1 12) k := by rw [hf]; exact hk
  have st := (I.2.2.2.2.2.2.1 k hk.1 hk.2).1
  have mb := msk_bd f k
  have fb := fmk_bd f k
  have db := dbt_bd I.1 ht
  have z0 := dbt_0 I.1 ht
  have sb := smP_bd c1.1 c2.1 6
  have dsm : msk f k ≠ 0 → smP f k 6 ≤ dbt f k ∧ dbt f k ≤ 9 * smP f k 6 + 9 := dbt_sm I.1 ht
  have tf := tk_f I V hk
  have dr := dko_r f k
  obtain ⟨v1, v2, v3, v4, v5⟩ := V.1 k hk.1 hk.2
  have ab := acc_bd O h6 hk
  obtain ⟨P, hP⟩ : ∃ P, trV f k 2 = P := ⟨_, rfl⟩
  have P2 : (dko f k 3 = -6 ∧ P = -6) ∨ (dko f k 3 ≠ -6 ∧ P = plD f (dko f k 3) k) := by
    rw [← hP, trV_2]
    by_cases z : dko f k 3 = -6
    · exact Or.inl ⟨z, if_pos z⟩
    · exact Or.inr ⟨z, if_neg z⟩
  have P3 : (dko f k 3 = -6 ∧ P = -6) ∨ (0 ≤ dko f k 3 ∧ 0 ≤ P ∧ P < 16) := by omega
  have P4 : (f (90 + 9 * k) = 0 ∧ 0 ≤ dko f k 3 ∧ f (94 + 9 * k) = dko f k 3) ∨ (f (90 + 9 * k) ≠ 0 ∧ dko f k 3 = -6) := by omega
  have v6 : (f (90 + 9 * k) = 2 ∧ f (93 + 9 * k) = fmk f k) ∨ (f (90 + 9 * k) ≠ 2 ∧ f (93 + 9 * k) = 0) := by
    by_cases z : f (90 + 9 * k) = 2
    · rw [if_pos z] at v5
      exact Or.inl ⟨z, v5⟩
    · rw [if_neg z] at v5
      exact Or.inr ⟨z, v5⟩
  clear tf P2 v5
  have J445 : ∀ N, Sme M1 N → Run2 sx_L_trunks L (xcF scr) true 0 Q 0 433 [wR 3, wI a1, wI a2, wR 191, wR 192, wR 193, wI a6, wI k, wI (f (90 + 9 * k)), wI (dko f k 3), wI (dbt f k), wI (msk f k), wI (smP f k 6), wI (fmk f k), wI (bt_ (msk f k = 0) 1), l15, l16, l17] [] N := by
    intro N s
    refine T_aload_n (q := 434) (i := 0) rfl rfl rfl rfl rfl ?_
    refine T_iload (q := 436) rfl rfl rfl rfl ?_
    refine T_bipush (q := 438) rfl rfl rfl (by decide) ?_
    refine O_trunk (q := 441) s rfl rfl rfl rfl ⟨hT, by omega, by omega⟩ (by rewrite [hf]; exact trV_9 _ _) rfl (fun M' s => ?_)
    refine T_iconst (q := 442) rfl rfl rfl ?_
    refine T_icmp_gt (q := 445) (tgt := 463) rfl rfl rfl (by decide) (by omega) (by omega) (fun h442 => ?_) (fun h442 => ?_)
    · exfalso; omega
    · refine T_iload (q := 447) rfl rfl rfl rfl ?_
      refine T_iconst (q := 448) rfl rfl rfl ?_
      refine T_icmp_ne (q := 451) (tgt := 465) rfl rfl rfl (by decide) (by omega) (by omega) (fun h448 => ?_) (fun h448 => ?_)
      · exact hout _ s
      · refine T_aload_n (q := 452) (i := 0) rfl rfl rfl rfl rfl ?_
        refine T_iload (q := 454) rfl rfl rfl rfl ?_
        refine T_bipush (q := 456) rfl rfl rfl (by decide) ?_
        refine O_trunk (q := 459) s rfl rfl rfl rfl ⟨hT, by omega, by omega⟩ (by rewrite [hf]; exact trV_9 _ _) rfl (fun M' s => ?_)
        refine T_iconst (q := 460) rfl rfl rfl ?_
        refine T_icmp_eq (q := 463) (tgt := 465) rfl rfl rfl (by decide) (by omega) (by omega) (fun h460 => ?_) (fun h460 => ?_)
        · exact hout _ s
        · exfalso; omega
  have J388 : ∀ N, Sme M1 N → Run2 sx_L_trunks L (xcF scr) true 0 Q 0 388 [wR 3, wI a1, wI a2, wR 191, wR 192, wR 193, wI a6, wI k, wI (f (90 + 9 * k)), wI (dko f k 3), wI (dbt f k), wI (msk f k), wI (smP f k 6), wI (fmk f k), wI (bt_ (msk f k = 0) 1), l15, l16, l17] [] N := by
    intro N s
    refine T_aload_n (q := 389) (i := 0) rfl rfl rfl rfl rfl ?_
    refine T_iload (q := 391) rfl rfl rfl rfl ?_
    refine T_iconst (q := 392) rfl rfl rfl ?_
    refine O_trunk (q := 395) s rfl rfl rfl rfl ⟨hT, by omega, by omega⟩ (by rewrite [hf]; exact trV_5 _ _) rfl (fun M' s => ?_)
    refine T_if_lt (q := 398) (tgt := 463) rfl rfl rfl (by decide) (by omega) (fun h395 => ?_) (fun h395 => ?_)
    · exfalso; omega
    · refine T_aload_n (q := 399) (i := 0) rfl rfl rfl rfl rfl ?_
      refine T_iload (q := 401) rfl rfl rfl rfl ?_
      refine T_bipush (q := 403) rfl rfl rfl (by decide) ?_
      refine O_trunk (q := 406) s rfl rfl rfl rfl ⟨hT, by omega, by omega⟩ (by rewrite [hf]; exact trV_6 _ _) rfl (fun M' s => ?_)
      refine T_aload_n (q := 407) (i := 0) rfl rfl rfl rfl rfl ?_
      refine T_bipush (q := 409) rfl rfl rfl (by decide) ?_
      refine O_count (q := 412) s rfl rfl rfl rfl (by decide) (by rewrite [hf]; exact cnV_6 _ _) rfl (fun M' s => ?_)
      refine T_icmp_gt (q := 415) (tgt := 463) rfl rfl rfl (by decide) (by omega) (by omega) (fun h412 => ?_) (fun h412 => ?_)
      · exfalso; omega
      · refine T_iload (q := 417) rfl rfl rfl rfl ?_
        refine T_if_ne (q := 420) (tgt := 433) rfl rfl rfl (by decide) (by omega) (fun h417 => ?_) (fun h417 => ?_)
        · exact J445 _ s
        · refine T_aload_n (q := 421) (i := 0) rfl rfl rfl rfl rfl ?_
          refine T_iload (q := 423) rfl rfl rfl rfl ?_
          refine T_bipush (q := 425) rfl rfl rfl (by decide) ?_
          refine O_trunk (q := 428) s rfl rfl rfl rfl ⟨hT, by omega, by omega⟩ (by rewrite [hf]; exact trV_9 _ _) rfl (fun M' s => ?_)
          refine T_iload (q := 430) rfl rfl rfl rfl ?_
          refine T_icmp_ne (q := 433) (tgt := 463) rfl rfl rfl (by decide) (by omega) (by omega) (fun h430 => ?_) (fun h430 => ?_)
          · exfalso; omega
          · exact J445 _ s
  have J365 : ∀ N, Sme M1 N → Run2 sx_L_trunks L (xcF scr) true 0 Q 0 365 [wR 3, wI a1, wI a2, wR 191, wR 192, wR 193, wI a6, wI k, wI (f (90 + 9 * k)), wI (dko f k 3), wI (dbt f k), wI (msk f k), wI (smP f k 6), wI (fmk f k), wI (bt_ (msk f k = 0) 1), l15, l16, l17] [] N := by
    intro N s
    refine T_aload_n (q := 366) (i := 0) rfl rfl rfl rfl rfl ?_
    refine T_iload (q := 368) rfl rfl rfl rfl ?_
    refine T_bipush (q := 370) rfl rfl rfl (by decide) ?_
    refine O_trunk (q := 373) s rfl rfl rfl rfl ⟨hT, by omega, by omega⟩ (by rewrite [hf]; exact trV_8 _ _) rfl (fun M' s => ?_)
    refine T_iload (q := 375) rfl rfl rfl rfl ?_
    refine T_iconst (q := 376) rfl rfl rfl ?_
    refine T_icmp_ne (q := 379) (tgt := 384) rfl rfl rfl (by decide) (by omega) (by omega) (fun h376 => ?_) (fun h376 => ?_)
    · refine T_iconst (q := 385) rfl rfl rfl ?_
      refine T_icmp_ne (q := 388) (tgt := 463) rfl rfl rfl (by decide) (by omega) (by omega) (fun h385 => ?_) (fun h385 => ?_)
      · exfalso; omega
      · exact J388 _ s
    · refine T_iload (q := 381) rfl rfl rfl rfl ?_
      refine T_goto (q := 384) (tgt := 385) rfl rfl rfl (by decide) ?_
      refine T_icmp_ne (q := 388) (tgt := 463) rfl rfl rfl (by decide) (by omega) (by omega) (fun h385 => ?_) (fun h385 => ?_)
      · exfalso; omega
      · exact J388 _ s
  have J337 : ∀ N, Sme M1 N → Run2 sx_L_trunks L (xcF scr) true 0 Q 0 337 [wR 3, wI a1, wI a2, wR 191, wR 192, wR 193, wI a6, wI k, wI (f (90 + 9 * k)), wI (dko f k 3), wI (dbt f k), wI (msk f k), wI (smP f k 6), wI (fmk f k), wI (bt_ (msk f k = 0) 1), l15, l16, l17] [] N := by
    intro N s
    refine T_iload (q := 339) rfl rfl rfl rfl ?_
    refine T_if_lt (q := 342) (tgt := 346) rfl rfl rfl (by decide) (by omega) (fun h339 => ?_) (fun h339 => ?_)
    · refine T_iconst (q := 347) rfl rfl rfl ?_
      refine T_aload_n (q := 348) (i := 0) rfl rfl rfl rfl rfl ?_
      refine T_iload (q := 350) rfl rfl rfl rfl ?_
      refine T_iconst (q := 351) rfl rfl rfl ?_
      refine O_trunk (q := 354) s rfl rfl rfl rfl ⟨hT, by omega, by omega⟩ (by rewrite [hf]; exact hP) rfl (fun M' s => ?_)
      refine T_if_lt (q := 357) (tgt := 361) rfl rfl rfl (by decide) (by omega) (fun h354 => ?_) (fun h354 => ?_)
      · refine T_iconst (q := 362) rfl rfl rfl ?_
        refine T_icmp_ne (q := 365) (tgt := 463) rfl rfl rfl (by decide) (by omega) (by omega) (fun h362 => ?_) (fun h362 => ?_)
        · omega
        · exact J365 _ s
      · refine T_iconst (q := 358) rfl rfl rfl ?_
        refine T_goto (q := 361) (tgt := 362) rfl rfl rfl (by decide) ?_
        refine T_icmp_ne (q := 365) (tgt := 463) rfl rfl rfl (by decide) (by omega) (by omega) (fun h362 => ?_) (fun h362 => ?_)
        · exfalso; omega
        · omega
    · refine T_iconst (q := 343) rfl rfl rfl ?_
      refine T_goto (q := 346) (tgt := 347) rfl rfl rfl (by decide) ?_
      refine T_aload_n (q := 348) (i := 0) rfl rfl rfl rfl rfl ?_
      refine T_iload (q := 350) rfl rfl rfl rfl ?_
      refine T_iconst (q := 351) rfl rfl rfl ?_
      refine O_trunk (q := 354) s rfl rfl rfl rfl ⟨hT, by omega, by omega⟩ (by rewrite [hf]; exact hP) rfl (fun M' s => ?_)
      refine T_if_lt (q := 357) (tgt := 361) rfl rfl rfl (by decide) (by omega) (fun h354 => ?_) (fun h354 => ?_)
      · refine T_iconst (q := 362) rfl rfl rfl ?_
        refine T_icmp_ne (q := 365) (tgt := 463) rfl rfl rfl (by decide) (by omega) (by omega) (fun h362 => ?_) (fun h362 => ?_)
        · exfalso; omega
        · omega
      · refine T_iconst (q := 358) rfl rfl rfl ?_
        refine T_goto (q := 361) (tgt := 362) rfl rfl rfl (by decide) ?_
        refine T_icmp_ne (q := 365) (tgt := 463) rfl rfl rfl (by decide) (by omega) (by omega) (fun h362 => ?_) (fun h362 => ?_)
        · omega
        · exact J365 _ s
  have J314 : ∀ N, Sme M1 N → Run2 sx_L_trunks L (xcF scr) true 0 Q 0 314 [wR 3, wI a1, wI a2, wR 191, wR 192, wR 193, wI a6, wI k, wI (f (90 + 9 * k)), wI (dko f k 3), wI (dbt f k), wI (msk f k), wI (smP f k 6), wI (fmk f k), wI (bt_ (msk f k = 0) 1), l15, l16, l17] [] N := by
    intro N s
    refine T_iload (q := 316) rfl rfl rfl rfl ?_
    refine T_if_ne (q := 319) (tgt := 323) rfl rfl rfl (by decide) (by omega) (fun h316 => ?_) (fun h316 => ?_)
    · refine T_iconst (q := 324) rfl rfl rfl ?_
      refine T_iload (q := 326) rfl rfl rfl rfl ?_
      refine T_if_lt (q := 329) (tgt := 333) rfl rfl rfl (by decide) (by omega) (fun h326 => ?_) (fun h326 => ?_)
      · refine T_iconst (q := 334) rfl rfl rfl ?_
        refine T_icmp_ne (q := 337) (tgt := 463) rfl rfl rfl (by decide) (by omega) (by omega) (fun h334 => ?_) (fun h334 => ?_)
        · omega
        · exact J337 _ s
      · refine T_iconst (q := 330) rfl rfl rfl ?_
        refine T_goto (q := 333) (tgt := 334) rfl rfl rfl (by decide) ?_
        refine T_icmp_ne (q := 337) (tgt := 463) rfl rfl rfl (by decide) (by omega) (by omega) (fun h334 => ?_) (fun h334 => ?_)
        · exfalso; omega
        · omega
    · refine T_iconst (q := 320) rfl rfl rfl ?_
      refine T_goto (q := 323) (tgt := 324) rfl rfl rfl (by decide) ?_
      refine T_iload (q := 326) rfl rfl rfl rfl ?_
      refine T_if_lt (q := 329) (tgt := 333) rfl rfl rfl (by decide) (by omega) (fun h326 => ?_) (fun h326 => ?_)
      · refine T_iconst (q := 334) rfl rfl rfl ?_
        refine T_icmp_ne (q := 337) (tgt := 463) rfl rfl rfl (by decide) (by omega) (by omega) (fun h334 => ?_) (fun h334 => ?_)
        · exfalso; omega
        · omega
      · refine T_iconst (q := 330) rfl rfl rfl ?_
        refine T_goto (q := 333) (tgt := 334) rfl rfl rfl (by decide) ?_
        refine T_icmp_ne (q := 337) (tgt := 463) rfl rfl rfl (by decide) (by omega) (by omega) (fun h334 => ?_) (fun h334 => ?_)
        · omega
        · exact J337 _ s
  have J289 : ∀ N, Sme M1 N → Run2 sx_L_trunks L (xcF scr) true 0 Q 0 289 [wR 3, wI a1, wI a2, wR 191, wR 192, wR 193, wI a6, wI k, wI (f (90 + 9 * k)), wI (dko f k 3), wI (dbt f k), wI (msk f k), wI (smP f k 6), wI (fmk f k), wI (bt_ (msk f k = 0) 1), l15, l16, l17] [] N := by
    intro N s
    have dsm2 : msk f k = 0 ∨ (smP f k 6 ≤ dbt f k ∧ dbt f k ≤ 9 * smP f k 6 + 9) := by
      by_cases z : msk f k = 0
      · exact Or.inl z
      · exact Or.inr (dsm z)
    refine T_iload (q := 291) rfl rfl rfl rfl ?_
    refine T_if_le (q := 294) (tgt := 314) rfl rfl rfl (by decide) (by omega) (fun h291 => ?_) (fun h291 => ?_)
    · exact J314 _ s
    · refine T_iload (q := 296) rfl rfl rfl rfl ?_
      refine T_iload (q := 298) rfl rfl rfl rfl ?_
      refine T_icmp_lt (q := 301) (tgt := 463) rfl rfl rfl (by decide) (by omega) (by omega) (fun h298 => ?_) (fun h298 => ?_)
      · exfalso; omega
      · refine T_iload (q := 303) rfl rfl rfl rfl ?_
        refine T_bipush (q := 305) rfl rfl rfl (by decide) ?_
        refine T_iload (q := 307) rfl rfl rfl rfl ?_
        refine T_imul (q := 308) rfl rfl rfl ?_
        refine T_bipush (q := 310) rfl rfl rfl (by decide) ?_
        refine T_iadd (q := 311) rfl rfl rfl ?_
        refine T_icmp_gt (q := 314) (tgt := 463) rfl rfl rfl (by decide) (by omega) (by omega) (fun h311 => ?_) (fun h311 => ?_)
        · exfalso; omega
        · exact J314 _ s
  have J230 : ∀ N v, Sme M1 N → v = bt_ (msk f k = 0) 1 → Run2 sx_L_trunks L (xcF scr) true 0 Q 0 228 [wR 3, wI a1, wI a2, wR 191, wR 192, wR 193, wI a6, wI k, wI (f (90 + 9 * k)), wI (dko f k 3), wI (dbt f k), wI (msk f k), wI (smP f k 6), wI (fmk f k), l14, l15, l16, l17] [wI v] N := by
    intro N v s hv
    subst hv
    refine T_istore (q := 230) rfl rfl rfl rfl ?_
    refine T_aload_n (q := 231) (i := 0) rfl rfl rfl rfl rfl ?_
    refine T_iload (q := 233) rfl rfl rfl rfl ?_
    refine T_iconst (q := 234) rfl rfl rfl ?_
    refine O_trunk (q := 237) s rfl rfl rfl rfl ⟨hT, by omega, by omega⟩ (by rewrite [hf]; exact trV_4 _ _) rfl (fun M' s => ?_)
    refine T_iload (q := 239) rfl rfl rfl rfl ?_
    refine T_neS (q := 242) (tgt := 463) rfl rfl rfl (by decide) ?_
    refine T_aload_n (q := 243) (i := 0) rfl rfl rfl rfl rfl ?_
    refine T_iload (q := 245) rfl rfl rfl rfl ?_
    refine T_iconst (q := 246) rfl rfl rfl ?_
    refine O_alike (q := 249) s rfl rfl rfl rfl ⟨hT, by omega⟩ (by rewrite [hf]; rfl) rfl (fun M' s => ?_)
    refine T_iload (q := 251) rfl rfl rfl rfl ?_
    refine T_neS (q := 254) (tgt := 463) rfl rfl rfl (by decide) ?_
    refine T_aload_n (q := 255) (i := 0) rfl rfl rfl rfl rfl ?_
    refine T_iload (q := 257) rfl rfl rfl rfl ?_
    refine T_iconst (q := 258) rfl rfl rfl ?_
    refine O_alike (q := 261) s rfl rfl rfl rfl ⟨hT, by omega⟩ (by rewrite [hf]; rfl) rfl (fun M' s => ?_)
    refine T_iload (q := 263) rfl rfl rfl rfl ?_
    refine T_neS (q := 266) (tgt := 463) rfl rfl rfl (by decide) ?_
    refine T_iload (q := 268) rfl rfl rfl rfl ?_
    refine T_if_ne (q := 271) (tgt := 275) rfl rfl rfl (by decide) (by omega) (fun h268 => ?_) (fun h268 => ?_)
    · refine T_iconst (q := 276) rfl rfl rfl ?_
      refine T_iload (q := 278) rfl rfl rfl rfl ?_
      refine T_if_ne (q := 281) (tgt := 285) rfl rfl rfl (by decide) (by omega) (fun h278 => ?_) (fun h278 => ?_)
      · refine T_iconst (q := 286) rfl rfl rfl ?_
        refine T_icmp_ne (q := 289) (tgt := 463) rfl rfl rfl (by decide) (by omega) (by omega) (fun h286 => ?_) (fun h286 => ?_)
        · omega
        · exact J289 _ s
      · refine T_iconst (q := 282) rfl rfl rfl ?_
        refine T_goto (q := 285) (tgt := 286) rfl rfl rfl (by decide) ?_
        refine T_icmp_ne (q := 289) (tgt := 463) rfl rfl rfl (by decide) (by omega) (by omega) (fun h286 => ?_) (fun h286 => ?_)
        · exfalso; omega
        · omega
    · refine T_iconst (q := 272) rfl rfl rfl ?_
      refine T_goto (q := 275) (tgt := 276) rfl rfl rfl (by decide) ?_
      refine T_iload (q := 278) rfl rfl rfl rfl ?_
      refine T_if_ne (q := 281) (tgt := 285) rfl rfl rfl (by decide) (by omega) (fun h278 => ?_) (fun h278 => ?_)
      · refine T_iconst (q := 286) rfl rfl rfl ?_
        refine T_icmp_ne (q := 289) (tgt := 463) rfl rfl rfl (by decide) (by omega) (by omega) (fun h286 => ?_) (fun h286 => ?_)
        · exfalso; omega
        · omega
      · refine T_iconst (q := 282) rfl rfl rfl ?_
        refine T_goto (q := 285) (tgt := 286) rfl rfl rfl (by decide) ?_
        refine T_icmp_ne (q := 289) (tgt := 463) rfl rfl rfl (by decide) (by omega) (by omega) (fun h286 => ?_) (fun h286 => ?_)
        · omega
        · exact J289 _ s
  intro N s
  refine T_iload (q := 220) rfl rfl rfl rfl ?_
  refine T_if_ne (q := 223) (tgt := 227) rfl rfl rfl (by decide) (by omega) (fun h220 => ?_) (fun h220 => ?_)
  · refine T_iconst (q := 228) rfl rfl rfl ?_
    first
      | exact J230 _ _ s (bt_f (by omega)).symm
      | exact J230 _ _ s (bt_t (by omega)).symm
  · refine T_iconst (q := 224) rfl rfl rfl ?_
    refine T_goto (q := 227) (tgt := 228) rfl rfl rfl (by decide) ?_
    first
      | exact J230 _ _ s (bt_f (by omega)).symm
      | exact J230 _ _ s (bt_t (by omega)).symm
