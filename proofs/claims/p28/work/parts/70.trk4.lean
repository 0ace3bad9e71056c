/-! THE LAW'S trunks: its end, and the whole of it -/
abbrev C_L_trunks : Ct2 := (1, false, 1, fun as M => ∃ (o : Nat), as = [wR o] ∧ (o = 3 ∧ GI M ∧ Ok2 (M 12)), fun as M x M' => ∀ (o : Nat), as = [wR o] → (x = 1 ∧ Sme M M'))
set_option maxRecDepth 100000 in
set_option maxHeartbeats 8000000 in
theorem trk_tail (L : Nat) (scr : Int → Int) (M : Mem) (f : Int → Int) (hfM : M 12 = f) (O : Ok2 f) (h6 : f 6 ≤ 9999) (N : Mem) (l8 l9 l10 l11 l12 l13 l14 l15 l16 l17 : PV) (hS : SmA M N) (hA : ArI f (f 7).toNat (f 7).toNat 0 N) :
    Run2 sx_L_trunks L (xcF scr) true 0 (fun x M' => x = 1 ∧ SmA M M') 0 599 [wR 3, wI (sA f (f 7).toNat), wI (mdb f (f 7).toNat), wR 191, wR 192, wR 193, wI (cU f (f 7).toNat), wI (((f 7).toNat : Nat) : Int), l8, l9, l10, l11, l12, l13, l14, l15, l16, l17] [] N := by
  obtain ⟨I, V, b1, b2⟩ := id O
  have i7 := I.i7
  have gb := gone_bd I
  have i16 := I.2.2.2.1
  have le0 := I.le (d := 0) (by omega) (by omega)
  have le1 := I.le (d := 1) (by omega) (by omega)
  have le2 := I.le (d := 2) (by omega) (by omega)
  have m0 : f (27 + 4 * 0) = f 27 := rfl
  have m1 : f (27 + 4 * 1) = f 31 := rfl
  have m2 : f (27 + 4 * 2) = f 35 := rfl
  have hC := V.2.2.1
  have hD := V.2.2.2.1
  have hE := V.2.2.2.2.1
  have hF := V.2.2.2.2.2
  have w0 := cF_wait I V
  have w1 : f 8 = cF f 1 (f 7).toNat := I.2.2.2.2.2.2.2.1
  have w2 : f 9 = cF f 2 (f 7).toNat := I.2.2.2.2.2.2.2.2.1
  have w3 : f 10 = cF f 3 (f 7).toNat := I.2.2.2.2.2.2.2.2.2.1
  have wu : f 14 = cU f (f 7).toNat := I.2.2.2.2.2.2.2.2.2.2
  have c3 := cF_bd f 3 (f 7).toNat
  have cu : 0 ≤ cU f (f 7).toNat ∧ cU f (f 7).toNat ≤ ((f 7).toNat : Int) := by
    have : ∀ n : Nat, 0 ≤ cU f n ∧ cU f n ≤ n := fun n => by
      induction n with
      | zero => show 0 ≤ (0 : Int) ∧ (0 : Int) ≤ 0; omega
      | succ n ih =>
        have := bt_01 (f (90 + 9 * (n : Int)) = 2 ∧ f (93 + 9 * (n : Int)) = 0)
        show 0 ≤ cU f n + _ ∧ cU f n + _ ≤ ((n + 1 : Nat) : Int)
        omega
    exact this _
  have e29 : 0 ≤ f 29 ∧ f 29 ≤ f 28 := hE 0 (by omega) (by omega)
  have e33 : 0 ≤ f 33 ∧ f 33 ≤ f 32 := hE 1 (by omega) (by omega)
  have e37 : 0 ≤ f 37 ∧ f 37 ≤ f 36 := hE 2 (by omega) (by omega)
  have J786 : ∀ (N : Mem) (l8 l9 l10 l11 l12 l13 l14 l15 l16 l17 : PV), SmA M N → ArI f (f 7).toNat (f 7).toNat 0 N → Run2 sx_L_trunks L (xcF scr) true 0 (fun x M' => x = 1 ∧ SmA M M') 0 786 [wR 3, wI (sA f (f 7).toNat), wI (mdb f (f 7).toNat), wR 191, wR 192, wR 193, wI (cU f (f 7).toNat), wI 1, l8, l9, l10, l11, l12, l13, l14, l15, l16, l17] [] N := by
    intro N l8 l9 l10 l11 l12 l13 l14 l15 l16 l17 hS hA
    have hf : N 12 = f := hS.e12.trans hfM
    have s := Sme.rf hS.1
    have hw := hA.1
    refine T_iload (q := 788) rfl rfl rfl rfl ?_
    refine T_if_eq (q := 791) (tgt := 848) rfl rfl rfl (by decide) (by omega) (fun h788 => ?_) (fun h788 => ?_)
    · omega
    · refine T_aload_n (q := 792) (i := 0) rfl rfl rfl rfl rfl ?_
      refine T_iconst (q := 793) rfl rfl rfl ?_
      refine T_iconst (q := 794) rfl rfl rfl ?_
      refine O_desk (q := 797) s rfl rfl rfl rfl (by omega) (by rewrite [hf]; exact (show dkV f 0 4 = f 29 from rfl)) rfl (fun M' s => ?_)
      refine T_aload_n (q := 798) (i := 0) rfl rfl rfl rfl rfl ?_
      refine T_iconst (q := 799) rfl rfl rfl ?_
      refine T_iconst (q := 800) rfl rfl rfl ?_
      refine O_desk (q := 803) s rfl rfl rfl rfl (by omega) (by rewrite [hf]; exact (show dkV f 1 4 = f 33 from rfl)) rfl (fun M' s => ?_)
      refine T_iadd (q := 804) rfl rfl rfl ?_
      refine T_aload_n (q := 805) (i := 0) rfl rfl rfl rfl rfl ?_
      refine T_iconst (q := 806) rfl rfl rfl ?_
      refine T_iconst (q := 807) rfl rfl rfl ?_
      refine O_desk (q := 810) s rfl rfl rfl rfl (by omega) (by rewrite [hf]; exact (show dkV f 2 4 = f 37 from rfl)) rfl (fun M' s => ?_)
      refine T_iadd (q := 811) rfl rfl rfl ?_
      refine T_aload_n (q := 812) (i := 3) rfl rfl rfl rfl rfl ?_
      refine T_iconst (q := 813) rfl rfl rfl ?_
      refine T_iald2 (q := 814) rfl rfl rfl rfl (by decide) (aI1 (by decide)) ((congrFun (s.2.2 191 (by omega) (by omega)) _).trans (hw _ (by decide) (by decide))) ?_
      refine T_aload_n (q := 815) (i := 3) rfl rfl rfl rfl rfl ?_
      refine T_iconst (q := 816) rfl rfl rfl ?_
      refine T_iald2 (q := 817) rfl rfl rfl rfl (by decide) (aI1 (by decide)) ((congrFun (s.2.2 191 (by omega) (by omega)) _).trans (hw _ (by decide) (by decide))) ?_
      refine T_iadd (q := 818) rfl rfl rfl ?_
      refine T_icmp_ne (q := 821) (tgt := 848) rfl rfl rfl (by decide) (by omega) (by omega) (fun h818 => ?_) (fun h818 => ?_)
      · exfalso; omega
      · refine T_aload_n (q := 822) (i := 0) rfl rfl rfl rfl rfl ?_
        refine T_iconst (q := 823) rfl rfl rfl ?_
        refine T_iconst (q := 824) rfl rfl rfl ?_
        refine O_desk (q := 827) s rfl rfl rfl rfl (by omega) (by rewrite [hf]; exact (show dkV f 2 4 = f 37 from rfl)) rfl (fun M' s => ?_)
        refine T_aload_n (q := 828) (i := 3) rfl rfl rfl rfl rfl ?_
        refine T_iconst (q := 829) rfl rfl rfl ?_
        refine T_iald2 (q := 830) rfl rfl rfl rfl (by decide) (aI1 (by decide)) ((congrFun (s.2.2 191 (by omega) (by omega)) _).trans (hw _ (by decide) (by decide))) ?_
        refine T_icmp_lt (q := 833) (tgt := 848) rfl rfl rfl (by decide) (by omega) (by omega) (fun h830 => ?_) (fun h830 => ?_)
        · exfalso; omega
        · refine T_aload_n (q := 834) (i := 0) rfl rfl rfl rfl rfl ?_
          refine T_bipush (q := 836) rfl rfl rfl (by decide) ?_
          refine O_count (q := 839) s rfl rfl rfl rfl (by decide) (by rewrite [hf]; exact cnV_8 _ _) rfl (fun M' s => ?_)
          refine T_bipush (q := 841) rfl rfl rfl (by decide) ?_
          refine T_icmp_gt (q := 844) (tgt := 848) rfl rfl rfl (by decide) (by omega) (by omega) (fun h841 => ?_) (fun h841 => ?_)
          · exfalso; omega
          · refine T_iconst (q := 845) rfl rfl rfl ?_
            refine T_goto (q := 848) (tgt := 849) rfl rfl rfl (by decide) ?_
            refine T_ret rfl rfl (Or.inr ⟨rfl, (by first | exact Or.inl rfl | exact Or.inr rfl | omega)⟩) ?_
            exact ⟨rfl, hS.s s⟩
  have J715 : ∀ (l9 l10 l11 l12 l13 l14 l15 l16 l17 : PV) (m i : Nat) (N : Mem), i + m = 3 → SmA M N → ArI f (f 7).toNat (f 7).toNat 0 N → Run2 sx_L_trunks L (xcF scr) true 0 (fun x M' => x = 1 ∧ SmA M M') 0 715 [wR 3, wI (sA f (f 7).toNat), wI (mdb f (f 7).toNat), wR 191, wR 192, wR 193, wI (cU f (f 7).toNat), wI 1, wI (i : Int), l9, l10, l11, l12, l13, l14, l15, l16, l17] [] N := by
    intro l9 l10 l11 l12 l13 l14 l15 l16 l17 m
    induction m with
    | zero =>
      intro i N hi hS hA
      have hi : i = 3 := by omega
      subst hi
      refine T_iload (q := 717) rfl rfl rfl rfl ?_
      refine T_iconst (q := 718) rfl rfl rfl ?_
      refine T_icmp_ge (q := 721) (tgt := 786) rfl rfl rfl (by decide) (by omega) (by omega) (fun h718 => ?_) (fun h718 => ?_)
      · exact J786 _ _ _ _ _ _ _ _ _ _ _ hS hA
      · omega
    | succ m ih =>
      intro i N hi hS hA
      have is1 : ((i + 1 : Nat) : Int) = (i : Int) + 1 := by omega
      have i3 : 0 ≤ (i : Int) ∧ (i : Int) < 3 := by omega
      have hf : N 12 = f := hS.e12.trans hfM
      have hq := hA.2 (i : Int) i3.1 i3.2
      rw [if_neg (by omega), qS_len I i3, qS_dbt I i3] at hq
      have he := hE (i : Int) i3.1 i3.2
      have hb := b2 (i : Int) i3.1 i3.2
      have hA' : ∀ N', Sme N N' → ArI f (f 7).toNat (f 7).toNat 0 N' := fun N' s => by
        unfold ArI
        rw [s.2.2 191 (by omega) (by omega), s.2.2 192 (by omega) (by omega), s.2.2 193 (by omega) (by omega)]
        exact hA
      have s := Sme.rf hS.1
      refine T_iload (q := 717) rfl rfl rfl rfl ?_
      refine T_iconst (q := 718) rfl rfl rfl ?_
      refine T_icmp_ge (q := 721) (tgt := 786) rfl rfl rfl (by decide) (by omega) (by omega) (fun h718 => ?_) (fun h718 => ?_)
      · omega
      · refine T_iload (q := 723) rfl rfl rfl rfl ?_
        refine T_if_eq (q := 726) (tgt := 777) rfl rfl rfl (by decide) (by omega) (fun h723 => ?_) (fun h723 => ?_)
        · omega
        · refine T_aload_n (q := 727) (i := 0) rfl rfl rfl rfl rfl ?_
          refine T_iload (q := 729) rfl rfl rfl rfl ?_
          refine T_iconst (q := 730) rfl rfl rfl ?_
          refine O_desk (q := 733) s rfl rfl rfl rfl ⟨by omega, by omega⟩ (by rewrite [hf]; exact dkV_1 _ _) rfl (fun M' s => ?_)
          refine T_aload (q := 735) rfl rfl rfl rfl ?_
          refine T_iload (q := 737) rfl rfl rfl rfl ?_
          refine T_iald2 (q := 738) rfl rfl rfl rfl (by decide) (aI2 i3) ((congrFun (s.2.2 192 (by omega) (by omega)) _).trans hq.1) ?_
          refine T_neS (q := 741) (tgt := 777) rfl rfl rfl (by decide) ?_
          refine T_aload_n (q := 742) (i := 0) rfl rfl rfl rfl rfl ?_
          refine T_iload (q := 744) rfl rfl rfl rfl ?_
          refine T_iconst (q := 745) rfl rfl rfl ?_
          refine O_desk (q := 748) s rfl rfl rfl rfl ⟨by omega, by omega⟩ (by rewrite [hf]; exact dkV_2 _ _) rfl (fun M' s => ?_)
          refine T_aload (q := 750) rfl rfl rfl rfl ?_
          refine T_iload (q := 752) rfl rfl rfl rfl ?_
          refine T_iald2 (q := 753) rfl rfl rfl rfl (by decide) (aI3 i3) ((congrFun (s.2.2 193 (by omega) (by omega)) _).trans hq.2) ?_
          refine T_neS (q := 756) (tgt := 777) rfl rfl rfl (by decide) ?_
          refine T_aload_n (q := 757) (i := 0) rfl rfl rfl rfl rfl ?_
          refine T_iload (q := 759) rfl rfl rfl rfl ?_
          refine T_iconst (q := 760) rfl rfl rfl ?_
          refine O_desk (q := 763) s rfl rfl rfl rfl ⟨by omega, by omega⟩ (by rewrite [hf]; exact dkV_3 _ _) rfl (fun M' s => ?_)
          refine T_aload_n (q := 764) (i := 0) rfl rfl rfl rfl rfl ?_
          refine T_iload (q := 766) rfl rfl rfl rfl ?_
          refine T_iconst (q := 767) rfl rfl rfl ?_
          refine O_desk (q := 770) s rfl rfl rfl rfl ⟨by omega, by omega⟩ (by rewrite [hf]; exact dkV_4 _ _) rfl (fun M' s => ?_)
          refine T_icmp_lt (q := 773) (tgt := 777) rfl rfl rfl (by decide) (by omega) (by omega) (fun h770 => ?_) (fun h770 => ?_)
          · exfalso; omega
          · refine T_iconst (q := 774) rfl rfl rfl ?_
            refine T_goto (q := 777) (tgt := 778) rfl rfl rfl (by decide) ?_
            refine T_istore (q := 780) rfl rfl rfl rfl ?_
            refine T_iinc (q := 783) rfl rfl rfl rfl rfl ?_
            refine T_goto (q := 786) (tgt := 715) rfl rfl rfl (by decide) ?_
            have := ih (i + 1) _ (by omega) (hS.s s) (hA' _ s)
            rw [is1] at this
            exact this
  have hf : N 12 = f := hS.e12.trans hfM
  have s := Sme.rf hS.1
  have hw := hA.1
  have hA' : ∀ N', Sme N N' → ArI f (f 7).toNat (f 7).toNat 0 N' := fun N' s => by
    unfold ArI
    rw [s.2.2 191 (by omega) (by omega), s.2.2 192 (by omega) (by omega), s.2.2 193 (by omega) (by omega)]
    exact hA
  refine T_aload_n (q := 600) (i := 0) rfl rfl rfl rfl rfl ?_
  refine T_bipush (q := 602) rfl rfl rfl (by decide) ?_
  refine O_count (q := 605) s rfl rfl rfl rfl (by decide) (by rewrite [hf]; exact cnV_15 _ _) rfl (fun M' s => ?_)
  refine T_iload_n (q := 606) (i := 1) rfl rfl rfl rfl rfl ?_
  refine T_icmp_ne (q := 609) (tgt := 709) rfl rfl rfl (by decide) (by omega) (by omega) (fun h606 => ?_) (fun h606 => ?_)
  · exfalso; omega
  · refine T_aload_n (q := 610) (i := 0) rfl rfl rfl rfl rfl ?_
    refine T_bipush (q := 612) rfl rfl rfl (by decide) ?_
    refine O_count (q := 615) s rfl rfl rfl rfl (by decide) (by rewrite [hf]; exact cnV_15 _ _) rfl (fun M' s => ?_)
    refine T_aload_n (q := 616) (i := 0) rfl rfl rfl rfl rfl ?_
    refine T_bipush (q := 618) rfl rfl rfl (by decide) ?_
    refine O_count (q := 621) s rfl rfl rfl rfl (by decide) (by rewrite [hf]; exact cnV_12 _ _) rfl (fun M' s => ?_)
    refine T_aload_n (q := 622) (i := 0) rfl rfl rfl rfl rfl ?_
    refine T_bipush (q := 624) rfl rfl rfl (by decide) ?_
    refine O_count (q := 627) s rfl rfl rfl rfl (by decide) (by rewrite [hf]; exact cnV_13 _ _) rfl (fun M' s => ?_)
    refine T_iadd (q := 628) rfl rfl rfl ?_
    refine T_aload_n (q := 629) (i := 0) rfl rfl rfl rfl rfl ?_
    refine T_bipush (q := 631) rfl rfl rfl (by decide) ?_
    refine O_count (q := 634) s rfl rfl rfl rfl (by decide) (by rewrite [hf]; exact cnV_14 _ _) rfl (fun M' s => ?_)
    refine T_iadd (q := 635) rfl rfl rfl ?_
    refine T_icmp_ne (q := 638) (tgt := 709) rfl rfl rfl (by decide) (by omega) (by omega) (fun h635 => ?_) (fun h635 => ?_)
    · exfalso; omega
    · refine T_aload_n (q := 639) (i := 0) rfl rfl rfl rfl rfl ?_
      refine T_bipush (q := 641) rfl rfl rfl (by decide) ?_
      refine O_count (q := 644) s rfl rfl rfl rfl (by decide) (by rewrite [hf]; exact cnV_8 _ _) rfl (fun M' s => ?_)
      refine T_aload_n (q := 645) (i := 3) rfl rfl rfl rfl rfl ?_
      refine T_iconst (q := 646) rfl rfl rfl ?_
      refine T_iald2 (q := 647) rfl rfl rfl rfl (by decide) (aI1 (by decide)) ((congrFun (s.2.2 191 (by omega) (by omega)) _).trans (hw _ (by decide) (by decide))) ?_
      refine T_icmp_ne (q := 650) (tgt := 709) rfl rfl rfl (by decide) (by omega) (by omega) (fun h647 => ?_) (fun h647 => ?_)
      · exfalso; omega
      · refine T_aload_n (q := 651) (i := 0) rfl rfl rfl rfl rfl ?_
        refine T_bipush (q := 653) rfl rfl rfl (by decide) ?_
        refine O_count (q := 656) s rfl rfl rfl rfl (by decide) (by rewrite [hf]; exact cnV_9 _ _) rfl (fun M' s => ?_)
        refine T_aload_n (q := 657) (i := 3) rfl rfl rfl rfl rfl ?_
        refine T_iconst (q := 658) rfl rfl rfl ?_
        refine T_iald2 (q := 659) rfl rfl rfl rfl (by decide) (aI1 (by decide)) ((congrFun (s.2.2 191 (by omega) (by omega)) _).trans (hw _ (by decide) (by decide))) ?_
        refine T_icmp_ne (q := 662) (tgt := 709) rfl rfl rfl (by decide) (by omega) (by omega) (fun h659 => ?_) (fun h659 => ?_)
        · exfalso; omega
        · refine T_aload_n (q := 663) (i := 0) rfl rfl rfl rfl rfl ?_
          refine T_bipush (q := 665) rfl rfl rfl (by decide) ?_
          refine O_count (q := 668) s rfl rfl rfl rfl (by decide) (by rewrite [hf]; exact cnV_10 _ _) rfl (fun M' s => ?_)
          refine T_aload_n (q := 669) (i := 3) rfl rfl rfl rfl rfl ?_
          refine T_iconst (q := 670) rfl rfl rfl ?_
          refine T_iald2 (q := 671) rfl rfl rfl rfl (by decide) (aI1 (by decide)) ((congrFun (s.2.2 191 (by omega) (by omega)) _).trans (hw _ (by decide) (by decide))) ?_
          refine T_icmp_ne (q := 674) (tgt := 709) rfl rfl rfl (by decide) (by omega) (by omega) (fun h671 => ?_) (fun h671 => ?_)
          · exfalso; omega
          · refine T_aload_n (q := 675) (i := 0) rfl rfl rfl rfl rfl ?_
            refine T_bipush (q := 677) rfl rfl rfl (by decide) ?_
            refine O_count (q := 680) s rfl rfl rfl rfl (by decide) (by rewrite [hf]; exact cnV_11 _ _) rfl (fun M' s => ?_)
            refine T_aload_n (q := 681) (i := 3) rfl rfl rfl rfl rfl ?_
            refine T_iconst (q := 682) rfl rfl rfl ?_
            refine T_iald2 (q := 683) rfl rfl rfl rfl (by decide) (aI1 (by decide)) ((congrFun (s.2.2 191 (by omega) (by omega)) _).trans (hw _ (by decide) (by decide))) ?_
            refine T_icmp_ne (q := 686) (tgt := 709) rfl rfl rfl (by decide) (by omega) (by omega) (fun h683 => ?_) (fun h683 => ?_)
            · exfalso; omega
            · refine T_aload_n (q := 687) (i := 0) rfl rfl rfl rfl rfl ?_
              refine T_bipush (q := 689) rfl rfl rfl (by decide) ?_
              refine O_count (q := 692) s rfl rfl rfl rfl (by decide) (by rewrite [hf]; exact cnV_16 _ _) rfl (fun M' s => ?_)
              refine T_iload (q := 694) rfl rfl rfl rfl ?_
              refine T_icmp_ne (q := 697) (tgt := 709) rfl rfl rfl (by decide) (by omega) (by omega) (fun h694 => ?_) (fun h694 => ?_)
              · exfalso; omega
              · refine T_aload_n (q := 698) (i := 0) rfl rfl rfl rfl rfl ?_
                refine O_mostDoubted (q := 701) s rfl rfl rfl rfl trivial (by rewrite [hf]; exact rfl) rfl (fun M' s => ?_)
                refine T_iload_n (q := 702) (i := 2) rfl rfl rfl rfl rfl ?_
                refine T_neS (q := 705) (tgt := 709) rfl rfl rfl (by decide) ?_
                refine T_iconst (q := 706) rfl rfl rfl ?_
                refine T_goto (q := 709) (tgt := 710) rfl rfl rfl (by decide) ?_
                refine T_istore (q := 712) rfl rfl rfl rfl ?_
                refine T_iconst (q := 713) rfl rfl rfl ?_
                refine T_istore (q := 715) rfl rfl rfl rfl ?_
                exact J715 l9 l10 l11 l12 l13 l14 l15 l16 l17 3 0 _ rfl (hS.s s) (hA' _ s)
