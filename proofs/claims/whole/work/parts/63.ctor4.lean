def F_ref : Nat → Int32 := (upd (upd (upd (upd (upd (upd (upd (upd (upd (upd (upd (upd (upd (upd (upd (upd (upd (upd (upd (fun _ => 0) 0 10) 1 5) 2 20) 3 1) 5 1) 15 1) 16 2) 17 3) 18 4) 19 5) 20 6) 21 5) 22 5) 23 5) 24 5) 25 5) 26 1) 30 1) 34 1)
def wM (ad : Nat → Nat) (cA : Nat → ClassId) : va_W := [(ad 0, .inr (7, [.ref (ad 1), .int 0, .ref (ad 2), .ref (ad 3), .int 0, .int 0, .int 0])), (ad 1, .inl (cA 0, 5296, .inl F_ref)), (ad 2, .inl (cA 2, 2, .inl (fun _ => 0))), (ad 3, .inl (cA 0, 60, .inl (fun _ => 0)))]
theorem md_deskAt (l : Launch) (sz : Nat) (b d : Int32) : Met l yX7_deskAt (.code yX7_deskAt cX7_deskAt 2 (some .int) :: GT) (rmD 0) (va_Pc [.int b, .int d] (fun U => U.heap.size = sz)) (va_Qi (S := Unit) (fun r _ => r = b + 26 + 4 * d) (fun _ _ => True) (va_A [] sz)) 0 0 (va_A [] sz) := by
  refine Met.ofW (cc := cX7_deskAt) (maxL := 2) (ret := some .int) (by decide +kernel) rfl ?_
  intro p e s m args below meth c s₁ B hml hv
  obtain ⟨rfl, hsz⟩ := hv
  have hlocks := B.notSynchronized
  have hx := B.exec
  have hb := B.bytes
  have hr := B.returns
  subst hsz
  have hl := lv_entry ([.int b, .int d]) (n := 2) (Nat.le_of_ble_eq_true rfl)
  rw [lg_entry_eq]
  generalize (lg_sl ([.int b, .int d]) ++ List.replicate (2 - (lg_sl ([.int b, .int d])).length) Slot.unset).toArray = ls at hl ⊢
  have hl : lv_has ls 2 [(0, .int b), (1, .int d)] := hl
  have hS : va_S (va_A [] s.heap.size) s.heap s.heap [] := va_S.rf
  refine lv_iload_n (x := b) hx hb (by decide +kernel : decode cX7_deskAt 0 = .ok (.iload_n 0, 1)) rfl (lv_at hl 0 rfl) ?_
  refine lv_bipush (v := 26) hx hb (by decide +kernel : decode cX7_deskAt 1 = .ok (.bipush 26, 2)) (by decide) ?_
  refine lv_iadd hx hb (by decide +kernel : decode cX7_deskAt 3 = .ok (.iadd, 1)) ?_
  refine lv_iconst (v := 4) hx hb (by decide +kernel : decode cX7_deskAt 4 = .ok (.iconst 4, 1)) (by decide) ?_
  refine lv_iload_n (x := d) hx hb (by decide +kernel : decode cX7_deskAt 5 = .ok (.iload_n 1, 1)) rfl (lv_at hl 1 rfl) ?_
  refine lv_imul hx hb (by decide +kernel : decode cX7_deskAt 6 = .ok (.imul, 1)) ?_
  refine lv_iadd hx hb (by decide +kernel : decode cX7_deskAt 7 = .ok (.iadd, 1)) ?_
  exact W.iret (v := b + 26 + 4 * d) hx hb hr (fun t ht hW => ⟨⟨_, (), rfl, rfl, trivial⟩, hS.F ht⟩) hS.2.2 (by decide +kernel : decode cX7_deskAt 8 = .ok (.ireturn, 1))
section
variable {p : Program} {l : Launch} {e : Env} {R : Room} {s : State} {m : MethodId} {args : Array Value} {below : List Frame} {meth : Method} {c : Code} {H : Heap} {locs : List Loc} {cells slots : Nat} {Q : State → Prop}
variable {cc : ByteArray} {pc : Nat} {ls : Array Slot} {rest : List Value} {D : va_G} {A : Nat → Prop} {ws : va_W} {H0 : Heap} {nL : Nat} {cA : Nat → ClassId}
theorem c_deskAt (F : CX p s m args meth c RX7 cc nL R D cA A H0) (hW : WB D A H0 ws H locs) {b d v : Int32} (hl : ls.size = nL) (hv : b + 26 + 4 * d = v) (hR : (rmD 0).frames + 1 ≤ R.frames) (hR3 : 8 + (2 + 11) + (rmD 0).locals ≤ R.locals) (hst : (rest.map fun v => v.category).sum ≤ 8) (hcl : cells ≤ R.cells) (hsl : slots ≤ R.slots) (hdg : decode cc pc = .ok (.invokestatic 20, 3))
    (kk : ∀ (H1 : Heap) (locs1 : List Loc), WB D A H0 ws H1 locs1 → W p l e R s m args below meth c H1 locs1 cells slots Q (F0 m (pc + 3) ls (.int v :: rest))) : W p l e R s m args below meth c H locs cells slots Q (F0 m pc ls (.int d :: .int b :: rest)) := by
  obtain ⟨hx, hb, hml, hown, hts, hK, hA0, hR1, hR2⟩ := F
  obtain ⟨hP, hD, hS⟩ := hW
  have hcw := callS_of (own := RX7) (i := 20) (R := R) (y := yX7_deskAt) (b := cX7_deskAt) (mL := 2) (ret := some .int) (d := 0) (args := args) (s := s) (n := 2) hts (GT_at 555 (by decide +kernel) (by decide +kernel)) (GT_at 44 (by decide +kernel) (by decide +kernel)) (GT_at 557 (by decide +kernel) (by decide +kernel)) (GT_at 556 (by decide +kernel) (by decide +kernel)) (by decide +kernel) ⟨hR, hR3⟩
  have hn : ∀ a, va_A [] H.size a → H.size ≤ a := fun a z => by
    rcases z with ⟨k, e2, z⟩ | z
    · cases z
    · exact z
  refine va_calli (va_runS (As := [.int b, .int d]) (rest := rest) ⟨hx, hb, hml, hown, hts⟩ (md_deskAt l H.size b d) hcw ⟨fun a U g mk z => ⟨z.1, z.2⟩, fun U hU hW => ⟨rfl, by show U.heap.size = H.size; rw [hU]⟩⟩ rfl rfl hl rfl (lv_room hst) hdg ⟨hcl, hsl⟩) hS (fun a h z => by have := hn a z; omega) (fun a z => hA0 a (Nat.le_trans hS.1 (hn a z))) (fun r u t H1 locs1 ht hvm hw hB hz hk hS1 => ?_)
  rw [hw, hv]
  exact kk H1 locs1 ⟨hP.kept (fun k x hx2 => hk x.1 (hP k x hx2).lt (fun z => by have := hn _ z; have := (hP k x hx2).lt; omega)), hD, hS1⟩
end
set_option maxRecDepth 100000 in
set_option maxHeartbeats 4000000 in
theorem io_X7_init (l : Launch) (D : va_G) (cA : Nat → ClassId) : IOK l D cA yX7_init cX7_init 2 ({ frames := 2, cells := 3, slots := 5358, locals := 84 }) 7 [.null, .int 0, .null, .null, .int 0, .int 0, .int 0] (fun ad => wM ad cA) := by
  refine IOK.of (by decide +kernel) rfl (by decide) (by decide) (by decide) ?_
  intro p e s m args below meth c A h0 Q ls F hin hl hW fin
  have hls := hl.1
  refine lv_aload_n F.1 F.2.1 (by decide +kernel : decode cX7_init 0 = .ok (.aload_n 0, 1)) rfl (lv_at hl 0 rfl) ?_
  refine c_objI F (GT_at 554 (by decide +kernel) (by decide +kernel)) (GT_at 55 (by decide +kernel) (by decide +kernel)) (GT_at 56 (by decide +kernel) (by decide +kernel)) hls (by decide +kernel : decode cX7_init 1 = .ok (.invokespecial 1, 3)) ?_
  refine lv_aload_n F.1 F.2.1 (by decide +kernel : decode cX7_init 4 = .ok (.aload_n 0, 1)) rfl (lv_at hl 0 rfl) ?_
  refine lv_sipush (v := 5296) F.1 F.2.1 (by decide +kernel : decode cX7_init 5 = .ok (.sipush 5296, 3)) (by decide) ?_
  refine c_newa F (ty := .int) 0 (GT_at 95 (by decide +kernel) (by decide +kernel)) rfl rfl (fun _ h1 h2 => Option.some.inj (h1.symm.trans h2)) (fun _ _ => rfl) hW (N' := 5296) (by decide) (by decide) (by decide) (Nat.le_of_ble_eq_true rfl) (Nat.le_of_ble_eq_true rfl) (by decide +kernel : decode cX7_init 8 = .ok (.newarray .int, 2)) (fun q1 H hW => ?_)
  have hW : WB D A s.heap ([(h0, .inr (7, [.null, .int 0, .null, .null, .int 0, .int 0, .int 0])), (q1, .inl (cA 0, 5296, .inl (fun _ => 0)))] : va_W) H _ := hW
  refine c_putF F hin 7 (by decide) 0 (by decide) (ty := (.array .int)) (GT_at 558 (by decide +kernel) (by decide +kernel)) rfl rfl rfl hW 0 rfl rfl rfl (Nat.le_of_ble_eq_true rfl) (by decide +kernel : decode cX7_init 10 = .ok (.putfield 7, 3)) (fun H locs hW => ?_)
  have hW : WB D A s.heap ([(h0, .inr (7, [.ref q1, .int 0, .null, .null, .int 0, .int 0, .int 0])), (q1, .inl (cA 0, 5296, .inl (fun _ => 0)))] : va_W) H locs := hW
  refine lv_aload_n F.1 F.2.1 (by decide +kernel : decode cX7_init 13 = .ok (.aload_n 0, 1)) rfl (lv_at hl 0 rfl) ?_
  refine lv_iconst (v := 2) F.1 F.2.1 (by decide +kernel : decode cX7_init 14 = .ok (.iconst 2, 1)) (by decide) ?_
  refine c_newa F (ty := .boolean) 2 (GT_at 225 (by decide +kernel) (by decide +kernel)) rfl rfl (fun _ h1 h2 => Option.some.inj (h1.symm.trans h2)) (fun _ _ => rfl) hW (N' := 2) (by decide) (by decide) (by decide) (Nat.le_of_ble_eq_true rfl) (Nat.le_of_ble_eq_true rfl) (by decide +kernel : decode cX7_init 15 = .ok (.newarray .boolean, 2)) (fun q2 H hW => ?_)
  have hW : WB D A s.heap ([(h0, .inr (7, [.ref q1, .int 0, .null, .null, .int 0, .int 0, .int 0])), (q1, .inl (cA 0, 5296, .inl (fun _ => 0))), (q2, .inl (cA 2, 2, .inl (fun _ => 0)))] : va_W) H _ := hW
  refine c_putF F hin 7 (by decide) 2 (by decide) (ty := (.array .boolean)) (GT_at 560 (by decide +kernel) (by decide +kernel)) rfl rfl rfl hW 0 rfl rfl rfl (Nat.le_of_ble_eq_true rfl) (by decide +kernel : decode cX7_init 17 = .ok (.putfield 13, 3)) (fun H locs hW => ?_)
  have hW : WB D A s.heap ([(h0, .inr (7, [.ref q1, .int 0, .ref q2, .null, .int 0, .int 0, .int 0])), (q1, .inl (cA 0, 5296, .inl (fun _ => 0))), (q2, .inl (cA 2, 2, .inl (fun _ => 0)))] : va_W) H locs := hW
  refine lv_aload_n F.1 F.2.1 (by decide +kernel : decode cX7_init 20 = .ok (.aload_n 0, 1)) rfl (lv_at hl 0 rfl) ?_
  refine lv_bipush (v := 60) F.1 F.2.1 (by decide +kernel : decode cX7_init 21 = .ok (.bipush 60, 2)) (by decide) ?_
  refine c_newa F (ty := .int) 0 (GT_at 95 (by decide +kernel) (by decide +kernel)) rfl rfl (fun _ h1 h2 => Option.some.inj (h1.symm.trans h2)) (fun _ _ => rfl) hW (N' := 60) (by decide) (by decide) (by decide) (Nat.le_of_ble_eq_true rfl) (Nat.le_of_ble_eq_true rfl) (by decide +kernel : decode cX7_init 23 = .ok (.newarray .int, 2)) (fun q3 H hW => ?_)
  have hW : WB D A s.heap ([(h0, .inr (7, [.ref q1, .int 0, .ref q2, .null, .int 0, .int 0, .int 0])), (q1, .inl (cA 0, 5296, .inl (fun _ => 0))), (q2, .inl (cA 2, 2, .inl (fun _ => 0))), (q3, .inl (cA 0, 60, .inl (fun _ => 0)))] : va_W) H _ := hW
  refine c_putF F hin 7 (by decide) 3 (by decide) (ty := (.array .int)) (GT_at 561 (by decide +kernel) (by decide +kernel)) rfl rfl rfl hW 0 rfl rfl rfl (Nat.le_of_ble_eq_true rfl) (by decide +kernel : decode cX7_init 25 = .ok (.putfield 17, 3)) (fun H locs hW => ?_)
  have hW : WB D A s.heap ([(h0, .inr (7, [.ref q1, .int 0, .ref q2, .ref q3, .int 0, .int 0, .int 0])), (q1, .inl (cA 0, 5296, .inl (fun _ => 0))), (q2, .inl (cA 2, 2, .inl (fun _ => 0))), (q3, .inl (cA 0, 60, .inl (fun _ => 0)))] : va_W) H locs := hW
  refine lv_aload_n F.1 F.2.1 (by decide +kernel : decode cX7_init 28 = .ok (.aload_n 0, 1)) rfl (lv_at hl 0 rfl) ?_
  refine c_get F 7 (by decide) 0 (by decide) (GT_at 558 (by decide +kernel) (by decide +kernel)) hW 0 rfl rfl (by decide +kernel : decode cX7_init 29 = .ok (.getfield 7, 3)) ?_
  refine lv_iconst (v := 0) F.1 F.2.1 (by decide +kernel : decode cX7_init 32 = .ok (.iconst 0, 1)) (by decide) ?_
  refine lv_bipush (v := 10) F.1 F.2.1 (by decide +kernel : decode cX7_init 33 = .ok (.bipush 10, 2)) (by decide) ?_
  refine c_iast F hW 1 rfl (by unfold vp_in; decide) (by decide +kernel : decode cX7_init 35 = .ok (.iastore, 1)) (fun H locs hW => ?_)
  have hW : WB D A s.heap ([(h0, .inr (7, [.ref q1, .int 0, .ref q2, .ref q3, .int 0, .int 0, .int 0])), (q1, .inl (cA 0, 5296, .inl (upd (fun _ => 0) 0 10))), (q2, .inl (cA 2, 2, .inl (fun _ => 0))), (q3, .inl (cA 0, 60, .inl (fun _ => 0)))] : va_W) H locs := hW
  refine lv_aload_n F.1 F.2.1 (by decide +kernel : decode cX7_init 36 = .ok (.aload_n 0, 1)) rfl (lv_at hl 0 rfl) ?_
  refine c_get F 7 (by decide) 0 (by decide) (GT_at 558 (by decide +kernel) (by decide +kernel)) hW 0 rfl rfl (by decide +kernel : decode cX7_init 37 = .ok (.getfield 7, 3)) ?_
  refine lv_iconst (v := 1) F.1 F.2.1 (by decide +kernel : decode cX7_init 40 = .ok (.iconst 1, 1)) (by decide) ?_
  refine lv_iconst (v := 5) F.1 F.2.1 (by decide +kernel : decode cX7_init 41 = .ok (.iconst 5, 1)) (by decide) ?_
  refine c_iast F hW 1 rfl (by unfold vp_in; decide) (by decide +kernel : decode cX7_init 42 = .ok (.iastore, 1)) (fun H locs hW => ?_)
  have hW : WB D A s.heap ([(h0, .inr (7, [.ref q1, .int 0, .ref q2, .ref q3, .int 0, .int 0, .int 0])), (q1, .inl (cA 0, 5296, .inl (upd (upd (fun _ => 0) 0 10) 1 5))), (q2, .inl (cA 2, 2, .inl (fun _ => 0))), (q3, .inl (cA 0, 60, .inl (fun _ => 0)))] : va_W) H locs := hW
  refine lv_aload_n F.1 F.2.1 (by decide +kernel : decode cX7_init 43 = .ok (.aload_n 0, 1)) rfl (lv_at hl 0 rfl) ?_
  refine c_get F 7 (by decide) 0 (by decide) (GT_at 558 (by decide +kernel) (by decide +kernel)) hW 0 rfl rfl (by decide +kernel : decode cX7_init 44 = .ok (.getfield 7, 3)) ?_
  refine lv_iconst (v := 2) F.1 F.2.1 (by decide +kernel : decode cX7_init 47 = .ok (.iconst 2, 1)) (by decide) ?_
  refine lv_bipush (v := 20) F.1 F.2.1 (by decide +kernel : decode cX7_init 48 = .ok (.bipush 20, 2)) (by decide) ?_
  refine c_iast F hW 1 rfl (by unfold vp_in; decide) (by decide +kernel : decode cX7_init 50 = .ok (.iastore, 1)) (fun H locs hW => ?_)
  have hW : WB D A s.heap ([(h0, .inr (7, [.ref q1, .int 0, .ref q2, .ref q3, .int 0, .int 0, .int 0])), (q1, .inl (cA 0, 5296, .inl (upd (upd (upd (fun _ => 0) 0 10) 1 5) 2 20))), (q2, .inl (cA 2, 2, .inl (fun _ => 0))), (q3, .inl (cA 0, 60, .inl (fun _ => 0)))] : va_W) H locs := hW
  refine lv_aload_n F.1 F.2.1 (by decide +kernel : decode cX7_init 51 = .ok (.aload_n 0, 1)) rfl (lv_at hl 0 rfl) ?_
  refine c_get F 7 (by decide) 0 (by decide) (GT_at 558 (by decide +kernel) (by decide +kernel)) hW 0 rfl rfl (by decide +kernel : decode cX7_init 52 = .ok (.getfield 7, 3)) ?_
  refine lv_iconst (v := 3) F.1 F.2.1 (by decide +kernel : decode cX7_init 55 = .ok (.iconst 3, 1)) (by decide) ?_
  refine lv_iconst (v := 1) F.1 F.2.1 (by decide +kernel : decode cX7_init 56 = .ok (.iconst 1, 1)) (by decide) ?_
  refine c_iast F hW 1 rfl (by unfold vp_in; decide) (by decide +kernel : decode cX7_init 57 = .ok (.iastore, 1)) (fun H locs hW => ?_)
  have hW : WB D A s.heap ([(h0, .inr (7, [.ref q1, .int 0, .ref q2, .ref q3, .int 0, .int 0, .int 0])), (q1, .inl (cA 0, 5296, .inl (upd (upd (upd (upd (fun _ => 0) 0 10) 1 5) 2 20) 3 1))), (q2, .inl (cA 2, 2, .inl (fun _ => 0))), (q3, .inl (cA 0, 60, .inl (fun _ => 0)))] : va_W) H locs := hW
  refine lv_aload_n F.1 F.2.1 (by decide +kernel : decode cX7_init 58 = .ok (.aload_n 0, 1)) rfl (lv_at hl 0 rfl) ?_
  refine c_get F 7 (by decide) 0 (by decide) (GT_at 558 (by decide +kernel) (by decide +kernel)) hW 0 rfl rfl (by decide +kernel : decode cX7_init 59 = .ok (.getfield 7, 3)) ?_
  refine lv_iconst (v := 5) F.1 F.2.1 (by decide +kernel : decode cX7_init 62 = .ok (.iconst 5, 1)) (by decide) ?_
  refine lv_iconst (v := 1) F.1 F.2.1 (by decide +kernel : decode cX7_init 63 = .ok (.iconst 1, 1)) (by decide) ?_
  refine c_iast F hW 1 rfl (by unfold vp_in; decide) (by decide +kernel : decode cX7_init 64 = .ok (.iastore, 1)) (fun H locs hW => ?_)
  have hW : WB D A s.heap ([(h0, .inr (7, [.ref q1, .int 0, .ref q2, .ref q3, .int 0, .int 0, .int 0])), (q1, .inl (cA 0, 5296, .inl (upd (upd (upd (upd (upd (fun _ => 0) 0 10) 1 5) 2 20) 3 1) 5 1))), (q2, .inl (cA 2, 2, .inl (fun _ => 0))), (q3, .inl (cA 0, 60, .inl (fun _ => 0)))] : va_W) H locs := hW
  refine lv_iconst (v := 0) F.1 F.2.1 (by decide +kernel : decode cX7_init 65 = .ok (.iconst 0, 1)) (by decide) ?_
  refine lv_istore_n (lv' := [(1, .int 0), (0, .ref h0)]) F.1 F.2.1 (by decide +kernel : decode cX7_init 66 = .ok (.istore_n 1, 1)) rfl hl (by decide) rfl (fun ls hl => ?_)
  have hls := hl.1
  refine lv_iload_n (x := 0) F.1 F.2.1 (by decide +kernel : decode cX7_init 67 = .ok (.iload_n 1, 1)) rfl (lv_at hl 0 rfl) ?_
  refine lv_bipush (v := 6) F.1 F.2.1 (by decide +kernel : decode cX7_init 68 = .ok (.bipush 6, 2)) (by decide) ?_
  refine lv_icmp_ge (tgt := 91) F.1 F.2.1 (by decide +kernel : decode cX7_init 70 = .ok (.if_icmp .ge 21, 3)) (by decide) (fun hc => ?_) (fun hc => ?_)
  · exact absurd hc (by decide)
  refine lv_aload_n F.1 F.2.1 (by decide +kernel : decode cX7_init 73 = .ok (.aload_n 0, 1)) rfl (lv_at hl 1 rfl) ?_
  refine c_get F 7 (by decide) 0 (by decide) (GT_at 558 (by decide +kernel) (by decide +kernel)) hW 0 rfl rfl (by decide +kernel : decode cX7_init 74 = .ok (.getfield 7, 3)) ?_
  refine lv_bipush (v := 15) F.1 F.2.1 (by decide +kernel : decode cX7_init 77 = .ok (.bipush 15, 2)) (by decide) ?_
  refine lv_iload_n (x := 0) F.1 F.2.1 (by decide +kernel : decode cX7_init 79 = .ok (.iload_n 1, 1)) rfl (lv_at hl 0 rfl) ?_
  refine lv_iadd F.1 F.2.1 (by decide +kernel : decode cX7_init 80 = .ok (.iadd, 1)) ?_
  refine lv_topi (fun x ex => ?_)
  have ex : x = 15 := ex.trans (by decide)
  subst ex
  refine lv_iload_n (x := 0) F.1 F.2.1 (by decide +kernel : decode cX7_init 81 = .ok (.iload_n 1, 1)) rfl (lv_at hl 0 rfl) ?_
  refine lv_iconst (v := 1) F.1 F.2.1 (by decide +kernel : decode cX7_init 82 = .ok (.iconst 1, 1)) (by decide) ?_
  refine lv_iadd F.1 F.2.1 (by decide +kernel : decode cX7_init 83 = .ok (.iadd, 1)) ?_
  refine lv_topi (fun x ex => ?_)
  have ex : x = 1 := ex.trans (by decide)
  subst ex
  refine c_iast F hW 1 rfl (by unfold vp_in; decide) (by decide +kernel : decode cX7_init 84 = .ok (.iastore, 1)) (fun H locs hW => ?_)
  have hW : WB D A s.heap ([(h0, .inr (7, [.ref q1, .int 0, .ref q2, .ref q3, .int 0, .int 0, .int 0])), (q1, .inl (cA 0, 5296, .inl (upd (upd (upd (upd (upd (upd (fun _ => 0) 0 10) 1 5) 2 20) 3 1) 5 1) 15 1))), (q2, .inl (cA 2, 2, .inl (fun _ => 0))), (q3, .inl (cA 0, 60, .inl (fun _ => 0)))] : va_W) H locs := hW
  refine lv_iinc (v := 1) (lv' := [(1, .int 1), (0, .ref h0)]) F.1 F.2.1 (by decide +kernel : decode cX7_init 85 = .ok (.iinc 1 1, 3)) hl (k := 0) rfl (by decide) (by decide) rfl (fun ls hl => ?_)
  have hls := hl.1
  refine lv_goto (tgt := 67) F.1 F.2.1 (by decide +kernel : decode cX7_init 88 = .ok (.goto (-21), 3)) (by decide) ?_
  refine lv_iload_n (x := 1) F.1 F.2.1 (by decide +kernel : decode cX7_init 67 = .ok (.iload_n 1, 1)) rfl (lv_at hl 0 rfl) ?_
  refine lv_bipush (v := 6) F.1 F.2.1 (by decide +kernel : decode cX7_init 68 = .ok (.bipush 6, 2)) (by decide) ?_
  refine lv_icmp_ge (tgt := 91) F.1 F.2.1 (by decide +kernel : decode cX7_init 70 = .ok (.if_icmp .ge 21, 3)) (by decide) (fun hc => ?_) (fun hc => ?_)
  · exact absurd hc (by decide)
  refine lv_aload_n F.1 F.2.1 (by decide +kernel : decode cX7_init 73 = .ok (.aload_n 0, 1)) rfl (lv_at hl 1 rfl) ?_
  refine c_get F 7 (by decide) 0 (by decide) (GT_at 558 (by decide +kernel) (by decide +kernel)) hW 0 rfl rfl (by decide +kernel : decode cX7_init 74 = .ok (.getfield 7, 3)) ?_
  refine lv_bipush (v := 15) F.1 F.2.1 (by decide +kernel : decode cX7_init 77 = .ok (.bipush 15, 2)) (by decide) ?_
  refine lv_iload_n (x := 1) F.1 F.2.1 (by decide +kernel : decode cX7_init 79 = .ok (.iload_n 1, 1)) rfl (lv_at hl 0 rfl) ?_
  refine lv_iadd F.1 F.2.1 (by decide +kernel : decode cX7_init 80 = .ok (.iadd, 1)) ?_
  refine lv_topi (fun x ex => ?_)
  have ex : x = 16 := ex.trans (by decide)
  subst ex
  refine lv_iload_n (x := 1) F.1 F.2.1 (by decide +kernel : decode cX7_init 81 = .ok (.iload_n 1, 1)) rfl (lv_at hl 0 rfl) ?_
  refine lv_iconst (v := 1) F.1 F.2.1 (by decide +kernel : decode cX7_init 82 = .ok (.iconst 1, 1)) (by decide) ?_
  refine lv_iadd F.1 F.2.1 (by decide +kernel : decode cX7_init 83 = .ok (.iadd, 1)) ?_
  refine lv_topi (fun x ex => ?_)
  have ex : x = 2 := ex.trans (by decide)
  subst ex
  refine c_iast F hW 1 rfl (by unfold vp_in; decide) (by decide +kernel : decode cX7_init 84 = .ok (.iastore, 1)) (fun H locs hW => ?_)
  have hW : WB D A s.heap ([(h0, .inr (7, [.ref q1, .int 0, .ref q2, .ref q3, .int 0, .int 0, .int 0])), (q1, .inl (cA 0, 5296, .inl (upd (upd (upd (upd (upd (upd (upd (fun _ => 0) 0 10) 1 5) 2 20) 3 1) 5 1) 15 1) 16 2))), (q2, .inl (cA 2, 2, .inl (fun _ => 0))), (q3, .inl (cA 0, 60, .inl (fun _ => 0)))] : va_W) H locs := hW
  refine lv_iinc (v := 2) (lv' := [(1, .int 2), (0, .ref h0)]) F.1 F.2.1 (by decide +kernel : decode cX7_init 85 = .ok (.iinc 1 1, 3)) hl (k := 0) rfl (by decide) (by decide) rfl (fun ls hl => ?_)
  have hls := hl.1
  refine lv_goto (tgt := 67) F.1 F.2.1 (by decide +kernel : decode cX7_init 88 = .ok (.goto (-21), 3)) (by decide) ?_
  refine lv_iload_n (x := 2) F.1 F.2.1 (by decide +kernel : decode cX7_init 67 = .ok (.iload_n 1, 1)) rfl (lv_at hl 0 rfl) ?_
  refine lv_bipush (v := 6) F.1 F.2.1 (by decide +kernel : decode cX7_init 68 = .ok (.bipush 6, 2)) (by decide) ?_
  refine lv_icmp_ge (tgt := 91) F.1 F.2.1 (by decide +kernel : decode cX7_init 70 = .ok (.if_icmp .ge 21, 3)) (by decide) (fun hc => ?_) (fun hc => ?_)
  · exact absurd hc (by decide)
  refine lv_aload_n F.1 F.2.1 (by decide +kernel : decode cX7_init 73 = .ok (.aload_n 0, 1)) rfl (lv_at hl 1 rfl) ?_
  refine c_get F 7 (by decide) 0 (by decide) (GT_at 558 (by decide +kernel) (by decide +kernel)) hW 0 rfl rfl (by decide +kernel : decode cX7_init 74 = .ok (.getfield 7, 3)) ?_
  refine lv_bipush (v := 15) F.1 F.2.1 (by decide +kernel : decode cX7_init 77 = .ok (.bipush 15, 2)) (by decide) ?_
  refine lv_iload_n (x := 2) F.1 F.2.1 (by decide +kernel : decode cX7_init 79 = .ok (.iload_n 1, 1)) rfl (lv_at hl 0 rfl) ?_
  refine lv_iadd F.1 F.2.1 (by decide +kernel : decode cX7_init 80 = .ok (.iadd, 1)) ?_
  refine lv_topi (fun x ex => ?_)
  have ex : x = 17 := ex.trans (by decide)
  subst ex
  refine lv_iload_n (x := 2) F.1 F.2.1 (by decide +kernel : decode cX7_init 81 = .ok (.iload_n 1, 1)) rfl (lv_at hl 0 rfl) ?_
  refine lv_iconst (v := 1) F.1 F.2.1 (by decide +kernel : decode cX7_init 82 = .ok (.iconst 1, 1)) (by decide) ?_
  refine lv_iadd F.1 F.2.1 (by decide +kernel : decode cX7_init 83 = .ok (.iadd, 1)) ?_
  refine lv_topi (fun x ex => ?_)
  have ex : x = 3 := ex.trans (by decide)
  subst ex
  refine c_iast F hW 1 rfl (by unfold vp_in; decide) (by decide +kernel : decode cX7_init 84 = .ok (.iastore, 1)) (fun H locs hW => ?_)
  have hW : WB D A s.heap ([(h0, .inr (7, [.ref q1, .int 0, .ref q2, .ref q3, .int 0, .int 0, .int 0])), (q1, .inl (cA 0, 5296, .inl (upd (upd (upd (upd (upd (upd (upd (upd (fun _ => 0) 0 10) 1 5) 2 20) 3 1) 5 1) 15 1) 16 2) 17 3))), (q2, .inl (cA 2, 2, .inl (fun _ => 0))), (q3, .inl (cA 0, 60, .inl (fun _ => 0)))] : va_W) H locs := hW
  refine lv_iinc (v := 3) (lv' := [(1, .int 3), (0, .ref h0)]) F.1 F.2.1 (by decide +kernel : decode cX7_init 85 = .ok (.iinc 1 1, 3)) hl (k := 0) rfl (by decide) (by decide) rfl (fun ls hl => ?_)
  have hls := hl.1
  refine lv_goto (tgt := 67) F.1 F.2.1 (by decide +kernel : decode cX7_init 88 = .ok (.goto (-21), 3)) (by decide) ?_
  refine lv_iload_n (x := 3) F.1 F.2.1 (by decide +kernel : decode cX7_init 67 = .ok (.iload_n 1, 1)) rfl (lv_at hl 0 rfl) ?_
  refine lv_bipush (v := 6) F.1 F.2.1 (by decide +kernel : decode cX7_init 68 = .ok (.bipush 6, 2)) (by decide) ?_
  refine lv_icmp_ge (tgt := 91) F.1 F.2.1 (by decide +kernel : decode cX7_init 70 = .ok (.if_icmp .ge 21, 3)) (by decide) (fun hc => ?_) (fun hc => ?_)
  · exact absurd hc (by decide)
  refine lv_aload_n F.1 F.2.1 (by decide +kernel : decode cX7_init 73 = .ok (.aload_n 0, 1)) rfl (lv_at hl 1 rfl) ?_
  refine c_get F 7 (by decide) 0 (by decide) (GT_at 558 (by decide +kernel) (by decide +kernel)) hW 0 rfl rfl (by decide +kernel : decode cX7_init 74 = .ok (.getfield 7, 3)) ?_
  refine lv_bipush (v := 15) F.1 F.2.1 (by decide +kernel : decode cX7_init 77 = .ok (.bipush 15, 2)) (by decide) ?_
  refine lv_iload_n (x := 3) F.1 F.2.1 (by decide +kernel : decode cX7_init 79 = .ok (.iload_n 1, 1)) rfl (lv_at hl 0 rfl) ?_
  refine lv_iadd F.1 F.2.1 (by decide +kernel : decode cX7_init 80 = .ok (.iadd, 1)) ?_
  refine lv_topi (fun x ex => ?_)
  have ex : x = 18 := ex.trans (by decide)
  subst ex
  refine lv_iload_n (x := 3) F.1 F.2.1 (by decide +kernel : decode cX7_init 81 = .ok (.iload_n 1, 1)) rfl (lv_at hl 0 rfl) ?_
  refine lv_iconst (v := 1) F.1 F.2.1 (by decide +kernel : decode cX7_init 82 = .ok (.iconst 1, 1)) (by decide) ?_
  refine lv_iadd F.1 F.2.1 (by decide +kernel : decode cX7_init 83 = .ok (.iadd, 1)) ?_
  refine lv_topi (fun x ex => ?_)
  have ex : x = 4 := ex.trans (by decide)
  subst ex
  refine c_iast F hW 1 rfl (by unfold vp_in; decide) (by decide +kernel : decode cX7_init 84 = .ok (.iastore, 1)) (fun H locs hW => ?_)
  have hW : WB D A s.heap ([(h0, .inr (7, [.ref q1, .int 0, .ref q2, .ref q3, .int 0, .int 0, .int 0])), (q1, .inl (cA 0, 5296, .inl (upd (upd (upd (upd (upd (upd (upd (upd (upd (fun _ => 0) 0 10) 1 5) 2 20) 3 1) 5 1) 15 1) 16 2) 17 3) 18 4))), (q2, .inl (cA 2, 2, .inl (fun _ => 0))), (q3, .inl (cA 0, 60, .inl (fun _ => 0)))] : va_W) H locs := hW
  refine lv_iinc (v := 4) (lv' := [(1, .int 4), (0, .ref h0)]) F.1 F.2.1 (by decide +kernel : decode cX7_init 85 = .ok (.iinc 1 1, 3)) hl (k := 0) rfl (by decide) (by decide) rfl (fun ls hl => ?_)
  have hls := hl.1
  refine lv_goto (tgt := 67) F.1 F.2.1 (by decide +kernel : decode cX7_init 88 = .ok (.goto (-21), 3)) (by decide) ?_
  refine lv_iload_n (x := 4) F.1 F.2.1 (by decide +kernel : decode cX7_init 67 = .ok (.iload_n 1, 1)) rfl (lv_at hl 0 rfl) ?_
  refine lv_bipush (v := 6) F.1 F.2.1 (by decide +kernel : decode cX7_init 68 = .ok (.bipush 6, 2)) (by decide) ?_
  refine lv_icmp_ge (tgt := 91) F.1 F.2.1 (by decide +kernel : decode cX7_init 70 = .ok (.if_icmp .ge 21, 3)) (by decide) (fun hc => ?_) (fun hc => ?_)
  · exact absurd hc (by decide)
  refine lv_aload_n F.1 F.2.1 (by decide +kernel : decode cX7_init 73 = .ok (.aload_n 0, 1)) rfl (lv_at hl 1 rfl) ?_
  refine c_get F 7 (by decide) 0 (by decide) (GT_at 558 (by decide +kernel) (by decide +kernel)) hW 0 rfl rfl (by decide +kernel : decode cX7_init 74 = .ok (.getfield 7, 3)) ?_
  refine lv_bipush (v := 15) F.1 F.2.1 (by decide +kernel : decode cX7_init 77 = .ok (.bipush 15, 2)) (by decide) ?_
  refine lv_iload_n (x := 4) F.1 F.2.1 (by decide +kernel : decode cX7_init 79 = .ok (.iload_n 1, 1)) rfl (lv_at hl 0 rfl) ?_
  refine lv_iadd F.1 F.2.1 (by decide +kernel : decode cX7_init 80 = .ok (.iadd, 1)) ?_
  refine lv_topi (fun x ex => ?_)
  have ex : x = 19 := ex.trans (by decide)
  subst ex
  refine lv_iload_n (x := 4) F.1 F.2.1 (by decide +kernel : decode cX7_init 81 = .ok (.iload_n 1, 1)) rfl (lv_at hl 0 rfl) ?_
  refine lv_iconst (v := 1) F.1 F.2.1 (by decide +kernel : decode cX7_init 82 = .ok (.iconst 1, 1)) (by decide) ?_
  refine lv_iadd F.1 F.2.1 (by decide +kernel : decode cX7_init 83 = .ok (.iadd, 1)) ?_
  refine lv_topi (fun x ex => ?_)
  have ex : x = 5 := ex.trans (by decide)
  subst ex
  refine c_iast F hW 1 rfl (by unfold vp_in; decide) (by decide +kernel : decode cX7_init 84 = .ok (.iastore, 1)) (fun H locs hW => ?_)
  have hW : WB D A s.heap ([(h0, .inr (7, [.ref q1, .int 0, .ref q2, .ref q3, .int 0, .int 0, .int 0])), (q1, .inl (cA 0, 5296, .inl (upd (upd (upd (upd (upd (upd (upd (upd (upd (upd (fun _ => 0) 0 10) 1 5) 2 20) 3 1) 5 1) 15 1) 16 2) 17 3) 18 4) 19 5))), (q2, .inl (cA 2, 2, .inl (fun _ => 0))), (q3, .inl (cA 0, 60, .inl (fun _ => 0)))] : va_W) H locs := hW
  refine lv_iinc (v := 5) (lv' := [(1, .int 5), (0, .ref h0)]) F.1 F.2.1 (by decide +kernel : decode cX7_init 85 = .ok (.iinc 1 1, 3)) hl (k := 0) rfl (by decide) (by decide) rfl (fun ls hl => ?_)
  have hls := hl.1
  refine lv_goto (tgt := 67) F.1 F.2.1 (by decide +kernel : decode cX7_init 88 = .ok (.goto (-21), 3)) (by decide) ?_
  refine lv_iload_n (x := 5) F.1 F.2.1 (by decide +kernel : decode cX7_init 67 = .ok (.iload_n 1, 1)) rfl (lv_at hl 0 rfl) ?_
  refine lv_bipush (v := 6) F.1 F.2.1 (by decide +kernel : decode cX7_init 68 = .ok (.bipush 6, 2)) (by decide) ?_
  refine lv_icmp_ge (tgt := 91) F.1 F.2.1 (by decide +kernel : decode cX7_init 70 = .ok (.if_icmp .ge 21, 3)) (by decide) (fun hc => ?_) (fun hc => ?_)
  · exact absurd hc (by decide)
  refine lv_aload_n F.1 F.2.1 (by decide +kernel : decode cX7_init 73 = .ok (.aload_n 0, 1)) rfl (lv_at hl 1 rfl) ?_
  refine c_get F 7 (by decide) 0 (by decide) (GT_at 558 (by decide +kernel) (by decide +kernel)) hW 0 rfl rfl (by decide +kernel : decode cX7_init 74 = .ok (.getfield 7, 3)) ?_
  refine lv_bipush (v := 15) F.1 F.2.1 (by decide +kernel : decode cX7_init 77 = .ok (.bipush 15, 2)) (by decide) ?_
  refine lv_iload_n (x := 5) F.1 F.2.1 (by decide +kernel : decode cX7_init 79 = .ok (.iload_n 1, 1)) rfl (lv_at hl 0 rfl) ?_
  refine lv_iadd F.1 F.2.1 (by decide +kernel : decode cX7_init 80 = .ok (.iadd, 1)) ?_
  refine lv_topi (fun x ex => ?_)
  have ex : x = 20 := ex.trans (by decide)
  subst ex
  refine lv_iload_n (x := 5) F.1 F.2.1 (by decide +kernel : decode cX7_init 81 = .ok (.iload_n 1, 1)) rfl (lv_at hl 0 rfl) ?_
  refine lv_iconst (v := 1) F.1 F.2.1 (by decide +kernel : decode cX7_init 82 = .ok (.iconst 1, 1)) (by decide) ?_
  refine lv_iadd F.1 F.2.1 (by decide +kernel : decode cX7_init 83 = .ok (.iadd, 1)) ?_
  refine lv_topi (fun x ex => ?_)
  have ex : x = 6 := ex.trans (by decide)
  subst ex
  refine c_iast F hW 1 rfl (by unfold vp_in; decide) (by decide +kernel : decode cX7_init 84 = .ok (.iastore, 1)) (fun H locs hW => ?_)
  have hW : WB D A s.heap ([(h0, .inr (7, [.ref q1, .int 0, .ref q2, .ref q3, .int 0, .int 0, .int 0])), (q1, .inl (cA 0, 5296, .inl (upd (upd (upd (upd (upd (upd (upd (upd (upd (upd (upd (fun _ => 0) 0 10) 1 5) 2 20) 3 1) 5 1) 15 1) 16 2) 17 3) 18 4) 19 5) 20 6))), (q2, .inl (cA 2, 2, .inl (fun _ => 0))), (q3, .inl (cA 0, 60, .inl (fun _ => 0)))] : va_W) H locs := hW
  refine lv_iinc (v := 6) (lv' := [(1, .int 6), (0, .ref h0)]) F.1 F.2.1 (by decide +kernel : decode cX7_init 85 = .ok (.iinc 1 1, 3)) hl (k := 0) rfl (by decide) (by decide) rfl (fun ls hl => ?_)
  have hls := hl.1
  refine lv_goto (tgt := 67) F.1 F.2.1 (by decide +kernel : decode cX7_init 88 = .ok (.goto (-21), 3)) (by decide) ?_
  refine lv_iload_n (x := 6) F.1 F.2.1 (by decide +kernel : decode cX7_init 67 = .ok (.iload_n 1, 1)) rfl (lv_at hl 0 rfl) ?_
  refine lv_bipush (v := 6) F.1 F.2.1 (by decide +kernel : decode cX7_init 68 = .ok (.bipush 6, 2)) (by decide) ?_
  refine lv_icmp_ge (tgt := 91) F.1 F.2.1 (by decide +kernel : decode cX7_init 70 = .ok (.if_icmp .ge 21, 3)) (by decide) (fun hc => ?_) (fun hc => ?_)
  rotate_left
  · exact absurd (by decide) hc
  refine lv_iconst (v := 0) F.1 F.2.1 (by decide +kernel : decode cX7_init 91 = .ok (.iconst 0, 1)) (by decide) ?_
  refine lv_istore_n (lv' := [(1, .int 0), (0, .ref h0)]) F.1 F.2.1 (by decide +kernel : decode cX7_init 92 = .ok (.istore_n 1, 1)) rfl hl (by decide) rfl (fun ls hl => ?_)
  have hls := hl.1
  refine lv_iload_n (x := 0) F.1 F.2.1 (by decide +kernel : decode cX7_init 93 = .ok (.iload_n 1, 1)) rfl (lv_at hl 0 rfl) ?_
  refine lv_iconst (v := 5) F.1 F.2.1 (by decide +kernel : decode cX7_init 94 = .ok (.iconst 5, 1)) (by decide) ?_
  refine lv_icmp_ge (tgt := 114) F.1 F.2.1 (by decide +kernel : decode cX7_init 95 = .ok (.if_icmp .ge 19, 3)) (by decide) (fun hc => ?_) (fun hc => ?_)
  · exact absurd hc (by decide)
  refine lv_aload_n F.1 F.2.1 (by decide +kernel : decode cX7_init 98 = .ok (.aload_n 0, 1)) rfl (lv_at hl 1 rfl) ?_
  refine c_get F 7 (by decide) 0 (by decide) (GT_at 558 (by decide +kernel) (by decide +kernel)) hW 0 rfl rfl (by decide +kernel : decode cX7_init 99 = .ok (.getfield 7, 3)) ?_
  refine lv_bipush (v := 21) F.1 F.2.1 (by decide +kernel : decode cX7_init 102 = .ok (.bipush 21, 2)) (by decide) ?_
  refine lv_iload_n (x := 0) F.1 F.2.1 (by decide +kernel : decode cX7_init 104 = .ok (.iload_n 1, 1)) rfl (lv_at hl 0 rfl) ?_
  refine lv_iadd F.1 F.2.1 (by decide +kernel : decode cX7_init 105 = .ok (.iadd, 1)) ?_
  refine lv_topi (fun x ex => ?_)
  have ex : x = 21 := ex.trans (by decide)
  subst ex
  refine lv_iconst (v := 5) F.1 F.2.1 (by decide +kernel : decode cX7_init 106 = .ok (.iconst 5, 1)) (by decide) ?_
  refine c_iast F hW 1 rfl (by unfold vp_in; decide) (by decide +kernel : decode cX7_init 107 = .ok (.iastore, 1)) (fun H locs hW => ?_)
  have hW : WB D A s.heap ([(h0, .inr (7, [.ref q1, .int 0, .ref q2, .ref q3, .int 0, .int 0, .int 0])), (q1, .inl (cA 0, 5296, .inl (upd (upd (upd (upd (upd (upd (upd (upd (upd (upd (upd (upd (fun _ => 0) 0 10) 1 5) 2 20) 3 1) 5 1) 15 1) 16 2) 17 3) 18 4) 19 5) 20 6) 21 5))), (q2, .inl (cA 2, 2, .inl (fun _ => 0))), (q3, .inl (cA 0, 60, .inl (fun _ => 0)))] : va_W) H locs := hW
  refine lv_iinc (v := 1) (lv' := [(1, .int 1), (0, .ref h0)]) F.1 F.2.1 (by decide +kernel : decode cX7_init 108 = .ok (.iinc 1 1, 3)) hl (k := 0) rfl (by decide) (by decide) rfl (fun ls hl => ?_)
  have hls := hl.1
  refine lv_goto (tgt := 93) F.1 F.2.1 (by decide +kernel : decode cX7_init 111 = .ok (.goto (-18), 3)) (by decide) ?_
  refine lv_iload_n (x := 1) F.1 F.2.1 (by decide +kernel : decode cX7_init 93 = .ok (.iload_n 1, 1)) rfl (lv_at hl 0 rfl) ?_
  refine lv_iconst (v := 5) F.1 F.2.1 (by decide +kernel : decode cX7_init 94 = .ok (.iconst 5, 1)) (by decide) ?_
  refine lv_icmp_ge (tgt := 114) F.1 F.2.1 (by decide +kernel : decode cX7_init 95 = .ok (.if_icmp .ge 19, 3)) (by decide) (fun hc => ?_) (fun hc => ?_)
  · exact absurd hc (by decide)
  refine lv_aload_n F.1 F.2.1 (by decide +kernel : decode cX7_init 98 = .ok (.aload_n 0, 1)) rfl (lv_at hl 1 rfl) ?_
  refine c_get F 7 (by decide) 0 (by decide) (GT_at 558 (by decide +kernel) (by decide +kernel)) hW 0 rfl rfl (by decide +kernel : decode cX7_init 99 = .ok (.getfield 7, 3)) ?_
  refine lv_bipush (v := 21) F.1 F.2.1 (by decide +kernel : decode cX7_init 102 = .ok (.bipush 21, 2)) (by decide) ?_
  refine lv_iload_n (x := 1) F.1 F.2.1 (by decide +kernel : decode cX7_init 104 = .ok (.iload_n 1, 1)) rfl (lv_at hl 0 rfl) ?_
  refine lv_iadd F.1 F.2.1 (by decide +kernel : decode cX7_init 105 = .ok (.iadd, 1)) ?_
  refine lv_topi (fun x ex => ?_)
  have ex : x = 22 := ex.trans (by decide)
  subst ex
  refine lv_iconst (v := 5) F.1 F.2.1 (by decide +kernel : decode cX7_init 106 = .ok (.iconst 5, 1)) (by decide) ?_
  refine c_iast F hW 1 rfl (by unfold vp_in; decide) (by decide +kernel : decode cX7_init 107 = .ok (.iastore, 1)) (fun H locs hW => ?_)
  have hW : WB D A s.heap ([(h0, .inr (7, [.ref q1, .int 0, .ref q2, .ref q3, .int 0, .int 0, .int 0])), (q1, .inl (cA 0, 5296, .inl (upd (upd (upd (upd (upd (upd (upd (upd (upd (upd (upd (upd (upd (fun _ => 0) 0 10) 1 5) 2 20) 3 1) 5 1) 15 1) 16 2) 17 3) 18 4) 19 5) 20 6) 21 5) 22 5))), (q2, .inl (cA 2, 2, .inl (fun _ => 0))), (q3, .inl (cA 0, 60, .inl (fun _ => 0)))] : va_W) H locs := hW
  refine lv_iinc (v := 2) (lv' := [(1, .int 2), (0, .ref h0)]) F.1 F.2.1 (by decide +kernel : decode cX7_init 108 = .ok (.iinc 1 1, 3)) hl (k := 0) rfl (by decide) (by decide) rfl (fun ls hl => ?_)
  have hls := hl.1
  refine lv_goto (tgt := 93) F.1 F.2.1 (by decide +kernel : decode cX7_init 111 = .ok (.goto (-18), 3)) (by decide) ?_
  refine lv_iload_n (x := 2) F.1 F.2.1 (by decide +kernel : decode cX7_init 93 = .ok (.iload_n 1, 1)) rfl (lv_at hl 0 rfl) ?_
  refine lv_iconst (v := 5) F.1 F.2.1 (by decide +kernel : decode cX7_init 94 = .ok (.iconst 5, 1)) (by decide) ?_
  refine lv_icmp_ge (tgt := 114) F.1 F.2.1 (by decide +kernel : decode cX7_init 95 = .ok (.if_icmp .ge 19, 3)) (by decide) (fun hc => ?_) (fun hc => ?_)
  · exact absurd hc (by decide)
  refine lv_aload_n F.1 F.2.1 (by decide +kernel : decode cX7_init 98 = .ok (.aload_n 0, 1)) rfl (lv_at hl 1 rfl) ?_
  refine c_get F 7 (by decide) 0 (by decide) (GT_at 558 (by decide +kernel) (by decide +kernel)) hW 0 rfl rfl (by decide +kernel : decode cX7_init 99 = .ok (.getfield 7, 3)) ?_
  refine lv_bipush (v := 21) F.1 F.2.1 (by decide +kernel : decode cX7_init 102 = .ok (.bipush 21, 2)) (by decide) ?_
  refine lv_iload_n (x := 2) F.1 F.2.1 (by decide +kernel : decode cX7_init 104 = .ok (.iload_n 1, 1)) rfl (lv_at hl 0 rfl) ?_
  refine lv_iadd F.1 F.2.1 (by decide +kernel : decode cX7_init 105 = .ok (.iadd, 1)) ?_
  refine lv_topi (fun x ex => ?_)
  have ex : x = 23 := ex.trans (by decide)
  subst ex
  refine lv_iconst (v := 5) F.1 F.2.1 (by decide +kernel : decode cX7_init 106 = .ok (.iconst 5, 1)) (by decide) ?_
  refine c_iast F hW 1 rfl (by unfold vp_in; decide) (by decide +kernel : decode cX7_init 107 = .ok (.iastore, 1)) (fun H locs hW => ?_)
  have hW : WB D A s.heap ([(h0, .inr (7, [.ref q1, .int 0, .ref q2, .ref q3, .int 0, .int 0, .int 0])), (q1, .inl (cA 0, 5296, .inl (upd (upd (upd (upd (upd (upd (upd (upd (upd (upd (upd (upd (upd (upd (fun _ => 0) 0 10) 1 5) 2 20) 3 1) 5 1) 15 1) 16 2) 17 3) 18 4) 19 5) 20 6) 21 5) 22 5) 23 5))), (q2, .inl (cA 2, 2, .inl (fun _ => 0))), (q3, .inl (cA 0, 60, .inl (fun _ => 0)))] : va_W) H locs := hW
  refine lv_iinc (v := 3) (lv' := [(1, .int 3), (0, .ref h0)]) F.1 F.2.1 (by decide +kernel : decode cX7_init 108 = .ok (.iinc 1 1, 3)) hl (k := 0) rfl (by decide) (by decide) rfl (fun ls hl => ?_)
  have hls := hl.1
  refine lv_goto (tgt := 93) F.1 F.2.1 (by decide +kernel : decode cX7_init 111 = .ok (.goto (-18), 3)) (by decide) ?_
  refine lv_iload_n (x := 3) F.1 F.2.1 (by decide +kernel : decode cX7_init 93 = .ok (.iload_n 1, 1)) rfl (lv_at hl 0 rfl) ?_
  refine lv_iconst (v := 5) F.1 F.2.1 (by decide +kernel : decode cX7_init 94 = .ok (.iconst 5, 1)) (by decide) ?_
  refine lv_icmp_ge (tgt := 114) F.1 F.2.1 (by decide +kernel : decode cX7_init 95 = .ok (.if_icmp .ge 19, 3)) (by decide) (fun hc => ?_) (fun hc => ?_)
  · exact absurd hc (by decide)
  refine lv_aload_n F.1 F.2.1 (by decide +kernel : decode cX7_init 98 = .ok (.aload_n 0, 1)) rfl (lv_at hl 1 rfl) ?_
  refine c_get F 7 (by decide) 0 (by decide) (GT_at 558 (by decide +kernel) (by decide +kernel)) hW 0 rfl rfl (by decide +kernel : decode cX7_init 99 = .ok (.getfield 7, 3)) ?_
  refine lv_bipush (v := 21) F.1 F.2.1 (by decide +kernel : decode cX7_init 102 = .ok (.bipush 21, 2)) (by decide) ?_
  refine lv_iload_n (x := 3) F.1 F.2.1 (by decide +kernel : decode cX7_init 104 = .ok (.iload_n 1, 1)) rfl (lv_at hl 0 rfl) ?_
  refine lv_iadd F.1 F.2.1 (by decide +kernel : decode cX7_init 105 = .ok (.iadd, 1)) ?_
  refine lv_topi (fun x ex => ?_)
  have ex : x = 24 := ex.trans (by decide)
  subst ex
  refine lv_iconst (v := 5) F.1 F.2.1 (by decide +kernel : decode cX7_init 106 = .ok (.iconst 5, 1)) (by decide) ?_
  refine c_iast F hW 1 rfl (by unfold vp_in; decide) (by decide +kernel : decode cX7_init 107 = .ok (.iastore, 1)) (fun H locs hW => ?_)
  have hW : WB D A s.heap ([(h0, .inr (7, [.ref q1, .int 0, .ref q2, .ref q3, .int 0, .int 0, .int 0])), (q1, .inl (cA 0, 5296, .inl (upd (upd (upd (upd (upd (upd (upd (upd (upd (upd (upd (upd (upd (upd (upd (fun _ => 0) 0 10) 1 5) 2 20) 3 1) 5 1) 15 1) 16 2) 17 3) 18 4) 19 5) 20 6) 21 5) 22 5) 23 5) 24 5))), (q2, .inl (cA 2, 2, .inl (fun _ => 0))), (q3, .inl (cA 0, 60, .inl (fun _ => 0)))] : va_W) H locs := hW
  refine lv_iinc (v := 4) (lv' := [(1, .int 4), (0, .ref h0)]) F.1 F.2.1 (by decide +kernel : decode cX7_init 108 = .ok (.iinc 1 1, 3)) hl (k := 0) rfl (by decide) (by decide) rfl (fun ls hl => ?_)
  have hls := hl.1
  refine lv_goto (tgt := 93) F.1 F.2.1 (by decide +kernel : decode cX7_init 111 = .ok (.goto (-18), 3)) (by decide) ?_
  refine lv_iload_n (x := 4) F.1 F.2.1 (by decide +kernel : decode cX7_init 93 = .ok (.iload_n 1, 1)) rfl (lv_at hl 0 rfl) ?_
  refine lv_iconst (v := 5) F.1 F.2.1 (by decide +kernel : decode cX7_init 94 = .ok (.iconst 5, 1)) (by decide) ?_
  refine lv_icmp_ge (tgt := 114) F.1 F.2.1 (by decide +kernel : decode cX7_init 95 = .ok (.if_icmp .ge 19, 3)) (by decide) (fun hc => ?_) (fun hc => ?_)
  · exact absurd hc (by decide)
  refine lv_aload_n F.1 F.2.1 (by decide +kernel : decode cX7_init 98 = .ok (.aload_n 0, 1)) rfl (lv_at hl 1 rfl) ?_
  refine c_get F 7 (by decide) 0 (by decide) (GT_at 558 (by decide +kernel) (by decide +kernel)) hW 0 rfl rfl (by decide +kernel : decode cX7_init 99 = .ok (.getfield 7, 3)) ?_
  refine lv_bipush (v := 21) F.1 F.2.1 (by decide +kernel : decode cX7_init 102 = .ok (.bipush 21, 2)) (by decide) ?_
  refine lv_iload_n (x := 4) F.1 F.2.1 (by decide +kernel : decode cX7_init 104 = .ok (.iload_n 1, 1)) rfl (lv_at hl 0 rfl) ?_
  refine lv_iadd F.1 F.2.1 (by decide +kernel : decode cX7_init 105 = .ok (.iadd, 1)) ?_
  refine lv_topi (fun x ex => ?_)
  have ex : x = 25 := ex.trans (by decide)
  subst ex
  refine lv_iconst (v := 5) F.1 F.2.1 (by decide +kernel : decode cX7_init 106 = .ok (.iconst 5, 1)) (by decide) ?_
  refine c_iast F hW 1 rfl (by unfold vp_in; decide) (by decide +kernel : decode cX7_init 107 = .ok (.iastore, 1)) (fun H locs hW => ?_)
  have hW : WB D A s.heap ([(h0, .inr (7, [.ref q1, .int 0, .ref q2, .ref q3, .int 0, .int 0, .int 0])), (q1, .inl (cA 0, 5296, .inl (upd (upd (upd (upd (upd (upd (upd (upd (upd (upd (upd (upd (upd (upd (upd (upd (fun _ => 0) 0 10) 1 5) 2 20) 3 1) 5 1) 15 1) 16 2) 17 3) 18 4) 19 5) 20 6) 21 5) 22 5) 23 5) 24 5) 25 5))), (q2, .inl (cA 2, 2, .inl (fun _ => 0))), (q3, .inl (cA 0, 60, .inl (fun _ => 0)))] : va_W) H locs := hW
  refine lv_iinc (v := 5) (lv' := [(1, .int 5), (0, .ref h0)]) F.1 F.2.1 (by decide +kernel : decode cX7_init 108 = .ok (.iinc 1 1, 3)) hl (k := 0) rfl (by decide) (by decide) rfl (fun ls hl => ?_)
  have hls := hl.1
  refine lv_goto (tgt := 93) F.1 F.2.1 (by decide +kernel : decode cX7_init 111 = .ok (.goto (-18), 3)) (by decide) ?_
  refine lv_iload_n (x := 5) F.1 F.2.1 (by decide +kernel : decode cX7_init 93 = .ok (.iload_n 1, 1)) rfl (lv_at hl 0 rfl) ?_
  refine lv_iconst (v := 5) F.1 F.2.1 (by decide +kernel : decode cX7_init 94 = .ok (.iconst 5, 1)) (by decide) ?_
  refine lv_icmp_ge (tgt := 114) F.1 F.2.1 (by decide +kernel : decode cX7_init 95 = .ok (.if_icmp .ge 19, 3)) (by decide) (fun hc => ?_) (fun hc => ?_)
  rotate_left
  · exact absurd (by decide) hc
  refine lv_iconst (v := 0) F.1 F.2.1 (by decide +kernel : decode cX7_init 114 = .ok (.iconst 0, 1)) (by decide) ?_
  refine lv_istore_n (lv' := [(1, .int 0), (0, .ref h0)]) F.1 F.2.1 (by decide +kernel : decode cX7_init 115 = .ok (.istore_n 1, 1)) rfl hl (by decide) rfl (fun ls hl => ?_)
  have hls := hl.1
  refine lv_iload_n (x := 0) F.1 F.2.1 (by decide +kernel : decode cX7_init 116 = .ok (.iload_n 1, 1)) rfl (lv_at hl 0 rfl) ?_
  refine lv_iconst (v := 3) F.1 F.2.1 (by decide +kernel : decode cX7_init 117 = .ok (.iconst 3, 1)) (by decide) ?_
  refine lv_icmp_ge (tgt := 138) F.1 F.2.1 (by decide +kernel : decode cX7_init 118 = .ok (.if_icmp .ge 20, 3)) (by decide) (fun hc => ?_) (fun hc => ?_)
  · exact absurd hc (by decide)
  refine lv_aload_n F.1 F.2.1 (by decide +kernel : decode cX7_init 121 = .ok (.aload_n 0, 1)) rfl (lv_at hl 1 rfl) ?_
  refine c_get F 7 (by decide) 0 (by decide) (GT_at 558 (by decide +kernel) (by decide +kernel)) hW 0 rfl rfl (by decide +kernel : decode cX7_init 122 = .ok (.getfield 7, 3)) ?_
  refine lv_iconst (v := 0) F.1 F.2.1 (by decide +kernel : decode cX7_init 125 = .ok (.iconst 0, 1)) (by decide) ?_
  refine lv_iload_n (x := 0) F.1 F.2.1 (by decide +kernel : decode cX7_init 126 = .ok (.iload_n 1, 1)) rfl (lv_at hl 0 rfl) ?_
  refine c_deskAt F hW (b := 0) (d := 0) hls (v := 26) (by decide) (Nat.le_of_ble_eq_true rfl) (Nat.le_of_ble_eq_true rfl) (Nat.le_of_ble_eq_true rfl) (Nat.le_of_ble_eq_true rfl) (Nat.le_of_ble_eq_true rfl) (by decide +kernel : decode cX7_init 127 = .ok (.invokestatic 20, 3)) (fun H locs hW => ?_)
  refine lv_iconst (v := 1) F.1 F.2.1 (by decide +kernel : decode cX7_init 130 = .ok (.iconst 1, 1)) (by decide) ?_
  refine c_iast F hW 1 rfl (by unfold vp_in; decide) (by decide +kernel : decode cX7_init 131 = .ok (.iastore, 1)) (fun H locs hW => ?_)
  have hW : WB D A s.heap ([(h0, .inr (7, [.ref q1, .int 0, .ref q2, .ref q3, .int 0, .int 0, .int 0])), (q1, .inl (cA 0, 5296, .inl (upd (upd (upd (upd (upd (upd (upd (upd (upd (upd (upd (upd (upd (upd (upd (upd (upd (fun _ => 0) 0 10) 1 5) 2 20) 3 1) 5 1) 15 1) 16 2) 17 3) 18 4) 19 5) 20 6) 21 5) 22 5) 23 5) 24 5) 25 5) 26 1))), (q2, .inl (cA 2, 2, .inl (fun _ => 0))), (q3, .inl (cA 0, 60, .inl (fun _ => 0)))] : va_W) H locs := hW
  refine lv_iinc (v := 1) (lv' := [(1, .int 1), (0, .ref h0)]) F.1 F.2.1 (by decide +kernel : decode cX7_init 132 = .ok (.iinc 1 1, 3)) hl (k := 0) rfl (by decide) (by decide) rfl (fun ls hl => ?_)
  have hls := hl.1
  refine lv_goto (tgt := 116) F.1 F.2.1 (by decide +kernel : decode cX7_init 135 = .ok (.goto (-19), 3)) (by decide) ?_
  refine lv_iload_n (x := 1) F.1 F.2.1 (by decide +kernel : decode cX7_init 116 = .ok (.iload_n 1, 1)) rfl (lv_at hl 0 rfl) ?_
  refine lv_iconst (v := 3) F.1 F.2.1 (by decide +kernel : decode cX7_init 117 = .ok (.iconst 3, 1)) (by decide) ?_
  refine lv_icmp_ge (tgt := 138) F.1 F.2.1 (by decide +kernel : decode cX7_init 118 = .ok (.if_icmp .ge 20, 3)) (by decide) (fun hc => ?_) (fun hc => ?_)
  · exact absurd hc (by decide)
  refine lv_aload_n F.1 F.2.1 (by decide +kernel : decode cX7_init 121 = .ok (.aload_n 0, 1)) rfl (lv_at hl 1 rfl) ?_
  refine c_get F 7 (by decide) 0 (by decide) (GT_at 558 (by decide +kernel) (by decide +kernel)) hW 0 rfl rfl (by decide +kernel : decode cX7_init 122 = .ok (.getfield 7, 3)) ?_
  refine lv_iconst (v := 0) F.1 F.2.1 (by decide +kernel : decode cX7_init 125 = .ok (.iconst 0, 1)) (by decide) ?_
  refine lv_iload_n (x := 1) F.1 F.2.1 (by decide +kernel : decode cX7_init 126 = .ok (.iload_n 1, 1)) rfl (lv_at hl 0 rfl) ?_
  refine c_deskAt F hW (b := 0) (d := 1) hls (v := 30) (by decide) (Nat.le_of_ble_eq_true rfl) (Nat.le_of_ble_eq_true rfl) (Nat.le_of_ble_eq_true rfl) (Nat.le_of_ble_eq_true rfl) (Nat.le_of_ble_eq_true rfl) (by decide +kernel : decode cX7_init 127 = .ok (.invokestatic 20, 3)) (fun H locs hW => ?_)
  refine lv_iconst (v := 1) F.1 F.2.1 (by decide +kernel : decode cX7_init 130 = .ok (.iconst 1, 1)) (by decide) ?_
  refine c_iast F hW 1 rfl (by unfold vp_in; decide) (by decide +kernel : decode cX7_init 131 = .ok (.iastore, 1)) (fun H locs hW => ?_)
  have hW : WB D A s.heap ([(h0, .inr (7, [.ref q1, .int 0, .ref q2, .ref q3, .int 0, .int 0, .int 0])), (q1, .inl (cA 0, 5296, .inl (upd (upd (upd (upd (upd (upd (upd (upd (upd (upd (upd (upd (upd (upd (upd (upd (upd (upd (fun _ => 0) 0 10) 1 5) 2 20) 3 1) 5 1) 15 1) 16 2) 17 3) 18 4) 19 5) 20 6) 21 5) 22 5) 23 5) 24 5) 25 5) 26 1) 30 1))), (q2, .inl (cA 2, 2, .inl (fun _ => 0))), (q3, .inl (cA 0, 60, .inl (fun _ => 0)))] : va_W) H locs := hW
  refine lv_iinc (v := 2) (lv' := [(1, .int 2), (0, .ref h0)]) F.1 F.2.1 (by decide +kernel : decode cX7_init 132 = .ok (.iinc 1 1, 3)) hl (k := 0) rfl (by decide) (by decide) rfl (fun ls hl => ?_)
  have hls := hl.1
  refine lv_goto (tgt := 116) F.1 F.2.1 (by decide +kernel : decode cX7_init 135 = .ok (.goto (-19), 3)) (by decide) ?_
  refine lv_iload_n (x := 2) F.1 F.2.1 (by decide +kernel : decode cX7_init 116 = .ok (.iload_n 1, 1)) rfl (lv_at hl 0 rfl) ?_
  refine lv_iconst (v := 3) F.1 F.2.1 (by decide +kernel : decode cX7_init 117 = .ok (.iconst 3, 1)) (by decide) ?_
  refine lv_icmp_ge (tgt := 138) F.1 F.2.1 (by decide +kernel : decode cX7_init 118 = .ok (.if_icmp .ge 20, 3)) (by decide) (fun hc => ?_) (fun hc => ?_)
  · exact absurd hc (by decide)
  refine lv_aload_n F.1 F.2.1 (by decide +kernel : decode cX7_init 121 = .ok (.aload_n 0, 1)) rfl (lv_at hl 1 rfl) ?_
  refine c_get F 7 (by decide) 0 (by decide) (GT_at 558 (by decide +kernel) (by decide +kernel)) hW 0 rfl rfl (by decide +kernel : decode cX7_init 122 = .ok (.getfield 7, 3)) ?_
  refine lv_iconst (v := 0) F.1 F.2.1 (by decide +kernel : decode cX7_init 125 = .ok (.iconst 0, 1)) (by decide) ?_
  refine lv_iload_n (x := 2) F.1 F.2.1 (by decide +kernel : decode cX7_init 126 = .ok (.iload_n 1, 1)) rfl (lv_at hl 0 rfl) ?_
  refine c_deskAt F hW (b := 0) (d := 2) hls (v := 34) (by decide) (Nat.le_of_ble_eq_true rfl) (Nat.le_of_ble_eq_true rfl) (Nat.le_of_ble_eq_true rfl) (Nat.le_of_ble_eq_true rfl) (Nat.le_of_ble_eq_true rfl) (by decide +kernel : decode cX7_init 127 = .ok (.invokestatic 20, 3)) (fun H locs hW => ?_)
  refine lv_iconst (v := 1) F.1 F.2.1 (by decide +kernel : decode cX7_init 130 = .ok (.iconst 1, 1)) (by decide) ?_
  refine c_iast F hW 1 rfl (by unfold vp_in; decide) (by decide +kernel : decode cX7_init 131 = .ok (.iastore, 1)) (fun H locs hW => ?_)
  have hW : WB D A s.heap ([(h0, .inr (7, [.ref q1, .int 0, .ref q2, .ref q3, .int 0, .int 0, .int 0])), (q1, .inl (cA 0, 5296, .inl (upd (upd (upd (upd (upd (upd (upd (upd (upd (upd (upd (upd (upd (upd (upd (upd (upd (upd (upd (fun _ => 0) 0 10) 1 5) 2 20) 3 1) 5 1) 15 1) 16 2) 17 3) 18 4) 19 5) 20 6) 21 5) 22 5) 23 5) 24 5) 25 5) 26 1) 30 1) 34 1))), (q2, .inl (cA 2, 2, .inl (fun _ => 0))), (q3, .inl (cA 0, 60, .inl (fun _ => 0)))] : va_W) H locs := hW
  refine lv_iinc (v := 3) (lv' := [(1, .int 3), (0, .ref h0)]) F.1 F.2.1 (by decide +kernel : decode cX7_init 132 = .ok (.iinc 1 1, 3)) hl (k := 0) rfl (by decide) (by decide) rfl (fun ls hl => ?_)
  have hls := hl.1
  refine lv_goto (tgt := 116) F.1 F.2.1 (by decide +kernel : decode cX7_init 135 = .ok (.goto (-19), 3)) (by decide) ?_
  refine lv_iload_n (x := 3) F.1 F.2.1 (by decide +kernel : decode cX7_init 116 = .ok (.iload_n 1, 1)) rfl (lv_at hl 0 rfl) ?_
  refine lv_iconst (v := 3) F.1 F.2.1 (by decide +kernel : decode cX7_init 117 = .ok (.iconst 3, 1)) (by decide) ?_
  refine lv_icmp_ge (tgt := 138) F.1 F.2.1 (by decide +kernel : decode cX7_init 118 = .ok (.if_icmp .ge 20, 3)) (by decide) (fun hc => ?_) (fun hc => ?_)
  rotate_left
  · exact absurd (by decide) hc
  exact fin 138 ls _ _ (fun i => [h0, q1, q2, q3].getD i 0) (by decide +kernel : decode cX7_init 138 = .ok (.return_, 1)) rfl hW
