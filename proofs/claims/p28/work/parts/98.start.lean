/-! THE CLAIM OUT OF ONE WALK OF THE LAW'S BODY. Your part is whole_start (and what it stands on); all else here is the same for every law, but numbers. -/
def R_law : String := "DoubtfulTrunksLaw"
def lw_P (b : Addr) (xs : List Int32) (args : Array Value) (s : State) : Prop := args = #[.ref b] ∧ s.IntsAt b xs ∧ xs.length ≤ 260 ∧ (Jvm.Cond.and given_1 narrow_1).before args s = true
def lw_Q (_ : Array Value) (s : State) (o : Outcome) (t : State) : Prop := o = .returned (some (.int 1)) ∧ Framed s o t [] 600000 7302250
def lw_Z (below : List Frame) (a : Array Value) (s : State) : State → Prop := fun t => ∃ o, t.status = .running ∧ Ended t below o ∧ lw_Q a s o t
/-- the law's own end, with 1 on the stack, nothing written that was there before, its room as the claim has it -/
theorem lw_ret {p : Program} {l : Launch} {e : Env} {s : State} {m : MethodId} {below : List Frame} {meth : Method} {c : Code} {b : Nat} (hx : p.tables.exec = Jvm.exec) (hb : c.code = code) (hr : meth.sig.returnType = ret) (hlocks : meth.locks = false) {pc : Nat} {H : Heap} {ls : Array Slot} (hdg : decode code pc = .ok (.ireturn, 1)) : W p l e room_1 s m #[Value.ref b] below meth c H [] 600000 7302250 (lw_Z below #[Value.ref b] s) (F0 m pc ls [.int 1]) := by
  intro T hT X
  obtain ⟨fs, hret, hrun, hended, hW, hframe⟩ := X.leave (v := some (.int 1)) (hlocks := hlocks) (fun h => by rw [hr] at h; cases h)
  have hmeth' : T.vm.method? m = some meth := X.method'
  refine ⟨T.setFrames fs, ?_, .returned (some (.int 1)), hrun, hended, rfl, ⟨_, rfl⟩, hW, hframe⟩
  jvm_step X.here [X.here.top, hx, hb, hdg, hmeth', hr, ret, narrow_b1]
  (try refine ⟨rfl, ?_⟩); (try refine ⟨rfl, ?_⟩)
  first | (intro acts; rw [hret _ acts rfl rfl rfl]) | rw [hret _ _ rfl rfl rfl]
  exact Steps.refl _
/-- what holds at the law's entry: the machine, the code, the tables' words (any of lw_tbl by 'hts w (by decide +kernel)'), the script of L ints xs at the cell b, what the Statement gives of the start (any of its parts by flat_of_before) -/
def lw_At (p : Program) (s : State) (m : MethodId) (meth : Method) (c : Code) (b L : Nat) (xs : Nat → Int32) : Prop :=
  p.tables.exec = Jvm.exec ∧ c.code = code ∧ meth.sig.returnType = ret ∧ c.maxLocals = 10 ∧ s.vm.findClass R_law = some m.cls ∧ (∀ w ∈ lw_tbl, w.before #[Value.ref b] s = true) ∧ va_X b L xs s s.heap ∧ b < s.heap.size ∧ meth.locks = false ∧ (Jvm.Cond.and given_1 narrow_1).before #[Value.ref b] s = true
def law_tbB (e : Nat × (Instr × Nat)) : Bool := decide (decode code e.1 = .ok e.2)
theorem law_tb_t0 : ((tb_L_law.drop 0).take 10).all law_tbB = true := by decide +kernel
theorem law_tb_t10 : ((tb_L_law.drop 10).take 10).all law_tbB = true := by decide +kernel
theorem law_tb_t20 : ((tb_L_law.drop 20).take 10).all law_tbB = true := by decide +kernel
theorem law_tb_t30 : ((tb_L_law.drop 30).take 10).all law_tbB = true := by decide +kernel
theorem law_tb_t40 : ((tb_L_law.drop 40).take 10).all law_tbB = true := by decide +kernel
theorem law_tb_t50 : ((tb_L_law.drop 50).take 10).all law_tbB = true := by decide +kernel
theorem law_tb_t60 : ((tb_L_law.drop 60).take 10).all law_tbB = true := by decide +kernel
theorem law_tb_t70 : ((tb_L_law.drop 70).take 10).all law_tbB = true := by decide +kernel
theorem law_tb_t80 : ((tb_L_law.drop 80).take 10).all law_tbB = true := by decide +kernel
theorem law_tb_t90 : ((tb_L_law.drop 90).take 10).all law_tbB = true := by decide +kernel
theorem law_tb_t100 : ((tb_L_law.drop 100).take 10).all law_tbB = true := by decide +kernel
theorem law_tb_t110 : ((tb_L_law.drop 110).take 10).all law_tbB = true := by decide +kernel
theorem law_tb_t120 : ((tb_L_law.drop 120).take 10).all law_tbB = true := by decide +kernel
theorem law_tb_t130 : ((tb_L_law.drop 130).take 10).all law_tbB = true := by decide +kernel
theorem law_tb_t140 : ((tb_L_law.drop 140).take 10).all law_tbB = true := by decide +kernel
theorem law_tb_t150 : ((tb_L_law.drop 150).take 10).all law_tbB = true := by decide +kernel
theorem law_tb_t160 : ((tb_L_law.drop 160).take 10).all law_tbB = true := by decide +kernel
theorem law_tb_t170 : ((tb_L_law.drop 170).take 10).all law_tbB = true := by decide +kernel
theorem law_tb_d180 : (tb_L_law.drop 180).all law_tbB = true := by decide +kernel
theorem law_tb_d170 : (tb_L_law.drop 170).all law_tbB = true := all_ch 10 law_tb_t170 (by rw [List.drop_drop]; exact law_tb_d180)
theorem law_tb_d160 : (tb_L_law.drop 160).all law_tbB = true := all_ch 10 law_tb_t160 (by rw [List.drop_drop]; exact law_tb_d170)
theorem law_tb_d150 : (tb_L_law.drop 150).all law_tbB = true := all_ch 10 law_tb_t150 (by rw [List.drop_drop]; exact law_tb_d160)
theorem law_tb_d140 : (tb_L_law.drop 140).all law_tbB = true := all_ch 10 law_tb_t140 (by rw [List.drop_drop]; exact law_tb_d150)
theorem law_tb_d130 : (tb_L_law.drop 130).all law_tbB = true := all_ch 10 law_tb_t130 (by rw [List.drop_drop]; exact law_tb_d140)
theorem law_tb_d120 : (tb_L_law.drop 120).all law_tbB = true := all_ch 10 law_tb_t120 (by rw [List.drop_drop]; exact law_tb_d130)
theorem law_tb_d110 : (tb_L_law.drop 110).all law_tbB = true := all_ch 10 law_tb_t110 (by rw [List.drop_drop]; exact law_tb_d120)
theorem law_tb_d100 : (tb_L_law.drop 100).all law_tbB = true := all_ch 10 law_tb_t100 (by rw [List.drop_drop]; exact law_tb_d110)
theorem law_tb_d90 : (tb_L_law.drop 90).all law_tbB = true := all_ch 10 law_tb_t90 (by rw [List.drop_drop]; exact law_tb_d100)
theorem law_tb_d80 : (tb_L_law.drop 80).all law_tbB = true := all_ch 10 law_tb_t80 (by rw [List.drop_drop]; exact law_tb_d90)
theorem law_tb_d70 : (tb_L_law.drop 70).all law_tbB = true := all_ch 10 law_tb_t70 (by rw [List.drop_drop]; exact law_tb_d80)
theorem law_tb_d60 : (tb_L_law.drop 60).all law_tbB = true := all_ch 10 law_tb_t60 (by rw [List.drop_drop]; exact law_tb_d70)
theorem law_tb_d50 : (tb_L_law.drop 50).all law_tbB = true := all_ch 10 law_tb_t50 (by rw [List.drop_drop]; exact law_tb_d60)
theorem law_tb_d40 : (tb_L_law.drop 40).all law_tbB = true := all_ch 10 law_tb_t40 (by rw [List.drop_drop]; exact law_tb_d50)
theorem law_tb_d30 : (tb_L_law.drop 30).all law_tbB = true := all_ch 10 law_tb_t30 (by rw [List.drop_drop]; exact law_tb_d40)
theorem law_tb_d20 : (tb_L_law.drop 20).all law_tbB = true := all_ch 10 law_tb_t20 (by rw [List.drop_drop]; exact law_tb_d30)
theorem law_tb_d10 : (tb_L_law.drop 10).all law_tbB = true := all_ch 10 law_tb_t10 (by rw [List.drop_drop]; exact law_tb_d20)
theorem law_tb_d0 : (tb_L_law.drop 0).all law_tbB = true := all_ch 10 law_tb_t0 (by rw [List.drop_drop]; exact law_tb_d10)
theorem law_tb : tb_L_law.all (fun e => decide (decode code e.1 = .ok e.2)) = true := law_tb_d0
theorem law_hc : ∀ e ∈ sx_L_law.2.2.2.1, Cl2 RL room_1 e := all_cons (lc_count (by decide)) (all_cons (lc_read (by decide)) (all_cons (lc_undo (by decide)) (all_nil)))
theorem law_hw : ∀ e ∈ sx_L_law.2.2.2.2.1, Cw2 RL room_1 e := all_cons (lw_L_trunks mt_L_trunks (by decide)) (all_cons (lw_L_turns mt_L_turns rfl (by decide)) (all_cons (lw_L_cell mt_L_cell (by decide)) (all_cons (lw_L_print mt_L_print (by decide)) (all_cons (lw_L_types mt_L_types (by decide)) (all_cons (lw_L_act mt_L_act rfl (by decide)) (all_cons (lw_L_low mt_L_low (by decide)) (all_cons (lw_L_goes mt_L_goes rfl (by decide)) (all_cons (lw_L_hand mt_L_hand rfl (by decide)) (all_cons (lw_L_small mt_L_small rfl (by decide)) (all_nil))))))))))
theorem M0_w2 : M0 12 8 = 0 ∧ M0 12 9 = 0 ∧ M0 12 11 = 0 ∧ M0 12 12 = 0 ∧ M0 12 13 = 0 ∧ M0 12 29 = 0 ∧ M0 12 33 = 0 ∧ M0 12 37 = 0 ∧ M0 12 28 = 0 ∧ M0 12 32 = 0 ∧ M0 12 36 = 0 := by decide +kernel
theorem M0_Ok : Ok2 (M0 12) := by
  have v6 := M0_v.2.2.2.2.2.2.1
  have v7 := M0_v.2.2.2.2.2.2.2.1
  obtain ⟨v8, v9, v11, v12, v13, v29, v33, v37, v28, v32, v36⟩ := M0_w2
  have hd : ∀ d : Int, 0 ≤ d → d < 3 → M0 12 (27 + 4 * d) = 0 ∧ M0 12 (28 + 4 * d) = 0 ∧ M0 12 (29 + 4 * d) = 0 := fun d d0 d1 => by
    have := (M0_h d.toNat (by omega)).2
    rw [show ((d.toNat : Nat) : Int) = d by omega] at this
    refine ⟨this, ?_⟩
    rcases (show d = 0 ∨ d = 1 ∨ d = 2 by omega) with rfl | rfl | rfl
    · exact ⟨v28, v29⟩
    · exact ⟨v32, v33⟩
    · exact ⟨v36, v37⟩
  refine ⟨M0_Inv, ⟨fun t a b => by omega, fun d p q => ?_, ?_, by omega, fun d a b => ?_, by omega⟩, by omega, fun e a b => ?_⟩
  · have := (hd d q.1 q.2.1).1
    have q2 := q.2.2
    omega
  · rw [v11, v12, v13, v7]
    rfl
  · have := hd d a b
    omega
  · have := hd e a b
    omega
set_option maxRecDepth 100000 in
set_option maxHeartbeats 4000000 in
theorem whole_start {p : Program} {e : Env} {s : State} {m : MethodId} {below : List Frame} {meth : Method} {c : Code} (l : Launch) (hflags : l.flags = flags0) {b L : Nat} {xs : Nat → Int32} (hL : L ≤ 260) (C0 : lw_At p s m meth c b L xs) : W p l e room_1 s m #[Value.ref b] below meth c s.heap [] 0 0 (lw_Z below #[Value.ref b] s) (entryFrame m ([Value.ref b] : List Value).toArray 10) := by
  obtain ⟨hx, hb, hr, hml, hown, hts, hX, hbl, hlocks, hgv⟩ := id C0
  have hG : ∀ w ∈ GT, w.before #[Value.ref b] s = true := fun w hw => hts w (mem_GT.mp hw).1
  have hs := flat_of_before _ hgv
  obtain ⟨scr, hscr⟩ : ∃ scr : Int → Int, scr = fun k => (xs k.toNat).toInt := ⟨_, rfl⟩
  obtain ⟨t1, ev1, T1⟩ := va_Tof (args := #[Value.ref b]) (s := s) (tm := (.static "DoubtfulTrunks" "LEAST_SETTINGS" "[I")) (ty := .int) (N := 6) (f := fun j => .int (Int32.ofInt (nt_ (xcF scr 1) j))) (A := fun q : Nat => s.heap.size ≤ q) (by decide) (hs (.arrayOf (.static "DoubtfulTrunks" "LEAST_SETTINGS" "[I") .int) (by decide +kernel)) (va_eqv (hs (.eq (.length (.static "DoubtfulTrunks" "LEAST_SETTINGS" "[I")) (.int 6)) (by decide +kernel)) rfl) (fun j hj => by
    rcases (show j = 0 ∨ j = 1 ∨ j = 2 ∨ j = 3 ∨ j = 4 ∨ j = 5 by omega) with rfl | rfl | rfl | rfl | rfl | rfl
    · exact va_eqv (u := .int 0) (hs (.eq (.elem (.static "DoubtfulTrunks" "LEAST_SETTINGS" "[I") (.int 0)) (.int 0)) (by decide +kernel)) rfl
    · exact va_eqv (u := .int 0) (hs (.eq (.elem (.static "DoubtfulTrunks" "LEAST_SETTINGS" "[I") (.int 1)) (.int 0)) (by decide +kernel)) rfl
    · exact va_eqv (u := .int 0) (hs (.eq (.elem (.static "DoubtfulTrunks" "LEAST_SETTINGS" "[I") (.int 2)) (.int 0)) (by decide +kernel)) rfl
    · exact va_eqv (u := .int 0) (hs (.eq (.elem (.static "DoubtfulTrunks" "LEAST_SETTINGS" "[I") (.int 3)) (.int 0)) (by decide +kernel)) rfl
    · exact va_eqv (u := .int 0) (hs (.eq (.elem (.static "DoubtfulTrunks" "LEAST_SETTINGS" "[I") (.int 4)) (.int 0)) (by decide +kernel)) rfl
    · exact va_eqv (u := .int 1) (hs (.eq (.elem (.static "DoubtfulTrunks" "LEAST_SETTINGS" "[I") (.int 5)) (.int 1)) (by decide +kernel)) rfl) (fun a h z => Nat.not_le.mpr h z)
  have Z1 : va_Z "DoubtfulTrunks" "LEAST_SETTINGS" "[I" (.ref t1) (fun q : Nat => s.heap.size ≤ q) s s.heap := va_Zof (hts _ (List.mem_of_getElem? (i := 341) (by decide +kernel))) (hG _ (GT_at 11 (by decide +kernel) (by decide +kernel))) ev1 (fun a h z => Nat.not_le.mpr h z)
  obtain ⟨t2, ev2, T2⟩ := va_Tof (args := #[Value.ref b]) (s := s) (tm := (.static "DoubtfulTrunks" "MOST_SETTINGS" "[I")) (ty := .int) (N := 6) (f := fun j => .int (Int32.ofInt (nt_ (xcF scr 2) j))) (A := fun q : Nat => s.heap.size ≤ q) (by decide) (hs (.arrayOf (.static "DoubtfulTrunks" "MOST_SETTINGS" "[I") .int) (by decide +kernel)) (va_eqv (hs (.eq (.length (.static "DoubtfulTrunks" "MOST_SETTINGS" "[I")) (.int 6)) (by decide +kernel)) rfl) (fun j hj => by
    rcases (show j = 0 ∨ j = 1 ∨ j = 2 ∨ j = 3 ∨ j = 4 ∨ j = 5 by omega) with rfl | rfl | rfl | rfl | rfl | rfl
    · exact va_eqv (u := .int 200) (hs (.eq (.elem (.static "DoubtfulTrunks" "MOST_SETTINGS" "[I") (.int 0)) (.int 200)) (by decide +kernel)) rfl
    · exact va_eqv (u := .int 50) (hs (.eq (.elem (.static "DoubtfulTrunks" "MOST_SETTINGS" "[I") (.int 1)) (.int 50)) (by decide +kernel)) rfl
    · exact va_eqv (u := .int 90) (hs (.eq (.elem (.static "DoubtfulTrunks" "MOST_SETTINGS" "[I") (.int 2)) (.int 90)) (by decide +kernel)) rfl
    · exact va_eqv (u := .int 20) (hs (.eq (.elem (.static "DoubtfulTrunks" "MOST_SETTINGS" "[I") (.int 3)) (.int 20)) (by decide +kernel)) rfl
    · exact va_eqv (u := .int 9) (hs (.eq (.elem (.static "DoubtfulTrunks" "MOST_SETTINGS" "[I") (.int 4)) (.int 9)) (by decide +kernel)) rfl
    · exact va_eqv (u := .int 4) (hs (.eq (.elem (.static "DoubtfulTrunks" "MOST_SETTINGS" "[I") (.int 5)) (.int 4)) (by decide +kernel)) rfl) (fun a h z => Nat.not_le.mpr h z)
  have Z2 : va_Z "DoubtfulTrunks" "MOST_SETTINGS" "[I" (.ref t2) (fun q : Nat => s.heap.size ≤ q) s s.heap := va_Zof (hts _ (List.mem_of_getElem? (i := 343) (by decide +kernel))) (hG _ (GT_at 11 (by decide +kernel) (by decide +kernel))) ev2 (fun a h z => Nat.not_le.mpr h z)
  have hKn : ∀ ci, ∃ q : ClassId × (Nat → Nat), ci < 7 → u_Kn s (RC ci) (TC ci) (nfC ci) q.1 q.2 := fun ci => by
    match ci with
    | 0 =>
      obtain ⟨a, d, h⟩ := u_known (C := RC 0) (T := TC 0) (N := nfC 0) (n := 5) hG (clsW (ci := 0) (by decide)) (hG _ (GT_at 37 (by decide +kernel) (by decide +kernel)))
      exact ⟨(a, d), fun _ => h⟩
    | 1 =>
      obtain ⟨a, d, h⟩ := u_known (C := RC 1) (T := TC 1) (N := nfC 1) (n := 3) hG (clsW (ci := 1) (by decide)) (hG _ (GT_at 153 (by decide +kernel) (by decide +kernel)))
      exact ⟨(a, d), fun _ => h⟩
    | 2 =>
      obtain ⟨a, d, h⟩ := u_known (C := RC 2) (T := TC 2) (N := nfC 2) (n := 5) hG (clsW (ci := 2) (by decide)) (hG _ (GT_at 173 (by decide +kernel) (by decide +kernel)))
      exact ⟨(a, d), fun _ => h⟩
    | 3 =>
      obtain ⟨a, d, h⟩ := u_known (C := RC 3) (T := TC 3) (N := nfC 3) (n := 5) hG (clsW (ci := 3) (by decide)) (hG _ (GT_at 37 (by decide +kernel) (by decide +kernel)))
      exact ⟨(a, d), fun _ => h⟩
    | 4 =>
      obtain ⟨a, d, h⟩ := u_known (C := RC 4) (T := TC 4) (N := nfC 4) (n := 9) hG (clsW (ci := 4) (by decide)) (hG _ (GT_at 30 (by decide +kernel) (by decide +kernel)))
      exact ⟨(a, d), fun _ => h⟩
    | 5 =>
      obtain ⟨a, d, h⟩ := u_known (C := RC 5) (T := TC 5) (N := nfC 5) (n := 8) hG (clsW (ci := 5) (by decide)) (hG _ (GT_at 69 (by decide +kernel) (by decide +kernel)))
      exact ⟨(a, d), fun _ => h⟩
    | 6 =>
      obtain ⟨a, d, h⟩ := u_known (C := RC 6) (T := TC 6) (N := nfC 6) (n := 6) hG (clsW (ci := 6) (by decide)) (hG _ (GT_at 22 (by decide +kernel) (by decide +kernel)))
      exact ⟨(a, d), fun _ => h⟩
    | n + 7 => exact ⟨(0, fun _ => 0), fun h => by omega⟩
  obtain ⟨D, hDk⟩ : ∃ D : va_G, ∀ ci, ci < 7 → u_Kn s (RC ci) (TC ci) (nfC ci) (D.1 ci) (D.2 ci) := ⟨(fun ci => (Classical.choose (hKn ci)).1, fun ci => (Classical.choose (hKn ci)).2), fun ci h => Classical.choose_spec (hKn ci) h⟩
  obtain ⟨c0, k0, m0, f01, f02, f03⟩ := Cond.arrayClass_spec (type := .int) (hG _ (GT_at 67 (by decide +kernel) (by decide +kernel)))
  obtain ⟨c1, k1, m1, f11, f12, f13⟩ := Cond.arrayClass_spec (type := .char) (hG _ (GT_at 198 (by decide +kernel) (by decide +kernel)))
  obtain ⟨c2, k2, m2, f21, f22, f23⟩ := Cond.arrayClass_spec (type := .boolean) (hG _ (GT_at 197 (by decide +kernel) (by decide +kernel)))
  have a3 : va_AOA .int s := hts (.arrayOver (.array .int)) (List.mem_of_getElem? (i := 75) (by decide +kernel))
  have a4 : va_AO RX4 s := hts (.arrayOver (.object RX4)) (List.mem_of_getElem? (i := 159) (by decide +kernel))
  have a5 : va_AO RX0 s := hts (.arrayOver (.object RX0)) (List.mem_of_getElem? (i := 36) (by decide +kernel))
  obtain ⟨m3, c3, k3, f31, -, f32, f33, f34⟩ := aoA_spec a3
  obtain ⟨m4, c4, k4, f41, -, f42, f43, f44⟩ := Cond.arrayOver_spec a4
  obtain ⟨m5, c5, k5, f51, -, f52, f53, f54⟩ := Cond.arrayOver_spec a5
  obtain ⟨cA, hcA⟩ : ∃ cA : Nat → ClassId, cA = fun i => [c0, c1, c2, c3, c4, c5].getD i 0 := ⟨_, rfl⟩
  have hK : va_K D clsL (tysL cA) s := by
    refine ⟨fun ci q hq => ?_, fun k q hq => ?_⟩
    · have h8 : ci < 7 := (List.getElem?_eq_some_iff.mp hq).1
      rw [clsL_at h8] at hq
      cases hq
      exact hDk ci h8
    · have h6 : k < 6 := (List.getElem?_eq_some_iff.mp hq).1
      rw [tysL_at cA h6] at hq
      cases hq
      subst hcA
      rcases (show k = 0 ∨ k = 1 ∨ k = 2 ∨ k = 3 ∨ k = 4 ∨ k = 5 by omega) with rfl | rfl | rfl | rfl | rfl | rfl
      · exact ⟨fun n z => ⟨fun k h => (by cases h), k0, f02, m0, f03⟩, f01⟩
      · exact ⟨fun n z => ⟨fun k h => (by cases h), k1, f12, m1, f13⟩, f11⟩
      · exact ⟨fun n z => ⟨fun k h => (by cases h), k2, f22, m2, f23⟩, f21⟩
      · exact ⟨fun n z => ⟨fun k h => (by cases h), k3, f32, m3, f33⟩, f34⟩
      · exact ⟨fun n z => ⟨fun k h => (by cases h), k4, f42, m4, f43⟩, k4, m4, f42, f43, f41, f44⟩
      · exact ⟨fun n z => ⟨fun k h => (by cases h), k5, f52, m5, f53⟩, k5, m5, f52, f53, f51, f54⟩
  have hNl : ∀ q ∈ NLt, va_Nw (.methodLinkNest q.1 q.2.1 q.2.2.1 q.2.2.2) s := by
    have key : NLt.all (fun q => decide (Cond.methodLinkNest q.1 q.2.1 q.2.2.1 q.2.2.2 ∈ lw_tbl)) = true := by decide +kernel
    intro q hq
    have := List.all_eq_true.mp key q hq
    exact va_Nw.of rfl (hts _ (by simpa using this))
  have hKA : KA D cA s := ⟨hK, a4, a5, a3, hNl⟩
  have hA : ∀ q : Nat, s.heap.size ≤ q → (fun q : Nat => s.heap.size ≤ q) q := fun _ h => h
  have F : CX p s m #[Value.ref b] meth c R_law code 10 room_1 D cA (fun q : Nat => s.heap.size ≤ q) s.heap := ⟨hx, hb, hml, hown, hG, hKA, hA, (Nat.le_of_ble_eq_true rfl), (Nat.le_of_ble_eq_true rfl)⟩
  have hW : WB D (fun q : Nat => s.heap.size ≤ q) s.heap [] s.heap [] := ⟨fun k q h => by simp at h, ⟨fun i j p q h => by simp at h, fun k q h => by simp at h⟩, va_S.rf⟩
  have hl := lv_entry ([.ref b]) (n := 10) (Nat.le_of_ble_eq_true rfl)
  rw [lg_entry_eq]
  generalize (lg_sl ([.ref b]) ++ List.replicate (10 - (lg_sl ([.ref b])).length) Slot.unset).toArray = ls at hl ⊢
  have hl : lv_has ls 10 [(0, .ref b)] := hl
  refine c_new F 6 (by decide) (fs := [.null, .null, .null, .null, .null, .null]) (GT_at 21 (by decide +kernel) (by decide +kernel)) (GT_at 22 (by decide +kernel) (by decide +kernel)) (GT_at 11 (by decide +kernel) (by decide +kernel)) (fun j hj => by rcases (show j = 0 ∨ j = 1 ∨ j = 2 ∨ j = 3 ∨ j = 4 ∨ j = 5 by have hj : j < 6 := hj; omega) with rfl | rfl | rfl | rfl | rfl | rfl <;> rfl) hW (Nat.le_of_ble_eq_true rfl) (Nat.le_of_ble_eq_true rfl) (by decide +kernel : decode code 0 = .ok (.new 11, 3)) (fun q1 H hW => ?_)
  refine lv_dup hx hb (by decide +kernel : decode code 3 = .ok (.dup, 1)) rfl ?_
  refine c_init F (io_X6_init l D cA) (GT_at 23 (by decide +kernel) (by decide +kernel)) (GT_at 11 (by decide +kernel) (by decide +kernel)) (GT_at 25 (by decide +kernel) (by decide +kernel)) (GT_at 24 (by decide +kernel) (by decide +kernel)) rfl (by decide +kernel) ⟨(Nat.le_of_ble_eq_true rfl), (Nat.le_of_ble_eq_true rfl)⟩ hW hl.1 (Nat.le_of_ble_eq_true rfl) (Nat.le_of_ble_eq_true rfl) (Nat.le_of_ble_eq_true rfl) (by decide +kernel : decode code 4 = .ok (.invokespecial 111, 3)) (fun f H locs e1 hW2 => ?_)
  subst e1
  refine lv_astore_n (lv' := [(1, .ref (f 0)), (0, .ref b)]) hx hb (by decide +kernel : decode code 7 = .ok (.astore_n 1, 1)) rfl hl (by decide) rfl (fun ls hl => ?_)
  refine W.widen (k := 184) (n := 5517) (Nat.le_of_ble_eq_true rfl) (Nat.le_of_ble_eq_true rfl) ?_
  have hW5 : WB D (fun q : Nat => s.heap.size ≤ q) s.heap (WA f cA) H locs := hW2
  have had := WA_ad b t1 t2 hW5.2.1
  have hPw := WA_P b t1 t2 L hW5.1
  have hLR : LR (ADf b t1 t2 f) 10 [wR 0, wR 3, none, none, none, none, none, none, none, none] ls := by
    refine ⟨_, hl, rfl, fun i v h => ?_⟩
    match i, h with
    | 0, h => cases h; exact List.mem_of_getElem? (i := 1) rfl
    | 1, h => cases h; exact List.mem_of_getElem? (i := 0) rfl
    | 2, h => cases h
    | 3, h => cases h
    | 4, h => cases h
    | 5, h => cases h
    | 6, h => cases h
    | 7, h => cases h
    | 8, h => cases h
    | 9, h => cases h
    | n + 10, h => simp at h
  have hE : Ext (ADf b t1 t2 f) L (xcF scr) (fun q : Nat => s.heap.size ≤ q) s s.heap := by
    refine ⟨fun r h => ?_, Z1, Z2⟩
    rcases (show r = 0 ∨ r = 1 ∨ r = 2 by omega) with rfl | rfl | rfl
    · obtain ⟨cell, g1, g2, g3, g4, g5⟩ := hX
      refine ⟨cell, g1, g2, g3, Nat.le_of_eq g4.symm, by rw [g4]; rfl, fun j hj => ?_, Nat.not_le.mpr hbl⟩
      rw [g5 j hj, hscr]
      show some (Value.int (xs j)) = some (Value.int (Int32.ofInt (xs ((j : Int)).toNat).toInt))
      rw [Int.toNat_natCast, Int32.ofInt_toInt]
    · exact T1
    · exact T2
  have F2 : Fx2 sx_L_law L scr p s m #[Value.ref b] c RL code 10 room_1 184 5517 200 false D cA (ADf b t1 t2 f) (fun q : Nat => s.heap.size ≤ q) :=
    ⟨hx, hb, hml, hown, hG, hK, had, hE, by omega, fun z hz => by simpa using List.all_eq_true.mp law_tb z hz, kLL_ok, kIL_ok, law_hc, law_hw, fun b0 h => ⟨Nat.le_trans (show 184 + 3 * b0 ≤ 1000 by omega) (Nat.le_of_ble_eq_true rfl), Nat.le_trans (show 5517 + 10 * b0 ≤ 10000 by omega) (Nat.le_of_ble_eq_true rfl)⟩, hA, fun M => by unfold wl2; rw [if_neg (by decide), List.append_nil]; exact had.D cA L M, fun z => by cases z⟩
  refine law_run L scr M0 M0_GI M0_Ok M0_v.2.2.2.2.2.2.1 (JW2 p l e room_1 s m #[Value.ref b] below meth c 10 184 5517 (lw_Z below #[Value.ref b] s) D cA (ADf b t1 t2 f) (fun q : Nat => s.heap.size ≤ q) L false) (sound2 F2 ?_ ?_) H locs ls (wl2_f hPw) hW5.2.2 hLR
  · intro b0 pc lp M x hb0 h1 h2 hq H locs ls hP hS hl
    have hb0 := Nat.le_of_ble_eq_true hb0
    have hq : x = 1 := hq
    subst hq
    have hdg := F2.2.2.2.2.2.2.2.2.2.1 _ (lk_mem h1)
    refine va_forget (fun q hq => hS.2.2 q hq) ?_
    refine W.widen (k := 600000) (n := 7302250) (by omega) (by omega) ?_
    exact lw_ret hx hb hr hlocks hdg
  · intro b0 pc lp M x hb0 h1 h2 hq
    cases h2
set_option maxHeartbeats 4000000 in
theorem lw_walk (l : Launch) (hflags : l.flags = flags0) (b : Addr) (xs : List Int32) : MetFree l x (headSpec (Jvm.Cond.code x code maxLocals ret :: tables_1) room_1) (lw_P b xs) (fun _ _ _ _ _ => True) lw_Q := by
  refine MetFree.of_bodyS (code := code) (maxLocals := maxLocals) (ret := ret) (by decide) ?_ ?_
  · intro args s m h hn
    obtain ⟨meth, c, h1, h2, h3, h4, h5, h6, -, -⟩ := Cond.code_spec hn (atoms_spec (ws := Jvm.Cond.code x code maxLocals ret :: tables_1) h _ List.mem_cons_self)
    exact ⟨meth, c, h1, h2, h3, h4, h5, h6⟩
  · intro p e s m args below meth c s₁ B hml0 hP _
    obtain ⟨rfl, hx, hbd, hgv⟩ := hP
    obtain ⟨scr, harrAt, hlist, hof, hsmall⟩ := hx
    obtain ⟨hcb, hkn, -, -⟩ := State.arrayAt?_spec harrAt
    have hown : s.vm.findClass R_law = some m.cls := findClass_of_methodNamed B.named
    have hts0 : ∀ c ∈ (Jvm.Cond.code x code maxLocals ret :: tables_1), c.before #[Value.ref b] s = true := atoms_spec (ws := Jvm.Cond.code x code maxLocals ret :: tables_1) B.pre
    have hts : ∀ w ∈ lw_tbl, w.before #[Value.ref b] s = true := k2_hts_sels lw_privs (fun w hw => hts0 w (List.mem_cons_of_mem _ hw)) lw_privs_ok
    have hml : c.maxLocals = 10 := B.maxLocals_eq (hts0 _ List.mem_cons_self)
    have X₀ : Stand p l e room_1 s m #[Value.ref b] below meth c s₁ [] 0 0 := Stand.of_body B
    have hh0 : s₁.heap = s.heap := by rw [B.state]; rfl
    have hsz : scr.slots.size = xs.length := by rw [← Array.length_toList, hlist, List.length_map]
    have hval : ∀ j : Nat, j < xs.length → scr.slots[j]? = some (.int (xs.getD j 0)) := fun j hj => by
      rw [← Array.getElem?_toList, hlist]
      simp [hj]
    have hbl : b < s.heap.size := (Array.getElem?_eq_some_iff.mp hcb).1
    have hX : va_X b xs.length (fun j => xs.getD j 0) s s.heap := ⟨scr, hcb, hof, hkn, hsz, hval⟩
    have K : W p l e room_1 s m #[Value.ref b] below meth c s₁.heap [] 0 0 (lw_Z below #[Value.ref b] s) (entryFrame m ([Value.ref b] : List Value).toArray 10) := by
      rw [hh0]
      exact whole_start l hflags hbd ⟨B.exec, B.bytes, B.returns, hml, hown, hts, hX, hbl, B.notSynchronized, hgv⟩
    obtain ⟨t, a1, o, b1, b2, b3⟩ := K s₁ rfl X₀
    exact ⟨t, o, a1, b1, b2, b3⟩
theorem lw_pre_spec {args : Array Value} {s : State} (h : (Jvm.Cond.and given_1 narrow_1).before args s = true) (hr : rest_1_c.before args s = true) : ∃ (b : Addr) (xs : List Int32), lw_P b xs args s := by
  have hs := flat_of_before _ h
  have hq := flat_of_before _ hr
  have hc : (Cond.count 1).before args s = true := hs _ (by decide +kernel)
  have harr : (Cond.arrayOf (.arg 0) .int).before args s = true := hs _ (by decide +kernel)
  have hle : (Cond.le (.length (.arg 0)) (.int 260)).before args s = true := hs _ (by decide +kernel)
  have hlen : (Cond.isInt (.length (.arg 0))).before args s = true := hq _ (by decide +kernel)
  have hall : (Cond.all (.arg 0) (.isInt (.elem (.arg 0) (.index 0)))).before args s = true := hq _ (by decide +kernel)
  obtain ⟨b, xs, hb, hx⟩ := State.ints_of_pre rfl harr hlen hall
  have hsm : xs.length < 2 ^ 31 := hx.choose_spec.2.2.2
  have hev : (Term.length (.arg 0)).eval args s none [] s = some (.int xs.length.toInt32) := hx.length_eval hb
  have hv := Cond.le_ints hev (show (Term.int 260).eval args s none [] s = some (.int 260) from rfl)
  have hd : xs.length.toInt32 ≤ 260 := by
    simpa [Cond.before, Cond.holds, hv] using hle
  have hN : xs.length ≤ 260 := (Int32.ofNat_le_ofNat hsm (by decide)).mp (show Int32.ofNat xs.length ≤ Int32.ofNat 260 from hd)
  exact ⟨b, xs, Cond.one_arg hc (show args[0]? = some (.ref b) from hb), hx, hN, h⟩
theorem lw_comes (l : Launch) (hflags : l.flags = flags0) : Comes l x (Jvm.Cond.code x code maxLocals ret :: tables_1) room_1 (fun tb e args s => Calls_1 tb e args s ∧ rest_1 tb e args s ∧ Pre_1 tb e args s)
    (fun _ _ args s o t => lw_Q args s o t) := by
  intro p e ha hc hk s m args below hf hfit hheap happ hpre
  obtain ⟨b, xs, hP⟩ := lw_pre_spec hpre.2.2 hpre.2.1
  obtain ⟨k, o, h1, h2, h3, hQ⟩ := lw_walk l hflags b xs p e ha hc hk s m args below hf ((Spec.applies_iff_loose hf).mp happ).1 hP trivial
  exact ⟨k, o, h1, h2, h3, hQ⟩
theorem lw_frame {s t : State} {o : Outcome} {args : Array Value} (h : Framed s o t [] 600000 7302250) :
    Framed s o t (fieldLocs frame_1_writes args s ++ arrayLocs frame_1_arrays args s ++ staticLocs frame_1_statics s) 600000 7302250 := h
theorem lw_limb (L : Cond) (hL : ∀ (args : Array Value) (s t : State), L.after args s (.returned (some (.int 1))) t = true) :
    ArmFor flags0 classFile x code maxLocals ret World_1 tables_1 room_1 Calls_1 rest_1 Pre_1
      (fun tb e a s o t => postC L tb e a s o t ∧ Framed s o t (fieldLocs frame_1_writes a s ++ arrayLocs frame_1_arrays a s ++ staticLocs frame_1_statics s) 600000 7302250) := by
  intro l hflags _ _ p e ha hc hk s m args below hf hfit hheap happ hpre
  obtain ⟨k, o, h1, h2, h3, rfl, hF⟩ := lw_comes l hflags p e ha hc hk s m args below hf hfit hheap happ hpre
  exact ⟨k, _, h1, h2, h3, hL args s _, lw_frame hF⟩
theorem i_vc : Claimed_1_1 ∧ Claimed_1_2 := ⟨lw_limb limb_1_1 (fun args s t => by simp [limb_1_1, Cond.after, Cond.holds, Cond.value]), lw_limb limb_1_2 (fun args s t => Cond.after_iff.mpr (by
  first | (rw [show limb_1_2 = Cond.eq .result (.int 1) from rfl, Cond.eq_ints (x := 1) (y := 1) rfl rfl]; simp; done) | (simp [limb_1_2, Cond.value, Term.eval]; done)))⟩
