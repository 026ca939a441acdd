/-- the same pool but for what the arms and the tallies have counted of acts -/
def eqT (S T : Pool) : Prop := gL T = gL S ∧ gK T = gK S ∧ gN T = gN S ∧ gQ T = gQ S ∧ gP T = gP S ∧ (∀ b, gK S b ≠ 0 → gI T b = gI S b) ∧ (∀ b k, k < 3 → gI T b k = gI S b k) ∧ (∀ b, gK S b < 11 → gR T b = gR S b)
theorem eqT.rf {S : Pool} : eqT S S := ⟨rfl, rfl, rfl, rfl, rfl, fun _ _ => rfl, fun _ _ _ => rfl, fun _ _ => rfl⟩
theorem eqT.tr {S T U : Pool} (h : eqT S T) (g : eqT T U) : eqT S U := by
  obtain ⟨h1, h2, h3, h4, h5, h6, h7, h8⟩ := h
  obtain ⟨g1, g2, g3, g4, g5, g6, g7, g8⟩ := g
  exact ⟨g1.trans h1, g2.trans h2, g3.trans h3, g4.trans h4, g5.trans h5, fun b hb => (g6 b (by rw [h2]; exact hb)).trans (h6 b hb), fun b k hk => (g7 b k hk).trans (h7 b k hk), fun b hb => (g8 b (by rw [h2]; exact hb)).trans (h8 b hb)⟩
theorem eqT.act {S : Pool} {t1 t2 t3 i1 i2 i3 : Nat} {v1 v2 : Int32} {v3 : Int64} (h1 : gK S t1 = 11) (h2 : gK S t2 = 12) : eqT S (pR (pJ (pR S t2 i2 v2) t3 i3 v3) t1 i1 v1) := by
  refine ⟨rfl, rfl, rfl, rfl, rfl, fun _ _ => rfl, fun _ _ _ => rfl, fun b hb => ?_⟩
  have n1 : b ≠ t1 := fun e => by subst e; omega
  have n2 : b ≠ t2 := fun e => by subst e; omega
  exact (u2_row (f := u2 (gR S) t2 i2 v2) n1).trans (u2_row n2)
theorem eqT.arm2 {S : Pool} {b : Nat} {u v : Int32} (h : gK S b = 0) : eqT S (pI (pI S b 3 u) b 4 v) := by
  refine ⟨rfl, rfl, rfl, rfl, rfl, fun c hc => ?_, fun c k hk => ?_, fun _ _ => rfl⟩
  · have n1 : c ≠ b := fun e => by subst e; exact hc h
    exact (u2_row (f := u2 (gI S) b 3 u) n1).trans (u2_row n1)
  · exact (u2_k (f := u2 (gI S) b 3 u) (by omega)).trans (u2_k (by omega))
theorem eqT.o {S T : Pool} {a k : Nat} (h : eqT S T) (ho : isO S a k) : isO T a k := ⟨by rw [h.1]; exact ho.1, by rw [h.2.1]; exact ho.2⟩
theorem eqT.a {S T : Pool} {a k n : Nat} (h : eqT S T) (ho : isA S a k n) : isA T a k n := ⟨by rw [h.1]; exact ho.1, by rw [h.2.1]; exact ho.2.1, by rw [h.2.2.1]; exact ho.2.2⟩
theorem eqT.q {S T : Pool} (h : eqT S T) (a k : Nat) : gQ T a k = gQ S a k := by rw [h.2.2.2.1]
theorem eqT.p {S T : Pool} (h : eqT S T) (a k : Nat) : gP T a k = gP S a k := by rw [h.2.2.2.2.1]
theorem eqT.i {S T : Pool} {a ka : Nat} (h : eqT S T) (ha : isO S a ka) (hk : ka ≠ 0) (k : Nat) : gI T a k = gI S a k := by rw [h.2.2.2.2.2.1 a (by rw [ha.2]; exact hk)]
theorem eqT.ext {S T : Pool} (h : eqT S T) : Ext S T := fun b hb => ⟨⟨by rw [h.1]; exact hb, by rw [h.2.1], by rw [h.2.2.1]⟩, fun k => h.q b k, fun k => h.p b k⟩
theorem eqT.okR {S T : Pool} {ar : Nat} (h : eqT S T) (hR : okR S ar) : okR T ar := by
  refine ⟨h.a hR.1, fun j hj a ha => ?_⟩
  rw [h.p] at ha
  obtain ⟨h1, h2⟩ := hR.2 j hj a ha
  exact ⟨h.ext.sw h1 (by rw [h.i h1.1 (by decide)]; exact h1.2.2.2.2.2), (h.i h1.1 (by decide) 0).trans h2⟩
theorem eqT.arm {S T : Pool} (h : eqT S T) (u : Int32) : ∀ n r, cArm T u n r = cArm S u n r := by
  intro n
  induction n with
  | zero => intro r; cases r <;> rfl
  | succ n ih =>
    intro r
    cases r with
    | none => rfl
    | some b =>
      unfold cArm
      rw [h.2.2.2.2.2.2.1 b 0 (by omega), h.q, ih]
theorem eqT.armA {S T : Pool} (h : eqT S T) (a : Nat) (u : Int32) : cArmA T a u = cArmA S a u := by unfold cArmA; rw [h.q, h.arm]
/-- has a user an arm there -/
def cAn (S : Pool) (a : Nat) (u : Int32) : Int32 := if cArmA S a u = none then 0 else 1
def cAct (S : Pool) (ar : Nat) (u : Int32) : Nat → Nat → Int32 → Int32
  | 0, _, acc => acc
  | c + 1, k, acc => match gP S ar k with
    | none => cAct S ar u c (k + 1) acc
    | some a => if cAn S a u = 0 then cAct S ar u c (k + 1) acc else cAct S ar u c (k + 1) (acc + 1)
theorem cAn_01 (S : Pool) (a : Nat) (u : Int32) : cAn S a u = 0 ∨ cAn S a u = 1 := by
  unfold cAn
  split
  · exact Or.inl rfl
  · exact Or.inr rfl
set_option maxRecDepth 100000 in
set_option maxHeartbeats 4000000 in
/-- countAct -/
theorem c_countAct (l : Launch) (D : va_G) (cA : Nat → ClassId) (sz : Nat) (S : Pool) (ty : Nat) (hty : isO S ty 4) (t1 : Nat) (hq1 : gQ S ty 1 = some t1) (ht1 : isA S t1 11 4) (t2 : Nat) (hq2 : gQ S ty 2 = some t2) (ht2 : isA S t2 12 4) (t3 : Nat) (hq3 : gQ S ty 3 = some t3) (ht3 : isA S t3 20 4) (k : Int32) (s0 : Int64) (p1 z : Int32) : Met l yX4_countAct (Cond.code yX4_countAct cX4_countAct 8 none :: TT) ({ frames := 1, cells := 0, slots := 0, locals := 20 }) (va_Pc [.ref ty, .int k, .long s0, .int p1, .int z] (kPre D cA (PW cA S) sz)) (va_Qv (fun (x_ : Pool) => eqT S x_) (fun x_ => kB D cA (va_A (PW cA S) sz) (PW cA x_)) (va_A (PW cA S) sz)) 0 0 (va_A (PW cA S) sz) := by
  refine Met.ofW (cc := cX4_countAct) (maxL := 8) (ret := none) (by decide) rfl ?_
  intro p e s m args below meth c s₁ B hml hv
  obtain ⟨rfl, hsz, hP, hK, hD0, hTB⟩ := hv
  have hx := B.exec
  have hb := B.bytes
  have hr := B.returns
  have hts := atoms_spec (ws := Cond.code yX4_countAct cX4_countAct 8 none :: TT) B.pre
  have htT : ∀ w ∈ TT, w.before _ s = true := fun w h => hts w (List.mem_cons_of_mem _ h)
  have hown : s.vm.findClass RX4 = some m.cls := findClass_of_methodNamed B.named
  have hlocks := B.notSynchronized
  subst hsz
  have hD := hD0.self (sz := s.heap.size)
  generalize hAe : va_A (PW cA S) s.heap.size = A at hD ⊢
  have hA : ∀ q : Nat, s.heap.size ≤ q → A q := fun q h => by rw [← hAe]; exact Or.inr h
  have hS : va_S A s.heap s.heap [] := va_S.rf
  have hl := lv_entry ([.ref ty, .int k, .long s0, .int p1, .int z]) (n := 8) (Nat.le_of_ble_eq_true rfl)
  rw [lg_entry_eq]
  generalize (lg_sl ([.ref ty, .int k, .long s0, .int p1, .int z]) ++ List.replicate (8 - (lg_sl ([.ref ty, .int k, .long s0, .int p1, .int z])).length) Slot.unset).toArray = ls at hl ⊢
  have hl : lv_has ls 8 [(0, .ref ty), (1, .int k), (2, .long s0), (4, .int p1), (5, .int z)] := hl
  refine lv_iload_n hx hb dX4_countAct_0 rfl (lv_at hl 1 rfl) ?_
  refine kc_i (va_runS (As := [.int k]) (rest := []) ⟨hx, hb, hml, hown, htT⟩ (c_isKept l D cA _ S k) (cwS 1 htT (kg_S m_ml_X4_25 m_st_X4_isKept m_in_X4 m_cd_X4_isKept) rfl rfl rfl (by decide +kernel) ⟨Nat.le_of_ble_eq_true rfl, Nat.le_of_ble_eq_true rfl⟩) (kp_S hK hP hD hTB) rfl rfl hl.1 rfl (lv_room (Nat.le_of_ble_eq_true rfl)) dX4_countAct_1 ⟨Nat.le_of_ble_eq_true rfl, Nat.le_of_ble_eq_true rfl⟩) hD hS hA (fun r_1 x_1 H locs hq_1 hP hD hS => ?_)
  rw [hq_1.1]
  rw [hq_1.2] at hP hD
  refine lv_if_eq (tgt := 62) hx hb dX4_countAct_4 (by decide) (fun c_2 => ?_) (fun c_2 => ?_)
  · exact W.vret hx hb hr (fun t ht hW => ⟨⟨S, rfl, eqT.rf, by rw [ht]; exact hP, va_K.moved hW.alike hK, hD⟩, hS.F ht⟩) hS.2.2 dX4_countAct_62
  · refine lv_lload_n hx hb dX4_countAct_7 rfl (lv_at hl 2 rfl) ?_
    refine lv_iload hx hb dX4_countAct_8 (lv_at hl 3 rfl) ?_
    refine lv_i2l (v := p1.toInt64) hx hb dX4_countAct_10 rfl ?_
    refine lv_ladd hx hb dX4_countAct_11 ?_
    refine lv_lstore (lv' := [(6, .long (s0 + p1.toInt64)), (0, .ref ty), (1, .int k), (2, .long s0), (4, .int p1), (5, .int z)]) hx hb dX4_countAct_12 hl (by decide) rfl (fun ls hl => ?_)
    refine lv_aload_n hx hb dX4_countAct_14 rfl (lv_at hl 1 rfl) ?_
    refine kx_gets hx hb htT m_u_X4 hown hK hP hty (Nat.le_of_ble_eq_true rfl) rfl 2 (by decide) (by decide) rfl hq2 (htT _ m_fl_X4_18) dX4_countAct_15 ?_
    refine lv_iload_n hx hb dX4_countAct_18 rfl (lv_at hl 2 rfl) ?_
    refine lv_dup2_11 hx hb dX4_countAct_19 rfl rfl ?_
    refine kx_iald hx hb hK hP ht2 (Nat.le_of_ble_eq_true rfl) (Nat.le_of_ble_eq_true rfl) (cKept_in c_2) dX4_countAct_20 ?_
    refine lv_iload hx hb dX4_countAct_21 (lv_at hl 4 rfl) ?_
    refine lv_iadd hx hb dX4_countAct_23 ?_
    refine kx_iast hx hb hK hP hD hS ht2 (Nat.le_of_ble_eq_true rfl) (Nat.le_of_ble_eq_true rfl) (cKept_in c_2) dX4_countAct_24 (fun H locs hP hD hS => ?_)
    refine lv_aload_n hx hb dX4_countAct_25 rfl (lv_at hl 1 rfl) ?_
    refine kx_gets hx hb htT m_u_X4 hown hK hP hty (Nat.le_of_ble_eq_true rfl) rfl 3 (by decide) (by decide) rfl hq3 (htT _ m_fl_X4_21) dX4_countAct_26 ?_
    refine lv_iload_n hx hb dX4_countAct_29 rfl (lv_at hl 2 rfl) ?_
    refine lv_dup2_11 hx hb dX4_countAct_30 rfl rfl ?_
    refine kx_lald hx hb hK hP ht3 (cKept_in c_2) dX4_countAct_31 ?_
    refine lv_lload hx hb dX4_countAct_32 (lv_at hl 0 rfl) ?_
    refine lv_lload hx hb dX4_countAct_34 (lv_at hl 0 rfl) ?_
    refine lv_lmul hx hb dX4_countAct_36 ?_
    refine lv_lload_n hx hb dX4_countAct_37 rfl (lv_at hl 3 rfl) ?_
    refine lv_lload_n hx hb dX4_countAct_38 rfl (lv_at hl 3 rfl) ?_
    refine lv_lmul hx hb dX4_countAct_39 ?_
    refine lv_lsub hx hb dX4_countAct_40 ?_
    refine lv_ladd hx hb dX4_countAct_41 ?_
    refine kx_last hx hb hK hP hD hS ht3 (cKept_in c_2) dX4_countAct_42 (fun H locs hP hD hS => ?_)
    refine lv_aload_n hx hb dX4_countAct_43 rfl (lv_at hl 1 rfl) ?_
    refine kx_gets hx hb htT m_u_X4 hown hK hP hty (Nat.le_of_ble_eq_true rfl) rfl 1 (by decide) (by decide) rfl hq1 (htT _ m_fl_X4_15) dX4_countAct_44 ?_
    refine lv_iload_n hx hb dX4_countAct_47 rfl (lv_at hl 2 rfl) ?_
    refine lv_dup2_11 hx hb dX4_countAct_48 rfl rfl ?_
    refine kx_iald hx hb hK hP ht1 (Nat.le_of_ble_eq_true rfl) (Nat.le_of_ble_eq_true rfl) (cKept_in c_2) dX4_countAct_49 ?_
    refine lv_iload hx hb dX4_countAct_50 (lv_at hl 5 rfl) ?_
    refine lv_if_eq (tgt := 59) hx hb dX4_countAct_52 (by decide) (fun c_3 => ?_) (fun c_3 => ?_)
    · refine lv_iconst (v := 0) hx hb dX4_countAct_59 (by decide) ?_
      refine lv_iadd hx hb dX4_countAct_60 ?_
      refine kx_iast hx hb hK hP hD hS ht1 (Nat.le_of_ble_eq_true rfl) (Nat.le_of_ble_eq_true rfl) (cKept_in c_2) dX4_countAct_61 (fun H locs hP hD hS => ?_)
      exact W.vret hx hb hr (fun t ht hW => ⟨⟨pR (pJ (pR S t2 k.toNatClampNeg ((gR S t2 k.toNatClampNeg) + p1)) t3 k.toNatClampNeg ((gJ (pR S t2 k.toNatClampNeg ((gR S t2 k.toNatClampNeg) + p1)) t3 k.toNatClampNeg) + (((s0 + p1.toInt64) * (s0 + p1.toInt64)) - (s0 * s0)))) t1 k.toNatClampNeg ((gR (pJ (pR S t2 k.toNatClampNeg ((gR S t2 k.toNatClampNeg) + p1)) t3 k.toNatClampNeg ((gJ (pR S t2 k.toNatClampNeg ((gR S t2 k.toNatClampNeg) + p1)) t3 k.toNatClampNeg) + (((s0 + p1.toInt64) * (s0 + p1.toInt64)) - (s0 * s0)))) t1 k.toNatClampNeg) + 0), rfl, eqT.act ht1.2.1 ht2.2.1, by rw [ht]; exact hP, va_K.moved hW.alike hK, hD⟩, hS.F ht⟩) hS.2.2 dX4_countAct_62
    · refine lv_iconst (v := 1) hx hb dX4_countAct_55 (by decide) ?_
      refine lv_goto (tgt := 60) hx hb dX4_countAct_56 (by decide) ?_
      refine lv_iadd hx hb dX4_countAct_60 ?_
      refine kx_iast hx hb hK hP hD hS ht1 (Nat.le_of_ble_eq_true rfl) (Nat.le_of_ble_eq_true rfl) (cKept_in c_2) dX4_countAct_61 (fun H locs hP hD hS => ?_)
      exact W.vret hx hb hr (fun t ht hW => ⟨⟨pR (pJ (pR S t2 k.toNatClampNeg ((gR S t2 k.toNatClampNeg) + p1)) t3 k.toNatClampNeg ((gJ (pR S t2 k.toNatClampNeg ((gR S t2 k.toNatClampNeg) + p1)) t3 k.toNatClampNeg) + (((s0 + p1.toInt64) * (s0 + p1.toInt64)) - (s0 * s0)))) t1 k.toNatClampNeg ((gR (pJ (pR S t2 k.toNatClampNeg ((gR S t2 k.toNatClampNeg) + p1)) t3 k.toNatClampNeg ((gJ (pR S t2 k.toNatClampNeg ((gR S t2 k.toNatClampNeg) + p1)) t3 k.toNatClampNeg) + (((s0 + p1.toInt64) * (s0 + p1.toInt64)) - (s0 * s0)))) t1 k.toNatClampNeg) + 1), rfl, eqT.act ht1.2.1 ht2.2.1, by rw [ht]; exact hP, va_K.moved hW.alike hK, hD⟩, hS.F ht⟩) hS.2.2 dX4_countAct_62

set_option maxRecDepth 100000 in
set_option maxHeartbeats 4000000 in
/-- addWorth -/
theorem c_addWorth (l : Launch) (D : va_G) (cA : Nat → ClassId) (sz : Nat) (S : Pool) (a : Nat) (hsw : okSw S a) (p0 p1 : Int32) : Met l yX3_addWorth (Cond.code yX3_addWorth cX3_addWorth 4 (some .boolean) :: TT) ({ frames := 2, cells := 0, slots := 0, locals := 47 }) (va_Pc [.ref a, .int p0, .int p1] (kPre D cA (PW cA S) sz)) (va_Qi (fun (r_ : Int32) (x_ : Pool) => r_ = cAn S a p0 ∧ eqT S x_) (fun x_ => kB D cA (va_A (PW cA S) sz) (PW cA x_)) (va_A (PW cA S) sz)) 0 0 (va_A (PW cA S) sz) := by
  refine Met.ofW (cc := cX3_addWorth) (maxL := 4) (ret := (some .boolean)) (by decide) rfl ?_
  intro p e s m args below meth c s₁ B hml hv
  obtain ⟨rfl, hsz, hP, hK, hD0, hTB⟩ := hv
  have hx := B.exec
  have hb := B.bytes
  have hr := B.returns
  have hts := atoms_spec (ws := Cond.code yX3_addWorth cX3_addWorth 4 (some .boolean) :: TT) B.pre
  have htT : ∀ w ∈ TT, w.before _ s = true := fun w h => hts w (List.mem_cons_of_mem _ h)
  have hown : s.vm.findClass RX3 = some m.cls := findClass_of_methodNamed B.named
  have hlocks := B.notSynchronized
  subst hsz
  have hD := hD0.self (sz := s.heap.size)
  generalize hAe : va_A (PW cA S) s.heap.size = A at hD ⊢
  have hA : ∀ q : Nat, s.heap.size ≤ q → A q := fun q h => by rw [← hAe]; exact Or.inr h
  have hS : va_S A s.heap s.heap [] := va_S.rf
  have hl := lv_entry ([.ref a, .int p0, .int p1]) (n := 4) (Nat.le_of_ble_eq_true rfl)
  rw [lg_entry_eq]
  generalize (lg_sl ([.ref a, .int p0, .int p1]) ++ List.replicate (4 - (lg_sl ([.ref a, .int p0, .int p1])).length) Slot.unset).toArray = ls at hl ⊢
  have hl : lv_has ls 4 [(0, .ref a), (1, .int p0), (2, .int p1)] := hl
  obtain ⟨ho, -, -, ⟨cn, hcn, hch⟩, ⟨ty, hq6, hty, -, ⟨t1, hq1, ht1⟩, ⟨t2, hq2, ht2⟩, ⟨t3, hq3, ht3⟩⟩, -⟩ := hsw
  have earm : ∀ u, cArm S u cn (gQ S a 7) = cArmA S a u := fun u => cArm_fuel cn 100 _ hch hcn
  refine lv_aload_n hx hb dX3_addWorth_0 rfl (lv_at hl 0 rfl) ?_
  refine lv_iload_n hx hb dX3_addWorth_1 rfl (lv_at hl 1 rfl) ?_
  refine kc_q (va_runV (As := [.int p0]) (rest := []) ⟨hx, hb, hml, hown, htT⟩ (c_armOf l D cA _ S a ho cn hch p0) (cwV 1 htT (kg_V m_ml_X3_104 m_im_X3_armOf m_sl_X3_armOf m_in_X3 m_cd_X3_armOf) rfl rfl rfl (by decide +kernel) ⟨Nat.le_of_ble_eq_true rfl, Nat.le_of_ble_eq_true rfl⟩) (kp_V hK hP hD hTB (kp_rc hK hP ho (Nat.le_of_ble_eq_true rfl) rfl)) rfl rfl hl.1 rfl (lv_room (Nat.le_of_ble_eq_true rfl)) dX3_addWorth_2 ⟨Nat.le_of_ble_eq_true rfl, Nat.le_of_ble_eq_true rfl⟩) hD hS hA (fun r_1 x_1 H locs hq_1 hP hD hS => ?_)
  rw [hq_1.1.trans (earm _)]
  rw [hq_1.2] at hP hD
  rcases harm : cArmA S a p0 with _ | y_1
  · refine lv_astore_nN (lv' := [(3, .null), (0, .ref a), (1, .int p0), (2, .int p1)]) hx hb dX3_addWorth_5 rfl hl (by decide) rfl (fun ls hl => ?_)
    refine lv_aload_nN hx hb dX3_addWorth_6 rfl (lv_at hl 0 rfl) ?_
    refine lv_ifnonnullN hx hb dX3_addWorth_7 ?_
    refine lv_iconst (v := 0) hx hb dX3_addWorth_10 (by decide) ?_
    exact W.zret (v := 0) hx hb hr (rfl) (fun t ht hW => ⟨⟨0, S, rfl, ⟨by simp [cAn, harm], eqT.rf⟩, by rw [ht]; exact hP, va_K.moved hW.alike hK, hD⟩, hS.F ht⟩) hS.2.2 dX3_addWorth_11
  · have hy_9 := (cArm_isO cn _ _ hch ((earm _).trans harm)).1
    refine lv_astore_n (lv' := [(3, .ref y_1), (0, .ref a), (1, .int p0), (2, .int p1)]) hx hb dX3_addWorth_5 rfl hl (by decide) rfl (fun ls hl => ?_)
    refine lv_aload_n hx hb dX3_addWorth_6 rfl (lv_at hl 0 rfl) ?_
    refine lv_ifnonnull (tgt := 12) hx hb dX3_addWorth_7 (by decide) ?_
    refine lv_aload_n hx hb dX3_addWorth_12 rfl (lv_at hl 1 rfl) ?_
    refine kx_gets hx hb htT m_u_X3 hown hK hP ho (Nat.le_of_ble_eq_true rfl) rfl 6 (by decide) (by decide) rfl hq6 (htT _ m_fl_X3_24) dX3_addWorth_13 ?_
    refine lv_aload_n hx hb dX3_addWorth_16 rfl (lv_at hl 0 rfl) ?_
    refine kx_getiN hx hb htT m_u_X0 hown hK hP hy_9 (Nat.le_of_ble_eq_true rfl) rfl 1 (by decide) (by decide) rfl (hTB.use m_fl_X3_108) dX3_addWorth_17 ?_
    refine lv_aload_n hx hb dX3_addWorth_20 rfl (lv_at hl 0 rfl) ?_
    refine kx_getiN hx hb htT m_u_X0 hown hK hP hy_9 (Nat.le_of_ble_eq_true rfl) rfl 3 (by decide) (by decide) rfl (hTB.use m_fl_X3_111) dX3_addWorth_21 ?_
    refine lv_i2l (v := (gI S y_1 3).toInt64) hx hb dX3_addWorth_24 rfl ?_
    refine lv_iload_n hx hb dX3_addWorth_25 rfl (lv_at hl 3 rfl) ?_
    refine lv_aload_n hx hb dX3_addWorth_26 rfl (lv_at hl 0 rfl) ?_
    refine kx_getiN hx hb htT m_u_X0 hown hK hP hy_9 (Nat.le_of_ble_eq_true rfl) rfl 4 (by decide) (by decide) rfl (hTB.use m_fl_X3_114) dX3_addWorth_27 ?_
    refine lv_if_ne (tgt := 37) hx hb dX3_addWorth_30 (by decide) (fun c_2 => ?_) (fun c_2 => ?_)
    · refine lv_iconst (v := 0) hx hb dX3_addWorth_37 (by decide) ?_
      refine kc_v (va_runV (As := [.int (gI S y_1 1), .long ((gI S y_1 3).toInt64), .int p1, .int 0]) (rest := []) ⟨hx, hb, hml, hown, htT⟩ (c_countAct l D cA _ S ty hty t1 hq1 ht1 t2 hq2 ht2 t3 hq3 ht3 (gI S y_1 1) ((gI S y_1 3).toInt64) p1 0) (cwV 4 htT (kg_V m_ml_X3_117 m_im_X4_countAct m_sl_X4_countAct m_in_X4 m_cd_X4_countAct) rfl rfl rfl (by decide +kernel) ⟨Nat.le_of_ble_eq_true rfl, Nat.le_of_ble_eq_true rfl⟩) (kp_V hK hP hD hTB (kp_rc hK hP hty (Nat.le_of_ble_eq_true rfl) rfl)) rfl rfl hl.1 rfl (lv_room (Nat.le_of_ble_eq_true rfl)) dX3_addWorth_38 ⟨Nat.le_of_ble_eq_true rfl, Nat.le_of_ble_eq_true rfl⟩) hD hS hA (fun x_3 H locs hq_3 hP hD hS => ?_)
      have hyn : isO x_3 y_1 0 := hq_3.o hy_9
      refine lv_aload_n hx hb dX3_addWorth_41 rfl (lv_at hl 0 rfl) ?_
      refine lv_dup hx hb dX3_addWorth_42 rfl ?_
      refine kx_getiN hx hb htT m_u_X0 hown hK hP hyn (Nat.le_of_ble_eq_true rfl) rfl 3 (by decide) (by decide) rfl (hTB.use m_fl_X3_111) dX3_addWorth_43 ?_
      refine lv_iload_n hx hb dX3_addWorth_46 rfl (lv_at hl 3 rfl) ?_
      refine lv_iadd hx hb dX3_addWorth_47 ?_
      refine kx_putiN (ty := .int) hx hb htT m_u_X0 tyX0 tyX0_ok nmX0 hown hK hP hD hS hyn (Nat.le_of_ble_eq_true rfl) rfl 3 (by decide) (by decide) rfl (hTB.use m_fl_X3_111) rfl (by decide +kernel) rfl rfl dX3_addWorth_48 (fun H locs hP hD hS => ?_)
      refine lv_aload_n hx hb dX3_addWorth_51 rfl (lv_at hl 0 rfl) ?_
      refine lv_iconst (v := 1) hx hb dX3_addWorth_52 (by decide) ?_
      refine kx_putiN (ty := .boolean) hx hb htT m_u_X0 tyX0 tyX0_ok nmX0 hown hK hP hD hS hyn (Nat.le_of_ble_eq_true rfl) rfl 4 (by decide) (by decide) rfl (hTB.use m_fl_X3_114) rfl (by decide +kernel) (kz_b (Or.inr rfl)).1 (kz_b (Or.inr rfl)).2 dX3_addWorth_53 (fun H locs hP hD hS => ?_)
      refine lv_iconst (v := 1) hx hb dX3_addWorth_56 (by decide) ?_
      exact W.zret (v := 1) hx hb hr (rfl) (fun t ht hW => ⟨⟨1, pI (pI x_3 y_1 3 ((gI x_3 y_1 3) + p1)) y_1 4 1, rfl, ⟨by simp [cAn, harm], hq_3.tr (eqT.arm2 hyn.2)⟩, by rw [ht]; exact hP, va_K.moved hW.alike hK, hD⟩, hS.F ht⟩) hS.2.2 dX3_addWorth_57
    · refine lv_iconst (v := 1) hx hb dX3_addWorth_33 (by decide) ?_
      refine lv_goto (tgt := 38) hx hb dX3_addWorth_34 (by decide) ?_
      refine kc_v (va_runV (As := [.int (gI S y_1 1), .long ((gI S y_1 3).toInt64), .int p1, .int 1]) (rest := []) ⟨hx, hb, hml, hown, htT⟩ (c_countAct l D cA _ S ty hty t1 hq1 ht1 t2 hq2 ht2 t3 hq3 ht3 (gI S y_1 1) ((gI S y_1 3).toInt64) p1 1) (cwV 4 htT (kg_V m_ml_X3_117 m_im_X4_countAct m_sl_X4_countAct m_in_X4 m_cd_X4_countAct) rfl rfl rfl (by decide +kernel) ⟨Nat.le_of_ble_eq_true rfl, Nat.le_of_ble_eq_true rfl⟩) (kp_V hK hP hD hTB (kp_rc hK hP hty (Nat.le_of_ble_eq_true rfl) rfl)) rfl rfl hl.1 rfl (lv_room (Nat.le_of_ble_eq_true rfl)) dX3_addWorth_38 ⟨Nat.le_of_ble_eq_true rfl, Nat.le_of_ble_eq_true rfl⟩) hD hS hA (fun x_4 H locs hq_4 hP hD hS => ?_)
      have hyn : isO x_4 y_1 0 := hq_4.o hy_9
      refine lv_aload_n hx hb dX3_addWorth_41 rfl (lv_at hl 0 rfl) ?_
      refine lv_dup hx hb dX3_addWorth_42 rfl ?_
      refine kx_getiN hx hb htT m_u_X0 hown hK hP hyn (Nat.le_of_ble_eq_true rfl) rfl 3 (by decide) (by decide) rfl (hTB.use m_fl_X3_111) dX3_addWorth_43 ?_
      refine lv_iload_n hx hb dX3_addWorth_46 rfl (lv_at hl 3 rfl) ?_
      refine lv_iadd hx hb dX3_addWorth_47 ?_
      refine kx_putiN (ty := .int) hx hb htT m_u_X0 tyX0 tyX0_ok nmX0 hown hK hP hD hS hyn (Nat.le_of_ble_eq_true rfl) rfl 3 (by decide) (by decide) rfl (hTB.use m_fl_X3_111) rfl (by decide +kernel) rfl rfl dX3_addWorth_48 (fun H locs hP hD hS => ?_)
      refine lv_aload_n hx hb dX3_addWorth_51 rfl (lv_at hl 0 rfl) ?_
      refine lv_iconst (v := 1) hx hb dX3_addWorth_52 (by decide) ?_
      refine kx_putiN (ty := .boolean) hx hb htT m_u_X0 tyX0 tyX0_ok nmX0 hown hK hP hD hS hyn (Nat.le_of_ble_eq_true rfl) rfl 4 (by decide) (by decide) rfl (hTB.use m_fl_X3_114) rfl (by decide +kernel) (kz_b (Or.inr rfl)).1 (kz_b (Or.inr rfl)).2 dX3_addWorth_53 (fun H locs hP hD hS => ?_)
      refine lv_iconst (v := 1) hx hb dX3_addWorth_56 (by decide) ?_
      exact W.zret (v := 1) hx hb hr (rfl) (fun t ht hW => ⟨⟨1, pI (pI x_4 y_1 3 ((gI x_4 y_1 3) + p1)) y_1 4 1, rfl, ⟨by simp [cAn, harm], hq_4.tr (eqT.arm2 hyn.2)⟩, by rw [ht]; exact hP, va_K.moved hW.alike hK, hD⟩, hS.F ht⟩) hS.2.2 dX3_addWorth_57

set_option maxRecDepth 100000 in
set_option maxHeartbeats 4000000 in
/-- act -/
theorem c_act (l : Launch) (D : va_G) (cA : Nat → ClassId) (sz : Nat) (S : Pool) (x : Nat) (hx5 : isO S x 5) (ar : Nat) (hq0 : gQ S x 0 = some ar) (hR : okR S ar) (p0 p1 : Int32) (h1 : kOut p0 0 9999 = 0) (h2 : kOut p1 0 100 = 0) : Met l yX5_act (Cond.code yX5_act cX5_act 8 (some .int) :: TT) ({ frames := 3, cells := 0, slots := 0, locals := 70 }) (va_Pc [.ref x, .int p0, .int p1] (kPre D cA (PW cA S) sz)) (va_Qi (fun (r_ : Int32) (x_ : Pool) => r_ = cAct S ar p0 8 0 0 ∧ eqT S x_) (fun x_ => kB D cA (va_A (PW cA S) sz) (PW cA x_)) (va_A (PW cA S) sz)) 0 0 (va_A (PW cA S) sz) := by
  refine Met.ofW (cc := cX5_act) (maxL := 8) (ret := (some .int)) (by decide) rfl ?_
  intro p e s m args below meth c s₁ B hml hv
  obtain ⟨rfl, hsz, hP, hK, hD0, hTB⟩ := hv
  have hx := B.exec
  have hb := B.bytes
  have hr := B.returns
  have hts := atoms_spec (ws := Cond.code yX5_act cX5_act 8 (some .int) :: TT) B.pre
  have htT : ∀ w ∈ TT, w.before _ s = true := fun w h => hts w (List.mem_cons_of_mem _ h)
  have hown : s.vm.findClass RX5 = some m.cls := findClass_of_methodNamed B.named
  have hlocks := B.notSynchronized
  subst hsz
  have hD := hD0.self (sz := s.heap.size)
  generalize hAe : va_A (PW cA S) s.heap.size = A at hD ⊢
  have hA : ∀ q : Nat, s.heap.size ≤ q → A q := fun q h => by rw [← hAe]; exact Or.inr h
  have hS : va_S A s.heap s.heap [] := va_S.rf
  have hl := lv_entry ([.ref x, .int p0, .int p1]) (n := 8) (Nat.le_of_ble_eq_true rfl)
  rw [lg_entry_eq]
  generalize (lg_sl ([.ref x, .int p0, .int p1]) ++ List.replicate (8 - (lg_sl ([.ref x, .int p0, .int p1])).length) Slot.unset).toArray = ls at hl ⊢
  have hl : lv_has ls 8 [(0, .ref x), (1, .int p0), (2, .int p1)] := hl
  refine lv_iload_n hx hb dX5_act_0 rfl (lv_at hl 1 rfl) ?_
  refine lv_iconst (v := 0) hx hb dX5_act_1 (by decide) ?_
  refine lv_sipush (v := 9999) hx hb dX5_act_2 (by decide) ?_
  refine kc_i (va_runS (As := [.int p0, .int 0, .int 9999]) (rest := []) ⟨hx, hb, hml, hown, htT⟩ (c_isOutside l D cA _ S p0 0 9999) (cwS 3 htT (kg_S m_ml_X5_22 m_st_X5_isOutside m_in_X5 m_cd_X5_isOutside) rfl rfl rfl (by decide +kernel) ⟨Nat.le_of_ble_eq_true rfl, Nat.le_of_ble_eq_true rfl⟩) (kp_S hK hP hD hTB) rfl rfl hl.1 rfl (lv_room (Nat.le_of_ble_eq_true rfl)) dX5_act_5 ⟨Nat.le_of_ble_eq_true rfl, Nat.le_of_ble_eq_true rfl⟩) hD hS hA (fun r_1 x_1 H locs hq_1 hP hD hS => ?_)
  rw [hq_1.1.trans h1]
  rw [hq_1.2] at hP hD
  refine lv_if_ne (tgt := 21) hx hb dX5_act_8 (by decide) (fun c_2 => absurd c_2 (by decide)) (fun _ => ?_)
  refine lv_iload_n hx hb dX5_act_11 rfl (lv_at hl 2 rfl) ?_
  refine lv_iconst (v := 0) hx hb dX5_act_12 (by decide) ?_
  refine lv_bipush (v := 100) hx hb dX5_act_13 (by decide) ?_
  refine kc_i (va_runS (As := [.int p1, .int 0, .int 100]) (rest := []) ⟨hx, hb, hml, hown, htT⟩ (c_isOutside l D cA _ S p1 0 100) (cwS 3 htT (kg_S m_ml_X5_22 m_st_X5_isOutside m_in_X5 m_cd_X5_isOutside) rfl rfl rfl (by decide +kernel) ⟨Nat.le_of_ble_eq_true rfl, Nat.le_of_ble_eq_true rfl⟩) (kp_S hK hP hD hTB) rfl rfl hl.1 rfl (lv_room (Nat.le_of_ble_eq_true rfl)) dX5_act_15 ⟨Nat.le_of_ble_eq_true rfl, Nat.le_of_ble_eq_true rfl⟩) hD hS hA (fun r_3 x_3 H locs hq_3 hP hD hS => ?_)
  rw [hq_3.1.trans h2]
  rw [hq_3.2] at hP hD
  refine lv_if_eq (tgt := 31) hx hb dX5_act_18 (by decide) (fun _ => ?_) (fun c_4 => absurd c_4 (by decide))
  refine lv_iconst (v := 0) hx hb dX5_act_31 (by decide) ?_
  refine lv_istore_n (lv' := [(3, .int 0), (0, .ref x), (1, .int p0), (2, .int p1)]) hx hb dX5_act_32 rfl hl (by decide) rfl (fun ls hl => ?_)
  refine lv_aload_n hx hb dX5_act_33 rfl (lv_at hl 1 rfl) ?_
  refine kx_gets hx hb htT m_u_X5 hown hK hP hx5 (Nat.le_of_ble_eq_true rfl) rfl 0 (by decide) (by decide) rfl hq0 (htT _ m_fl_X5_11) dX5_act_34 ?_
  refine lv_astore (lv' := [(4, .ref ar), (3, .int 0), (0, .ref x), (1, .int p0), (2, .int p1)]) hx hb dX5_act_37 hl (by decide) rfl (fun ls hl => ?_)
  refine lv_aload hx hb dX5_act_39 (lv_at hl 0 rfl) ?_
  refine kx_alen (v := 8) hx hb hK hP hR.1 (Nat.le_of_ble_eq_true rfl) (Nat.le_of_ble_eq_true rfl) rfl dX5_act_41 ?_
  refine lv_istore (lv' := [(5, .int 8), (4, .ref ar), (3, .int 0), (0, .ref x), (1, .int p0), (2, .int p1)]) hx hb dX5_act_42 hl (by decide) rfl (fun ls hl => ?_)
  refine lv_iconst (v := 0) hx hb dX5_act_44 (by decide) ?_
  refine lv_istore (lv' := [(6, .int 0), (5, .int 8), (4, .ref ar), (3, .int 0), (0, .ref x), (1, .int p0), (2, .int p1)]) hx hb dX5_act_45 hl (by decide) rfl (fun ls hl => ?_)
  refine kz_loop 47 (fun N9 H locs ls => ∃ (j : Nat) (acc : Int32) (T : Pool), N9 = 8 - j ∧ j ≤ 8 ∧ cAct S ar p0 8 0 0 = cAct S ar p0 (8 - j) j acc ∧ eqT S T ∧ va_P D vwCl (PW cA T) H ∧ va_D A (PW cA T) ∧ va_S A s.heap H locs ∧ lv_has ls 8 [(6, .int (nI j)), (5, .int 8), (4, .ref ar), (3, .int acc), (2, .int p1), (1, .int p0), (0, .ref x)]) (fun N9 ih_47 H locs ls hI => ?_) ⟨0, 0, S, rfl, by omega, rfl, eqT.rf, hP, hD, hS, lv_sub hl [0, 1, 2, 3, 6, 5, 4] rfl⟩
  obtain ⟨j, acc, T, hn9, hj, hF, hE, hP, hD, hS, hl⟩ := hI
  have hRT : okR T ar := hE.okR hR
  refine lv_iload hx hb dX5_act_47 (lv_at hl 0 rfl) ?_
  refine lv_iload hx hb dX5_act_49 (lv_at hl 1 rfl) ?_
  refine lv_icmp_ge (tgt := 85) hx hb dX5_act_51 (by decide) (fun c_5 => ?_) (fun c_5 => ?_)
  · replace c_5 := (nI_leI (a := 8) (b := j) (by omega) (by omega)).mp c_5
    refine lv_iload_n hx hb dX5_act_85 rfl (lv_at hl 3 rfl) ?_
    exact W.iret (v := acc) hx hb hr (fun t ht hW => ⟨⟨acc, T, rfl, ⟨by rw [hF, show 8 - j = 0 by omega]; rfl, hE⟩, by rw [ht]; exact hP, va_K.moved hW.alike hK, hD⟩, hS.F ht⟩) hS.2.2 dX5_act_86
  · replace c_5 : ¬ (8 ≤ j) := fun h9 => c_5 ((nI_leI (a := 8) (b := j) (by omega) (by omega)).mpr h9)
    refine lv_aload hx hb dX5_act_54 (lv_at hl 2 rfl) ?_
    refine lv_iload hx hb dX5_act_56 (lv_at hl 0 rfl) ?_
    refine kx_alds (r := gP T ar j) hx hb hK hP hRT.1 (show vp_in (nI (j)) 8 from ki_in (by omega) (by decide)) (congrArg _ (ki_cl (by omega))) dX5_act_58 ?_
    rw [show gP T ar j = gP S ar j from hE.p ar j]
    have eT9 : gP T ar j = gP S ar j := hE.p ar j
    rcases hr9 : gP S ar j with _ | y_9
    · refine lv_astoreN (lv' := [(7, .null), (6, .int (nI j)), (5, .int 8), (4, .ref ar), (3, .int acc), (2, .int p1), (1, .int p0), (0, .ref x)]) hx hb dX5_act_59 hl (by decide) rfl (fun ls hl => ?_)
      refine lv_aloadN hx hb dX5_act_61 (lv_at hl 0 rfl) ?_
      refine lv_ifnullN (tgt := 79) hx hb dX5_act_63 (by decide) ?_
      refine lv_iinc (v := nI (j + 1)) (lv' := [(6, .int (nI (j + 1))), (7, .null), (5, .int 8), (4, .ref ar), (3, .int acc), (2, .int p1), (1, .int p0), (0, .ref x)]) hx hb dX5_act_79 hl (k := 1) rfl (nI_1 _) (by decide) rfl (fun ls hl => ?_)
      refine lv_goto (tgt := 47) hx hb dX5_act_82 (by decide) ?_
      have hl := lv_sub hl [0, 2, 3, 4, 5, 6, 7] rfl
      exact ih_47 _ (by omega) H locs ls ⟨j + 1, _, T, rfl, by omega, by rw [hF, show 8 - j = (8 - (j + 1)) + 1 by omega]; simp [cAct, hr9], hE, hP, hD, hS, hl⟩
    · have hs9 := (hRT.2 j (by omega) y_9 (eT9.trans hr9)).1
      refine lv_astore (lv' := [(7, .ref y_9), (6, .int (nI j)), (5, .int 8), (4, .ref ar), (3, .int acc), (2, .int p1), (1, .int p0), (0, .ref x)]) hx hb dX5_act_59 hl (by decide) rfl (fun ls hl => ?_)
      refine lv_aload hx hb dX5_act_61 (lv_at hl 0 rfl) ?_
      refine lv_ifnull hx hb dX5_act_63 ?_
      refine lv_aload hx hb dX5_act_66 (lv_at hl 0 rfl) ?_
      refine lv_iload_n hx hb dX5_act_68 rfl (lv_at hl 6 rfl) ?_
      refine lv_iload_n hx hb dX5_act_69 rfl (lv_at hl 5 rfl) ?_
      refine kc_i (va_runV (As := [.int p0, .int p1]) (rest := []) ⟨hx, hb, hml, hown, htT⟩ (c_addWorth l D cA _ T y_9 hs9 p0 p1) (cwV 2 htT (kg_V m_ml_X5_177 m_im_X3_addWorth m_sl_X3_addWorth m_in_X3 m_cd_X3_addWorth) rfl rfl rfl (by decide +kernel) ⟨Nat.le_of_ble_eq_true rfl, Nat.le_of_ble_eq_true rfl⟩) (kp_V hK hP hD hTB (kp_rc hK hP hs9.1 (Nat.le_of_ble_eq_true rfl) rfl)) rfl rfl hl.1 rfl (lv_room (Nat.le_of_ble_eq_true rfl)) dX5_act_70 ⟨Nat.le_of_ble_eq_true rfl, Nat.le_of_ble_eq_true rfl⟩) hD hS hA (fun r_6 x_6 H locs hq_6 hP hD hS => ?_)
      have hE6 := hE.tr hq_6.2
      rw [hq_6.1.trans (show cAn T y_9 p0 = cAn S y_9 p0 by unfold cAn; rw [hE.armA])]
      refine lv_if_eq (tgt := 79) hx hb dX5_act_73 (by decide) (fun c_7 => ?_) (fun c_7 => ?_)
      · refine lv_iinc (v := nI (j + 1)) (lv' := [(6, .int (nI (j + 1))), (7, .ref y_9), (5, .int 8), (4, .ref ar), (3, .int acc), (2, .int p1), (1, .int p0), (0, .ref x)]) hx hb dX5_act_79 hl (k := 1) rfl (nI_1 _) (by decide) rfl (fun ls hl => ?_)
        refine lv_goto (tgt := 47) hx hb dX5_act_82 (by decide) ?_
        have hl := lv_sub hl [0, 2, 3, 4, 5, 6, 7] rfl
        exact ih_47 _ (by omega) H locs ls ⟨j + 1, _, x_6, rfl, by omega, by rw [hF, show 8 - j = (8 - (j + 1)) + 1 by omega]; simp [cAct, hr9, c_7], hE6, hP, hD, hS, hl⟩
      · obtain ⟨i_8, ei_8⟩ : ∃ y : Int32, y = acc + 1 := ⟨_, rfl⟩
        refine lv_iinc (v := i_8) (lv' := [(3, .int i_8), (7, .ref y_9), (6, .int (nI j)), (5, .int 8), (4, .ref ar), (2, .int p1), (1, .int p0), (0, .ref x)]) hx hb dX5_act_76 hl (k := 4) rfl (by rw [ei_8]; rfl) (by decide) rfl (fun ls hl => ?_)
        refine lv_iinc (v := nI (j + 1)) (lv' := [(6, .int (nI (j + 1))), (3, .int i_8), (7, .ref y_9), (5, .int 8), (4, .ref ar), (2, .int p1), (1, .int p0), (0, .ref x)]) hx hb dX5_act_79 hl (k := 2) rfl (nI_1 _) (by decide) rfl (fun ls hl => ?_)
        refine lv_goto (tgt := 47) hx hb dX5_act_82 (by decide) ?_
        have hl := lv_sub hl [0, 3, 4, 1, 5, 6, 7] rfl
        exact ih_47 _ (by omega) H locs ls ⟨j + 1, _, x_6, rfl, by omega, by rw [hF, show 8 - j = (8 - (j + 1)) + 1 by omega]; simp [cAct, hr9, c_7, ei_8], hE6, hP, hD, hS, hl⟩

