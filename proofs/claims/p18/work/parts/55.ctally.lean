/-! what came of it -/
def cTalJ (S : Pool) (t : Nat) (k : Int32) : Int64 := if cKept k = 0 then 0 else gJ S t k.toNatClampNeg
/-- a mean, out of a sum and a count -/
def dMean (sum cnt : Int32) (r : UInt64) : Prop := (cnt = 0 ∧ r = FP.dconst0) ∨ (¬ cnt = 0 ∧ alike64 r (FP.ddiv (FP.i2d sum) (FP.i2d cnt)) = true)
def cBadL (S : Pool) (wt t0 : Nat) (n : Int64) : Nat → Nat → Int64 → Int64
  | 0, _, acc => acc
  | c + 1, k, acc => if 0 < lg_cmp (n * (gR S wt k).toInt64) 0 then cBadL S wt t0 n c (k + 1) (acc + ((cTal S t0 (nI k)).toInt64 * 1000 - n * (gR S wt k).toInt64) * ((cTal S t0 (nI k)).toInt64 * 1000 - n * (gR S wt k).toInt64) / (n * (gR S wt k).toInt64 * 10)) else cBadL S wt t0 n c (k + 1) acc
def kMost (k : Int32) : Int32 := if k = 2 then 384 else if k = 3 then 599 else 781
def cTru (S : Pool) (wt t0 : Nat) (bd : Int32) : Nat → Nat → Int32 → Int32
  | 0, _, acc => if acc < 2 then 1 else if kMost acc < bd then 0 else 1
  | c + 1, k, acc => if 0 < gR S wt k then cTru S wt t0 bd c (k + 1) (acc + 1) else if 0 < cTal S t0 (nI k) then 0 else cTru S wt t0 bd c (k + 1) acc
theorem due_nat {P y : Nat} (hc : Nat.Coprime P 5) (hy : 0 < y) (hlt : y < P) (h : P * 2 ∣ y * 10) : False := by
  have h2 : P * 2 ∣ (y * 5) * 2 := by rw [Nat.mul_assoc]; exact h
  have h3 : P ∣ y * 5 := Nat.dvd_of_mul_dvd_mul_right (by decide) h2
  have h4 : P ∣ y := hc.dvd_of_dvd_mul_right h3
  exact absurd (Nat.le_of_dvd hy h4) (by omega)
theorem due_mod {x : Int64} (e : x * 10 = 0) : (x.toInt * 10) % ((2 ^ 64 : Nat) : Int) = 0 := by
  have h2 : (x * 10).toInt = (0 : Int64).toInt := by rw [e]
  rw [Int64.toInt_mul] at h2
  have h7 : (x.toInt * (10 : Int64).toInt) % ((2 ^ 64 : Nat) : Int) = ((0 : Int64).toInt) % ((2 ^ 64 : Nat) : Int) := by rw [← Int.bmod_emod, h2]
  exact h7
theorem due_int {P : Nat} {z : Int} (hc : Nat.Coprime P 5) (h0 : 0 < z) (h1 : z < (P : Int)) (h : (z * 10) % ((P * 2 : Nat) : Int) = 0) : False := by
  obtain ⟨y, rfl⟩ : ∃ y : Nat, z = (y : Int) := ⟨z.toNat, (Int.toNat_of_nonneg (Int.le_of_lt h0)).symm⟩
  refine due_nat hc (Int.natCast_pos.mp h0) (Int.ofNat_lt.mp h1) ?_
  have h2 := Int.dvd_of_emod_eq_zero h
  exact Int.natCast_dvd_natCast.mp (by rw [Int.natCast_mul]; exact h2)
theorem due_ne {x : Int64} (h : 0 < lg_cmp x 0) : ¬ x * 10 = 0 := by
  have h1 : (0 : Int64) < x := (lg_cmp_gt x 0).mp h
  intro e
  exact due_int (P := 2 ^ 63) (by decide) (Int64.lt_iff_toInt_lt.mp h1) x.toInt_lt (due_mod e)
set_option maxRecDepth 100000 in
set_option maxHeartbeats 4000000 in
theorem c_squaresOf (l : Launch) (D : va_G) (cA : Nat → ClassId) (sz : Nat) (S : Pool) (ty : Nat) (hty : isO S ty 4) (t9 : Nat) (hq : gQ S ty 3 = some t9) (ht9 : isA S t9 20 4) (k : Int32) : Met l yX4_squaresOf (Cond.code yX4_squaresOf cX4_squaresOf 2 (some .long) :: TT) ({ frames := 1, cells := 0, slots := 0, locals := 20 }) (va_Pc [.ref ty, .int k] (kPre D cA (PW cA S) sz)) (va_Ql (fun (r_ : Int64) (x_ : Pool) => r_ = cTalJ S t9 k ∧ x_ = S) (fun x_ => kB D cA (va_A (PW cA S) sz) (PW cA x_)) (va_A (PW cA S) sz)) 0 0 (va_A (PW cA S) sz) := by
  refine Met.ofW (cc := cX4_squaresOf) (maxL := 2) (ret := (some .long)) (by decide) rfl ?_
  intro p e s m args below meth c s₁ B hml hv
  obtain ⟨rfl, hsz, hP, hK, hD0, hTB⟩ := hv
  have hx := B.exec
  have hb := B.bytes
  have hr := B.returns
  have hts := atoms_spec (ws := Cond.code yX4_squaresOf cX4_squaresOf 2 (some .long) :: TT) B.pre
  have htT : ∀ w ∈ TT, w.before _ s = true := fun w h => hts w (List.mem_cons_of_mem _ h)
  have hown : s.vm.findClass RX4 = some m.cls := findClass_of_methodNamed B.named
  have hlocks := B.notSynchronized
  subst hsz
  have hD := hD0.self (sz := s.heap.size)
  generalize hAe : va_A (PW cA S) s.heap.size = A at hD ⊢
  have hA : ∀ q : Nat, s.heap.size ≤ q → A q := fun q h => by rw [← hAe]; exact Or.inr h
  have hS : va_S A s.heap s.heap [] := va_S.rf
  have hl := lv_entry ([.ref ty, .int k]) (n := 2) (Nat.le_of_ble_eq_true rfl)
  rw [lg_entry_eq]
  generalize (lg_sl ([.ref ty, .int k]) ++ List.replicate (2 - (lg_sl ([.ref ty, .int k])).length) Slot.unset).toArray = ls at hl ⊢
  have hl : lv_has ls 2 [(0, .ref ty), (1, .int k)] := hl
  refine lv_iload_n hx hb dX4_squaresOf_0 rfl (lv_at hl 1 rfl) ?_
  refine kc_i (va_runS (As := [.int k]) (rest := []) ⟨hx, hb, hml, hown, htT⟩ (c_isKept l D cA _ S k) (cwS 1 htT (kg_S m_ml_X4_25 m_st_X4_isKept m_in_X4 m_cd_X4_isKept) rfl rfl rfl (by decide +kernel) ⟨Nat.le_of_ble_eq_true rfl, Nat.le_of_ble_eq_true rfl⟩) (kp_S hK hP hD hTB) rfl rfl hl.1 rfl (lv_room (Nat.le_of_ble_eq_true rfl)) dX4_squaresOf_1 ⟨Nat.le_of_ble_eq_true rfl, Nat.le_of_ble_eq_true rfl⟩) hD hS hA (fun r_1 x_1 H locs hq_1 hP hD hS => ?_)
  rw [hq_1.1]
  rw [hq_1.2] at hP hD
  refine lv_if_eq (tgt := 16) hx hb dX4_squaresOf_4 (by decide) (fun c_2 => ?_) (fun c_2 => ?_)
  · refine lv_lconst (v := 0) hx hb dX4_squaresOf_16 (by decide) ?_
    exact W.lret (v := 0) hx hb hr (fun t ht hW => ⟨⟨0, S, rfl, ⟨by simp [cTalJ, c_2], rfl⟩, by rw [ht]; exact hP, va_K.moved hW.alike hK, hD⟩, hS.F ht⟩) hS.2.2 dX4_squaresOf_17
  · refine lv_aload_n hx hb dX4_squaresOf_7 rfl (lv_at hl 0 rfl) ?_
    refine kx_gets hx hb htT m_u_X4 hown hK hP hty (Nat.le_of_ble_eq_true rfl) rfl 3 (by decide) (by decide) rfl hq (htT _ m_fl_X4_21) dX4_squaresOf_8 ?_
    refine lv_iload_n hx hb dX4_squaresOf_11 rfl (lv_at hl 1 rfl) ?_
    refine kx_lald hx hb hK hP ht9 (cKept_in c_2) dX4_squaresOf_12 ?_
    refine lv_goto (tgt := 17) hx hb dX4_squaresOf_13 (by decide) ?_
    exact W.lret (v := gJ S t9 k.toNatClampNeg) hx hb hr (fun t ht hW => ⟨⟨gJ S t9 k.toNatClampNeg, S, rfl, ⟨by simp [cTalJ, c_2], rfl⟩, by rw [ht]; exact hP, va_K.moved hW.alike hK, hD⟩, hS.F ht⟩) hS.2.2 dX4_squaresOf_17

set_option maxRecDepth 100000 in
set_option maxHeartbeats 4000000 in
/-- meanOf -/
theorem c_meanOf (l : Launch) (D : va_G) (cA : Nat → ClassId) (sz : Nat) (S : Pool) (ty : Nat) (hty : isO S ty 4) (t0 : Nat) (hq0 : gQ S ty 0 = some t0) (ht0 : isA S t0 10 4) (t2 : Nat) (hq2 : gQ S ty 2 = some t2) (ht2 : isA S t2 12 4) (k : Int32) : MetD lw_cs l yX4_meanOf (Cond.code yX4_meanOf cX4_meanOf 3 (some .double) :: TT) ({ frames := 2, cells := 0, slots := 0, locals := 41 }) (va_Pc [.ref ty, .int k] (kPre D cA (PW cA S) sz)) (va_Qd (fun (r_ : UInt64) (x_ : Pool) => dMean (cTal S t2 k) (cTal S t0 k) r_ ∧ x_ = S) (fun x_ => kB D cA (va_A (PW cA S) sz) (PW cA x_)) (va_A (PW cA S) sz)) 0 0 (va_A (PW cA S) sz) := by
  refine MetD.ofW (cc := cX4_meanOf) (maxL := 3) (ret := (some .double)) (by decide) rfl ?_
  intro p e s m args below meth c s₁ B hml hv hd0
  obtain ⟨rfl, hsz, hP, hK, hD0, hTB⟩ := hv
  have hx := B.exec
  have hb := B.bytes
  have hr := B.returns
  have hts := atoms_spec (ws := Cond.code yX4_meanOf cX4_meanOf 3 (some .double) :: TT) B.pre
  have htT : ∀ w ∈ TT, w.before _ s = true := fun w h => hts w (List.mem_cons_of_mem _ h)
  have hown : s.vm.findClass RX4 = some m.cls := findClass_of_methodNamed B.named
  have hlocks := B.notSynchronized
  subst hsz
  have hD := hD0.self (sz := s.heap.size)
  generalize hAe : va_A (PW cA S) s.heap.size = A at hD ⊢
  have hA : ∀ q : Nat, s.heap.size ≤ q → A q := fun q h => by rw [← hAe]; exact Or.inr h
  have hS : va_S A s.heap s.heap [] := va_S.rf
  have hl := lv_entry ([.ref ty, .int k]) (n := 3) (Nat.le_of_ble_eq_true rfl)
  rw [lg_entry_eq]
  generalize (lg_sl ([.ref ty, .int k]) ++ List.replicate (3 - (lg_sl ([.ref ty, .int k])).length) Slot.unset).toArray = ls at hl ⊢
  have hl : lv_has ls 3 [(0, .ref ty), (1, .int k)] := hl
  have htT0 := htT
  have hTB0 := hTB
  have hK0 := hK
  have hown0 := hown
  have htT : ∀ w ∈ TT, w.before _ (s.setDrawn s.drawn) = true := dr_words htT0 s.drawn
  have hTB : TBok (s.setDrawn s.drawn) := TBok.same (u := s) (U := s.setDrawn s.drawn) rfl (Vm.Alike.refl s.vm) hTB0
  have hK : va_K D vwCl (ty6 cA) (s.setDrawn s.drawn) := hK0
  have hown : (s.setDrawn s.drawn).vm.findClass RX4 = some m.cls := hown0
  refine lv_aload_n hx hb dX4_meanOf_0 rfl (lv_at hl 0 rfl) ?_
  refine lv_iload_n hx hb dX4_meanOf_1 rfl (lv_at hl 1 rfl) ?_
  refine kc_i (va_runV (As := [.int k]) (rest := []) ⟨hx, hb, hml, hown, htT⟩ (c_countOf l D cA _ S ty hty t0 hq0 ht0 k) (cwV 1 htT (kg_V m_ml_X4_33 m_im_X4_countOf m_sl_X4_countOf m_in_X4 m_cd_X4_countOf) rfl rfl rfl (by decide +kernel) ⟨Nat.le_of_ble_eq_true rfl, Nat.le_of_ble_eq_true rfl⟩) (kp_V hK hP hD hTB (kp_rc hK hP hty (Nat.le_of_ble_eq_true rfl) rfl)) rfl rfl hl.1 rfl (lv_room (Nat.le_of_ble_eq_true rfl)) dX4_meanOf_2 ⟨Nat.le_of_ble_eq_true rfl, Nat.le_of_ble_eq_true rfl⟩) hD hS hA (fun r_1 x_1 H locs hq_1 hP hD hS => ?_)
  rw [hq_1.1]
  rw [hq_1.2] at hP hD
  refine lv_istore_n (lv' := [(2, .int (cTal S t0 k)), (0, .ref ty), (1, .int k)]) hx hb dX4_meanOf_5 rfl hl (by decide) rfl (fun ls hl => ?_)
  refine lv_iload_n hx hb dX4_meanOf_6 rfl (lv_at hl 0 rfl) ?_
  refine lv_if_ne (tgt := 14) hx hb dX4_meanOf_7 (by decide) (fun c_2 => ?_) (fun c_2 => ?_)
  · refine lv_aload_n hx hb dX4_meanOf_14 rfl (lv_at hl 1 rfl) ?_
    refine lv_iload_n hx hb dX4_meanOf_15 rfl (lv_at hl 2 rfl) ?_
    refine kc_i (va_runV (As := [.int k]) (rest := []) ⟨hx, hb, hml, hown, htT⟩ (c_sumOf l D cA _ S ty hty t2 hq2 ht2 k) (cwV 1 htT (kg_V m_ml_X4_37 m_im_X4_sumOf m_sl_X4_sumOf m_in_X4 m_cd_X4_sumOf) rfl rfl rfl (by decide +kernel) ⟨Nat.le_of_ble_eq_true rfl, Nat.le_of_ble_eq_true rfl⟩) (kp_V hK hP hD hTB (kp_rc hK hP hty (Nat.le_of_ble_eq_true rfl) rfl)) rfl rfl hl.1 rfl (lv_room (Nat.le_of_ble_eq_true rfl)) dX4_meanOf_16 ⟨Nat.le_of_ble_eq_true rfl, Nat.le_of_ble_eq_true rfl⟩) hD hS hA (fun r_3 x_3 H locs hq_3 hP hD hS => ?_)
    rw [hq_3.1]
    rw [hq_3.2] at hP hD
    refine lv_i2d hx hb dX4_meanOf_19 ?_
    refine lv_iload_n hx hb dX4_meanOf_20 rfl (lv_at hl 0 rfl) ?_
    refine lv_i2d hx hb dX4_meanOf_21 ?_
    refine lv_ddiv_any hd0 lw_bits hx hb dX4_meanOf_22 (fun r_4 d_4 hal_4 hd0 => ?_)
    have htT : ∀ w ∈ TT, w.before _ (s.setDrawn d_4) = true := dr_words htT0 d_4
    have hTB : TBok (s.setDrawn d_4) := TBok.same (u := s) (U := s.setDrawn d_4) rfl (Vm.Alike.refl s.vm) hTB0
    have hK : va_K D vwCl (ty6 cA) (s.setDrawn d_4) := hK0
    have hown : (s.setDrawn d_4).vm.findClass RX4 = some m.cls := hown0
    refine W.endD hd0 ?_
    exact W.dret (v := r_4) hx hb hr (fun t ht hW => ⟨⟨r_4, S, rfl, ⟨Or.inr ⟨c_2, hal_4⟩, rfl⟩, by rw [ht]; exact hP, va_K.moved hW.alike hK, hD⟩, hS.F ht⟩) hS.2.2 dX4_meanOf_23
  · refine lv_dconst0 hx hb dX4_meanOf_10 ?_
    refine lv_goto (tgt := 23) hx hb dX4_meanOf_11 (by decide) ?_
    refine W.endD hd0 ?_
    exact W.dret (v := FP.dconst0) hx hb hr (fun t ht hW => ⟨⟨FP.dconst0, S, rfl, ⟨Or.inl ⟨c_2, rfl⟩, rfl⟩, by rw [ht]; exact hP, va_K.moved hW.alike hK, hD⟩, hS.F ht⟩) hS.2.2 dX4_meanOf_23

set_option maxRecDepth 100000 in
set_option maxHeartbeats 4000000 in
/-- liftOf -/
theorem c_liftOf (l : Launch) (D : va_G) (cA : Nat → ClassId) (sz : Nat) (S : Pool) (ty : Nat) (hty : isO S ty 4) (t0 : Nat) (hq0 : gQ S ty 0 = some t0) (ht0 : isA S t0 10 4) (t2 : Nat) (hq2 : gQ S ty 2 = some t2) (ht2 : isA S t2 12 4) (k : Int32) : MetD lw_cs l yX4_liftOf (Cond.code yX4_liftOf cX4_liftOf 2 (some .double) :: TT) ({ frames := 3, cells := 0, slots := 0, locals := 63 }) (va_Pc [.ref ty, .int k] (kPre D cA (PW cA S) sz)) (va_Qd (fun (r_ : UInt64) (x_ : Pool) => (∃ m1 m0, dMean (cTal S t2 k) (cTal S t0 k) m1 ∧ dMean (cTal S t2 0) (cTal S t0 0) m0 ∧ alike64 r_ (FP.dsub m1 m0) = true) ∧ x_ = S) (fun x_ => kB D cA (va_A (PW cA S) sz) (PW cA x_)) (va_A (PW cA S) sz)) 0 0 (va_A (PW cA S) sz) := by
  refine MetD.ofW (cc := cX4_liftOf) (maxL := 2) (ret := (some .double)) (by decide) rfl ?_
  intro p e s m args below meth c s₁ B hml hv hd0
  obtain ⟨rfl, hsz, hP, hK, hD0, hTB⟩ := hv
  have hx := B.exec
  have hb := B.bytes
  have hr := B.returns
  have hts := atoms_spec (ws := Cond.code yX4_liftOf cX4_liftOf 2 (some .double) :: TT) B.pre
  have htT : ∀ w ∈ TT, w.before _ s = true := fun w h => hts w (List.mem_cons_of_mem _ h)
  have hown : s.vm.findClass RX4 = some m.cls := findClass_of_methodNamed B.named
  have hlocks := B.notSynchronized
  subst hsz
  have hD := hD0.self (sz := s.heap.size)
  generalize hAe : va_A (PW cA S) s.heap.size = A at hD ⊢
  have hA : ∀ q : Nat, s.heap.size ≤ q → A q := fun q h => by rw [← hAe]; exact Or.inr h
  have hS : va_S A s.heap s.heap [] := va_S.rf
  have hl := lv_entry ([.ref ty, .int k]) (n := 2) (Nat.le_of_ble_eq_true rfl)
  rw [lg_entry_eq]
  generalize (lg_sl ([.ref ty, .int k]) ++ List.replicate (2 - (lg_sl ([.ref ty, .int k])).length) Slot.unset).toArray = ls at hl ⊢
  have hl : lv_has ls 2 [(0, .ref ty), (1, .int k)] := hl
  have htT0 := htT
  have hTB0 := hTB
  have hK0 := hK
  have hown0 := hown
  have htT : ∀ w ∈ TT, w.before _ (s.setDrawn s.drawn) = true := dr_words htT0 s.drawn
  have hTB : TBok (s.setDrawn s.drawn) := TBok.same (u := s) (U := s.setDrawn s.drawn) rfl (Vm.Alike.refl s.vm) hTB0
  have hK : va_K D vwCl (ty6 cA) (s.setDrawn s.drawn) := hK0
  have hown : (s.setDrawn s.drawn).vm.findClass RX4 = some m.cls := hown0
  refine lv_aload_n hx hb dX4_liftOf_0 rfl (lv_at hl 0 rfl) ?_
  refine lv_iload_n hx hb dX4_liftOf_1 rfl (lv_at hl 1 rfl) ?_
  refine kcD_d hd0 (va_runV_D (As := [.int k]) (rest := []) ⟨hx, hb, hml, hown, htT⟩ (c_meanOf l D cA _ S ty hty t0 hq0 ht0 t2 hq2 ht2 k) (cwV 1 htT (kg_V m_ml_X4_40 m_im_X4_meanOf m_sl_X4_meanOf m_in_X4 m_cd_X4_meanOf) rfl rfl rfl (by decide +kernel) ⟨Nat.le_of_ble_eq_true rfl, Nat.le_of_ble_eq_true rfl⟩) (kp_V hK hP hD hTB (kp_rc hK hP hty (Nat.le_of_ble_eq_true rfl) rfl)) rfl rfl hl.1 rfl (lv_room (Nat.le_of_ble_eq_true rfl)) dX4_liftOf_2 ⟨Nat.le_of_ble_eq_true rfl, Nat.le_of_ble_eq_true rfl⟩) hD hS hA (fun r_1 x_1 H locs hq_1 hP hD hS d_1 hd0 => ?_)
  have htT : ∀ w ∈ TT, w.before _ (s.setDrawn d_1) = true := dr_words htT0 d_1
  have hTB : TBok (s.setDrawn d_1) := TBok.same (u := s) (U := s.setDrawn d_1) rfl (Vm.Alike.refl s.vm) hTB0
  have hK : va_K D vwCl (ty6 cA) (s.setDrawn d_1) := hK0
  have hown : (s.setDrawn d_1).vm.findClass RX4 = some m.cls := hown0
  rw [hq_1.2] at hP hD
  refine lv_aload_n hx hb dX4_liftOf_5 rfl (lv_at hl 0 rfl) ?_
  refine lv_iconst (v := 0) hx hb dX4_liftOf_6 (by decide) ?_
  refine kcD_d hd0 (va_runV_D (As := [.int 0]) (rest := [.double r_1]) ⟨hx, hb, hml, hown, htT⟩ (c_meanOf l D cA _ S ty hty t0 hq0 ht0 t2 hq2 ht2 0) (cwV 1 htT (kg_V m_ml_X4_40 m_im_X4_meanOf m_sl_X4_meanOf m_in_X4 m_cd_X4_meanOf) rfl rfl rfl (by decide +kernel) ⟨Nat.le_of_ble_eq_true rfl, Nat.le_of_ble_eq_true rfl⟩) (kp_V hK hP hD hTB (kp_rc hK hP hty (Nat.le_of_ble_eq_true rfl) rfl)) rfl rfl hl.1 rfl (lv_room (Nat.le_of_ble_eq_true rfl)) dX4_liftOf_7 ⟨Nat.le_of_ble_eq_true rfl, Nat.le_of_ble_eq_true rfl⟩) hD hS hA (fun r_2 x_2 H locs hq_2 hP hD hS d_2 hd0 => ?_)
  have htT : ∀ w ∈ TT, w.before _ (s.setDrawn d_2) = true := dr_words htT0 d_2
  have hTB : TBok (s.setDrawn d_2) := TBok.same (u := s) (U := s.setDrawn d_2) rfl (Vm.Alike.refl s.vm) hTB0
  have hK : va_K D vwCl (ty6 cA) (s.setDrawn d_2) := hK0
  have hown : (s.setDrawn d_2).vm.findClass RX4 = some m.cls := hown0
  rw [hq_2.2] at hP hD
  refine lv_dsub_any hd0 lw_bits hx hb dX4_liftOf_10 (fun r_3 d_3 hal_3 hd0 => ?_)
  have htT : ∀ w ∈ TT, w.before _ (s.setDrawn d_3) = true := dr_words htT0 d_3
  have hTB : TBok (s.setDrawn d_3) := TBok.same (u := s) (U := s.setDrawn d_3) rfl (Vm.Alike.refl s.vm) hTB0
  have hK : va_K D vwCl (ty6 cA) (s.setDrawn d_3) := hK0
  have hown : (s.setDrawn d_3).vm.findClass RX4 = some m.cls := hown0
  refine W.endD hd0 ?_
  exact W.dret (v := r_3) hx hb hr (fun t ht hW => ⟨⟨r_3, S, rfl, ⟨⟨_, _, hq_1.1, hq_2.1, hal_3⟩, rfl⟩, by rw [ht]; exact hP, va_K.moved hW.alike hK, hD⟩, hS.F ht⟩) hS.2.2 dX4_liftOf_11

set_option maxRecDepth 100000 in
set_option maxHeartbeats 4000000 in
/-- spreadByCount -/
theorem c_spreadByCount (l : Launch) (D : va_G) (cA : Nat → ClassId) (sz : Nat) (S : Pool) (ty : Nat) (hty : isO S ty 4) (t0 : Nat) (hq0 : gQ S ty 0 = some t0) (ht0 : isA S t0 10 4) (t2 : Nat) (hq2 : gQ S ty 2 = some t2) (ht2 : isA S t2 12 4) (t3 : Nat) (hq3 : gQ S ty 3 = some t3) (ht3 : isA S t3 20 4) (k : Int32) : MetD lw_cs l yX4_spreadByCount (Cond.code yX4_spreadByCount cX4_spreadByCount 7 (some .double) :: TT) ({ frames := 3, cells := 0, slots := 0, locals := 63 }) (va_Pc [.ref ty, .int k] (kPre D cA (PW cA S) sz)) (va_Qd (fun (r_ : UInt64) (x_ : Pool) => True ∧ x_ = S) (fun x_ => kB D cA (va_A (PW cA S) sz) (PW cA x_)) (va_A (PW cA S) sz)) 0 0 (va_A (PW cA S) sz) := by
  refine MetD.ofW (cc := cX4_spreadByCount) (maxL := 7) (ret := (some .double)) (by decide) rfl ?_
  intro p e s m args below meth c s₁ B hml hv hd0
  obtain ⟨rfl, hsz, hP, hK, hD0, hTB⟩ := hv
  have hx := B.exec
  have hb := B.bytes
  have hr := B.returns
  have hts := atoms_spec (ws := Cond.code yX4_spreadByCount cX4_spreadByCount 7 (some .double) :: TT) B.pre
  have htT : ∀ w ∈ TT, w.before _ s = true := fun w h => hts w (List.mem_cons_of_mem _ h)
  have hown : s.vm.findClass RX4 = some m.cls := findClass_of_methodNamed B.named
  have hlocks := B.notSynchronized
  subst hsz
  have hD := hD0.self (sz := s.heap.size)
  generalize hAe : va_A (PW cA S) s.heap.size = A at hD ⊢
  have hA : ∀ q : Nat, s.heap.size ≤ q → A q := fun q h => by rw [← hAe]; exact Or.inr h
  have hS : va_S A s.heap s.heap [] := va_S.rf
  have hl := lv_entry ([.ref ty, .int k]) (n := 7) (Nat.le_of_ble_eq_true rfl)
  rw [lg_entry_eq]
  generalize (lg_sl ([.ref ty, .int k]) ++ List.replicate (7 - (lg_sl ([.ref ty, .int k])).length) Slot.unset).toArray = ls at hl ⊢
  have hl : lv_has ls 7 [(0, .ref ty), (1, .int k)] := hl
  have htT0 := htT
  have hTB0 := hTB
  have hK0 := hK
  have hown0 := hown
  have htT : ∀ w ∈ TT, w.before _ (s.setDrawn s.drawn) = true := dr_words htT0 s.drawn
  have hTB : TBok (s.setDrawn s.drawn) := TBok.same (u := s) (U := s.setDrawn s.drawn) rfl (Vm.Alike.refl s.vm) hTB0
  have hK : va_K D vwCl (ty6 cA) (s.setDrawn s.drawn) := hK0
  have hown : (s.setDrawn s.drawn).vm.findClass RX4 = some m.cls := hown0
  refine lv_aload_n hx hb dX4_spreadByCount_0 rfl (lv_at hl 0 rfl) ?_
  refine lv_iload_n hx hb dX4_spreadByCount_1 rfl (lv_at hl 1 rfl) ?_
  refine kc_i (va_runV (As := [.int k]) (rest := []) ⟨hx, hb, hml, hown, htT⟩ (c_countOf l D cA _ S ty hty t0 hq0 ht0 k) (cwV 1 htT (kg_V m_ml_X4_33 m_im_X4_countOf m_sl_X4_countOf m_in_X4 m_cd_X4_countOf) rfl rfl rfl (by decide +kernel) ⟨Nat.le_of_ble_eq_true rfl, Nat.le_of_ble_eq_true rfl⟩) (kp_V hK hP hD hTB (kp_rc hK hP hty (Nat.le_of_ble_eq_true rfl) rfl)) rfl rfl hl.1 rfl (lv_room (Nat.le_of_ble_eq_true rfl)) dX4_spreadByCount_2 ⟨Nat.le_of_ble_eq_true rfl, Nat.le_of_ble_eq_true rfl⟩) hD hS hA (fun r_1 x_1 H locs hq_1 hP hD hS => ?_)
  rw [hq_1.1]
  rw [hq_1.2] at hP hD
  refine lv_istore_n (lv' := [(2, .int (cTal S t0 k)), (0, .ref ty), (1, .int k)]) hx hb dX4_spreadByCount_5 rfl hl (by decide) rfl (fun ls hl => ?_)
  refine lv_iload_n hx hb dX4_spreadByCount_6 rfl (lv_at hl 0 rfl) ?_
  refine lv_if_ne (tgt := 12) hx hb dX4_spreadByCount_7 (by decide) (fun c_2 => ?_) (fun c_2 => ?_)
  · refine lv_aload_n hx hb dX4_spreadByCount_12 rfl (lv_at hl 1 rfl) ?_
    refine lv_iload_n hx hb dX4_spreadByCount_13 rfl (lv_at hl 2 rfl) ?_
    refine kcD_d hd0 (va_runV_D (As := [.int k]) (rest := []) ⟨hx, hb, hml, hown, htT⟩ (c_meanOf l D cA _ S ty hty t0 hq0 ht0 t2 hq2 ht2 k) (cwV 1 htT (kg_V m_ml_X4_40 m_im_X4_meanOf m_sl_X4_meanOf m_in_X4 m_cd_X4_meanOf) rfl rfl rfl (by decide +kernel) ⟨Nat.le_of_ble_eq_true rfl, Nat.le_of_ble_eq_true rfl⟩) (kp_V hK hP hD hTB (kp_rc hK hP hty (Nat.le_of_ble_eq_true rfl) rfl)) rfl rfl hl.1 rfl (lv_room (Nat.le_of_ble_eq_true rfl)) dX4_spreadByCount_14 ⟨Nat.le_of_ble_eq_true rfl, Nat.le_of_ble_eq_true rfl⟩) hD hS hA (fun r_3 x_3 H locs hq_3 hP hD hS d_3 hd0 => ?_)
    have htT : ∀ w ∈ TT, w.before _ (s.setDrawn d_3) = true := dr_words htT0 d_3
    have hTB : TBok (s.setDrawn d_3) := TBok.same (u := s) (U := s.setDrawn d_3) rfl (Vm.Alike.refl s.vm) hTB0
    have hK : va_K D vwCl (ty6 cA) (s.setDrawn d_3) := hK0
    have hown : (s.setDrawn d_3).vm.findClass RX4 = some m.cls := hown0
    rw [hq_3.2] at hP hD
    refine lv_dstore_n (lv' := [(3, .double r_3), (2, .int (cTal S t0 k)), (0, .ref ty), (1, .int k)]) hx hb dX4_spreadByCount_17 rfl hl (by decide) rfl (fun ls hl => ?_)
    refine lv_aload_n hx hb dX4_spreadByCount_18 rfl (lv_at hl 2 rfl) ?_
    refine lv_iload_n hx hb dX4_spreadByCount_19 rfl (lv_at hl 3 rfl) ?_
    refine kc_l (va_runV (As := [.int k]) (rest := []) ⟨hx, hb, hml, hown, htT⟩ (c_squaresOf l D cA _ S ty hty t3 hq3 ht3 k) (cwV 1 htT (kg_V m_ml_X4_50 m_im_X4_squaresOf m_sl_X4_squaresOf m_in_X4 m_cd_X4_squaresOf) rfl rfl rfl (by decide +kernel) ⟨Nat.le_of_ble_eq_true rfl, Nat.le_of_ble_eq_true rfl⟩) (kp_V hK hP hD hTB (kp_rc hK hP hty (Nat.le_of_ble_eq_true rfl) rfl)) rfl rfl hl.1 rfl (lv_room (Nat.le_of_ble_eq_true rfl)) dX4_spreadByCount_20 ⟨Nat.le_of_ble_eq_true rfl, Nat.le_of_ble_eq_true rfl⟩) hD hS hA (fun r_4 x_4 H locs hq_4 hP hD hS => ?_)
    rw [hq_4.1]
    rw [hq_4.2] at hP hD
    refine lv_l2d hx hb dX4_spreadByCount_23 ?_
    refine lv_iload_n hx hb dX4_spreadByCount_24 rfl (lv_at hl 1 rfl) ?_
    refine lv_i2d hx hb dX4_spreadByCount_25 ?_
    refine lv_ddiv_any hd0 lw_bits hx hb dX4_spreadByCount_26 (fun r_5 d_5 hal_5 hd0 => ?_)
    have htT : ∀ w ∈ TT, w.before _ (s.setDrawn d_5) = true := dr_words htT0 d_5
    have hTB : TBok (s.setDrawn d_5) := TBok.same (u := s) (U := s.setDrawn d_5) rfl (Vm.Alike.refl s.vm) hTB0
    have hK : va_K D vwCl (ty6 cA) (s.setDrawn d_5) := hK0
    have hown : (s.setDrawn d_5).vm.findClass RX4 = some m.cls := hown0
    refine lv_dload_n hx hb dX4_spreadByCount_27 rfl (lv_at hl 0 rfl) ?_
    refine lv_dload_n hx hb dX4_spreadByCount_28 rfl (lv_at hl 0 rfl) ?_
    refine lv_dmul_any hd0 lw_bits hx hb dX4_spreadByCount_29 (fun r_6 d_6 hal_6 hd0 => ?_)
    have htT : ∀ w ∈ TT, w.before _ (s.setDrawn d_6) = true := dr_words htT0 d_6
    have hTB : TBok (s.setDrawn d_6) := TBok.same (u := s) (U := s.setDrawn d_6) rfl (Vm.Alike.refl s.vm) hTB0
    have hK : va_K D vwCl (ty6 cA) (s.setDrawn d_6) := hK0
    have hown : (s.setDrawn d_6).vm.findClass RX4 = some m.cls := hown0
    refine lv_dsub_any hd0 lw_bits hx hb dX4_spreadByCount_30 (fun r_7 d_7 hal_7 hd0 => ?_)
    have htT : ∀ w ∈ TT, w.before _ (s.setDrawn d_7) = true := dr_words htT0 d_7
    have hTB : TBok (s.setDrawn d_7) := TBok.same (u := s) (U := s.setDrawn d_7) rfl (Vm.Alike.refl s.vm) hTB0
    have hK : va_K D vwCl (ty6 cA) (s.setDrawn d_7) := hK0
    have hown : (s.setDrawn d_7).vm.findClass RX4 = some m.cls := hown0
    refine lv_dstore (lv' := [(5, .double r_7), (3, .double r_3), (2, .int (cTal S t0 k)), (0, .ref ty), (1, .int k)]) hx hb dX4_spreadByCount_31 hl (by decide) rfl (fun ls hl => ?_)
    refine lv_dload hx hb dX4_spreadByCount_33 (lv_at hl 0 rfl) ?_
    refine lv_iload_n hx hb dX4_spreadByCount_35 rfl (lv_at hl 2 rfl) ?_
    refine lv_i2d hx hb dX4_spreadByCount_36 ?_
    refine lv_ddiv_any hd0 lw_bits hx hb dX4_spreadByCount_37 (fun r_8 d_8 hal_8 hd0 => ?_)
    have htT : ∀ w ∈ TT, w.before _ (s.setDrawn d_8) = true := dr_words htT0 d_8
    have hTB : TBok (s.setDrawn d_8) := TBok.same (u := s) (U := s.setDrawn d_8) rfl (Vm.Alike.refl s.vm) hTB0
    have hK : va_K D vwCl (ty6 cA) (s.setDrawn d_8) := hK0
    have hown : (s.setDrawn d_8).vm.findClass RX4 = some m.cls := hown0
    refine W.endD hd0 ?_
    exact W.dret (v := r_8) hx hb hr (fun t ht hW => ⟨⟨r_8, S, rfl, ⟨trivial, rfl⟩, by rw [ht]; exact hP, va_K.moved hW.alike hK, hD⟩, hS.F ht⟩) hS.2.2 dX4_spreadByCount_38
  · refine lv_dconst0 hx hb dX4_spreadByCount_10 ?_
    refine W.endD hd0 ?_
    exact W.dret (v := FP.dconst0) hx hb hr (fun t ht hW => ⟨⟨FP.dconst0, S, rfl, ⟨trivial, rfl⟩, by rw [ht]; exact hP, va_K.moved hW.alike hK, hD⟩, hS.F ht⟩) hS.2.2 dX4_spreadByCount_11

set_option maxRecDepth 100000 in
set_option maxHeartbeats 4000000 in
/-- surenessOf -/
theorem c_surenessOf (l : Launch) (D : va_G) (cA : Nat → ClassId) (sz : Nat) (S : Pool) (ty : Nat) (hty : isO S ty 4) (t0 : Nat) (hq0 : gQ S ty 0 = some t0) (ht0 : isA S t0 10 4) (t2 : Nat) (hq2 : gQ S ty 2 = some t2) (ht2 : isA S t2 12 4) (t3 : Nat) (hq3 : gQ S ty 3 = some t3) (ht3 : isA S t3 20 4) (k : Int32) : MetD lw_cs l yX4_surenessOf (Cond.code yX4_surenessOf cX4_surenessOf 6 (some .double) :: TT) ({ frames := 4, cells := 0, slots := 0, locals := 89 }) (va_Pc [.ref ty, .int k] (kPre D cA (PW cA S) sz)) (va_Qd (fun (r_ : UInt64) (x_ : Pool) => True ∧ x_ = S) (fun x_ => kB D cA (va_A (PW cA S) sz) (PW cA x_)) (va_A (PW cA S) sz)) 0 0 (va_A (PW cA S) sz) := by
  refine MetD.ofW (cc := cX4_surenessOf) (maxL := 6) (ret := (some .double)) (by decide) rfl ?_
  intro p e s m args below meth c s₁ B hml hv hd0
  obtain ⟨rfl, hsz, hP, hK, hD0, hTB⟩ := hv
  have hx := B.exec
  have hb := B.bytes
  have hr := B.returns
  have hts := atoms_spec (ws := Cond.code yX4_surenessOf cX4_surenessOf 6 (some .double) :: TT) B.pre
  have htT : ∀ w ∈ TT, w.before _ s = true := fun w h => hts w (List.mem_cons_of_mem _ h)
  have hown : s.vm.findClass RX4 = some m.cls := findClass_of_methodNamed B.named
  have hlocks := B.notSynchronized
  subst hsz
  have hD := hD0.self (sz := s.heap.size)
  generalize hAe : va_A (PW cA S) s.heap.size = A at hD ⊢
  have hA : ∀ q : Nat, s.heap.size ≤ q → A q := fun q h => by rw [← hAe]; exact Or.inr h
  have hS : va_S A s.heap s.heap [] := va_S.rf
  have hl := lv_entry ([.ref ty, .int k]) (n := 6) (Nat.le_of_ble_eq_true rfl)
  rw [lg_entry_eq]
  generalize (lg_sl ([.ref ty, .int k]) ++ List.replicate (6 - (lg_sl ([.ref ty, .int k])).length) Slot.unset).toArray = ls at hl ⊢
  have hl : lv_has ls 6 [(0, .ref ty), (1, .int k)] := hl
  have htT0 := htT
  have hTB0 := hTB
  have hK0 := hK
  have hown0 := hown
  have htT : ∀ w ∈ TT, w.before _ (s.setDrawn s.drawn) = true := dr_words htT0 s.drawn
  have hTB : TBok (s.setDrawn s.drawn) := TBok.same (u := s) (U := s.setDrawn s.drawn) rfl (Vm.Alike.refl s.vm) hTB0
  have hK : va_K D vwCl (ty6 cA) (s.setDrawn s.drawn) := hK0
  have hown : (s.setDrawn s.drawn).vm.findClass RX4 = some m.cls := hown0
  refine lv_aload_n hx hb dX4_surenessOf_0 rfl (lv_at hl 0 rfl) ?_
  refine lv_iload_n hx hb dX4_surenessOf_1 rfl (lv_at hl 1 rfl) ?_
  refine kc_i (va_runV (As := [.int k]) (rest := []) ⟨hx, hb, hml, hown, htT⟩ (c_countOf l D cA _ S ty hty t0 hq0 ht0 k) (cwV 1 htT (kg_V m_ml_X4_33 m_im_X4_countOf m_sl_X4_countOf m_in_X4 m_cd_X4_countOf) rfl rfl rfl (by decide +kernel) ⟨Nat.le_of_ble_eq_true rfl, Nat.le_of_ble_eq_true rfl⟩) (kp_V hK hP hD hTB (kp_rc hK hP hty (Nat.le_of_ble_eq_true rfl) rfl)) rfl rfl hl.1 rfl (lv_room (Nat.le_of_ble_eq_true rfl)) dX4_surenessOf_2 ⟨Nat.le_of_ble_eq_true rfl, Nat.le_of_ble_eq_true rfl⟩) hD hS hA (fun r_1 x_1 H locs hq_1 hP hD hS => ?_)
  rw [hq_1.1]
  rw [hq_1.2] at hP hD
  refine lv_if_eq (tgt := 16) hx hb dX4_surenessOf_5 (by decide) (fun c_2 => ?_) (fun c_2 => ?_)
  · refine lv_dconst0 hx hb dX4_surenessOf_16 ?_
    refine W.endD hd0 ?_
    exact W.dret (v := FP.dconst0) hx hb hr (fun t ht hW => ⟨⟨FP.dconst0, S, rfl, ⟨trivial, rfl⟩, by rw [ht]; exact hP, va_K.moved hW.alike hK, hD⟩, hS.F ht⟩) hS.2.2 dX4_surenessOf_17
  · refine lv_aload_n hx hb dX4_surenessOf_8 rfl (lv_at hl 0 rfl) ?_
    refine lv_iconst (v := 0) hx hb dX4_surenessOf_9 (by decide) ?_
    refine kc_i (va_runV (As := [.int 0]) (rest := []) ⟨hx, hb, hml, hown, htT⟩ (c_countOf l D cA _ S ty hty t0 hq0 ht0 0) (cwV 1 htT (kg_V m_ml_X4_33 m_im_X4_countOf m_sl_X4_countOf m_in_X4 m_cd_X4_countOf) rfl rfl rfl (by decide +kernel) ⟨Nat.le_of_ble_eq_true rfl, Nat.le_of_ble_eq_true rfl⟩) (kp_V hK hP hD hTB (kp_rc hK hP hty (Nat.le_of_ble_eq_true rfl) rfl)) rfl rfl hl.1 rfl (lv_room (Nat.le_of_ble_eq_true rfl)) dX4_surenessOf_10 ⟨Nat.le_of_ble_eq_true rfl, Nat.le_of_ble_eq_true rfl⟩) hD hS hA (fun r_3 x_3 H locs hq_3 hP hD hS => ?_)
    rw [hq_3.1]
    rw [hq_3.2] at hP hD
    refine lv_if_ne (tgt := 18) hx hb dX4_surenessOf_13 (by decide) (fun c_4 => ?_) (fun c_4 => ?_)
    · refine lv_aload_n hx hb dX4_surenessOf_18 rfl (lv_at hl 0 rfl) ?_
      refine lv_iload_n hx hb dX4_surenessOf_19 rfl (lv_at hl 1 rfl) ?_
      refine kcD_d hd0 (va_runV_D (As := [.int k]) (rest := []) ⟨hx, hb, hml, hown, htT⟩ (c_spreadByCount l D cA _ S ty hty t0 hq0 ht0 t2 hq2 ht2 t3 hq3 ht3 k) (cwV 1 htT (kg_V m_ml_X4_44 m_im_X4_spreadByCount m_sl_X4_spreadByCount m_in_X4 m_cd_X4_spreadByCount) rfl rfl rfl (by decide +kernel) ⟨Nat.le_of_ble_eq_true rfl, Nat.le_of_ble_eq_true rfl⟩) (kp_V hK hP hD hTB (kp_rc hK hP hty (Nat.le_of_ble_eq_true rfl) rfl)) rfl rfl hl.1 rfl (lv_room (Nat.le_of_ble_eq_true rfl)) dX4_surenessOf_20 ⟨Nat.le_of_ble_eq_true rfl, Nat.le_of_ble_eq_true rfl⟩) hD hS hA (fun r_5 x_5 H locs hq_5 hP hD hS d_5 hd0 => ?_)
      have htT : ∀ w ∈ TT, w.before _ (s.setDrawn d_5) = true := dr_words htT0 d_5
      have hTB : TBok (s.setDrawn d_5) := TBok.same (u := s) (U := s.setDrawn d_5) rfl (Vm.Alike.refl s.vm) hTB0
      have hK : va_K D vwCl (ty6 cA) (s.setDrawn d_5) := hK0
      have hown : (s.setDrawn d_5).vm.findClass RX4 = some m.cls := hown0
      rw [hq_5.2] at hP hD
      refine lv_aload_n hx hb dX4_surenessOf_23 rfl (lv_at hl 0 rfl) ?_
      refine lv_iconst (v := 0) hx hb dX4_surenessOf_24 (by decide) ?_
      refine kcD_d hd0 (va_runV_D (As := [.int 0]) (rest := [.double r_5]) ⟨hx, hb, hml, hown, htT⟩ (c_spreadByCount l D cA _ S ty hty t0 hq0 ht0 t2 hq2 ht2 t3 hq3 ht3 0) (cwV 1 htT (kg_V m_ml_X4_44 m_im_X4_spreadByCount m_sl_X4_spreadByCount m_in_X4 m_cd_X4_spreadByCount) rfl rfl rfl (by decide +kernel) ⟨Nat.le_of_ble_eq_true rfl, Nat.le_of_ble_eq_true rfl⟩) (kp_V hK hP hD hTB (kp_rc hK hP hty (Nat.le_of_ble_eq_true rfl) rfl)) rfl rfl hl.1 rfl (lv_room (Nat.le_of_ble_eq_true rfl)) dX4_surenessOf_25 ⟨Nat.le_of_ble_eq_true rfl, Nat.le_of_ble_eq_true rfl⟩) hD hS hA (fun r_6 x_6 H locs hq_6 hP hD hS d_6 hd0 => ?_)
      have htT : ∀ w ∈ TT, w.before _ (s.setDrawn d_6) = true := dr_words htT0 d_6
      have hTB : TBok (s.setDrawn d_6) := TBok.same (u := s) (U := s.setDrawn d_6) rfl (Vm.Alike.refl s.vm) hTB0
      have hK : va_K D vwCl (ty6 cA) (s.setDrawn d_6) := hK0
      have hown : (s.setDrawn d_6).vm.findClass RX4 = some m.cls := hown0
      rw [hq_6.2] at hP hD
      refine lv_dadd_any hd0 lw_bits hx hb dX4_surenessOf_28 (fun r_7 d_7 hal_7 hd0 => ?_)
      have htT : ∀ w ∈ TT, w.before _ (s.setDrawn d_7) = true := dr_words htT0 d_7
      have hTB : TBok (s.setDrawn d_7) := TBok.same (u := s) (U := s.setDrawn d_7) rfl (Vm.Alike.refl s.vm) hTB0
      have hK : va_K D vwCl (ty6 cA) (s.setDrawn d_7) := hK0
      have hown : (s.setDrawn d_7).vm.findClass RX4 = some m.cls := hown0
      refine lv_dstore_n (lv' := [(2, .double r_7), (0, .ref ty), (1, .int k)]) hx hb dX4_surenessOf_29 rfl hl (by decide) rfl (fun ls hl => ?_)
      refine lv_aload_n hx hb dX4_surenessOf_30 rfl (lv_at hl 1 rfl) ?_
      refine lv_iload_n hx hb dX4_surenessOf_31 rfl (lv_at hl 2 rfl) ?_
      refine kcD_d hd0 (va_runV_D (As := [.int k]) (rest := []) ⟨hx, hb, hml, hown, htT⟩ (c_liftOf l D cA _ S ty hty t0 hq0 ht0 t2 hq2 ht2 k) (cwV 1 htT (kg_V m_ml_X4_47 m_im_X4_liftOf m_sl_X4_liftOf m_in_X4 m_cd_X4_liftOf) rfl rfl rfl (by decide +kernel) ⟨Nat.le_of_ble_eq_true rfl, Nat.le_of_ble_eq_true rfl⟩) (kp_V hK hP hD hTB (kp_rc hK hP hty (Nat.le_of_ble_eq_true rfl) rfl)) rfl rfl hl.1 rfl (lv_room (Nat.le_of_ble_eq_true rfl)) dX4_surenessOf_32 ⟨Nat.le_of_ble_eq_true rfl, Nat.le_of_ble_eq_true rfl⟩) hD hS hA (fun r_8 x_8 H locs hq_8 hP hD hS d_8 hd0 => ?_)
      have htT : ∀ w ∈ TT, w.before _ (s.setDrawn d_8) = true := dr_words htT0 d_8
      have hTB : TBok (s.setDrawn d_8) := TBok.same (u := s) (U := s.setDrawn d_8) rfl (Vm.Alike.refl s.vm) hTB0
      have hK : va_K D vwCl (ty6 cA) (s.setDrawn d_8) := hK0
      have hown : (s.setDrawn d_8).vm.findClass RX4 = some m.cls := hown0
      rw [hq_8.2] at hP hD
      refine lv_dstore (lv' := [(4, .double r_8), (2, .double r_7), (0, .ref ty), (1, .int k)]) hx hb dX4_surenessOf_35 hl (by decide) rfl (fun ls hl => ?_)
      refine lv_dload_n hx hb dX4_surenessOf_37 rfl (lv_at hl 1 rfl) ?_
      refine lv_dconst0 hx hb dX4_surenessOf_38 ?_
      refine lv_dcmp hx hb dX4_surenessOf_39 ?_
      refine lv_if_ne (tgt := 47) hx hb dX4_surenessOf_40 (by decide) (fun c_10 => ?_) (fun c_10 => ?_)
      · refine lv_dload hx hb dX4_surenessOf_47 (lv_at hl 0 rfl) ?_
        refine lv_dload hx hb dX4_surenessOf_49 (lv_at hl 0 rfl) ?_
        refine lv_dmul_any hd0 lw_bits hx hb dX4_surenessOf_51 (fun r_11 d_11 hal_11 hd0 => ?_)
        have htT : ∀ w ∈ TT, w.before _ (s.setDrawn d_11) = true := dr_words htT0 d_11
        have hTB : TBok (s.setDrawn d_11) := TBok.same (u := s) (U := s.setDrawn d_11) rfl (Vm.Alike.refl s.vm) hTB0
        have hK : va_K D vwCl (ty6 cA) (s.setDrawn d_11) := hK0
        have hown : (s.setDrawn d_11).vm.findClass RX4 = some m.cls := hown0
        refine lv_dload_n hx hb dX4_surenessOf_52 rfl (lv_at hl 1 rfl) ?_
        refine lv_ddiv_any hd0 lw_bits hx hb dX4_surenessOf_53 (fun r_12 d_12 hal_12 hd0 => ?_)
        have htT : ∀ w ∈ TT, w.before _ (s.setDrawn d_12) = true := dr_words htT0 d_12
        have hTB : TBok (s.setDrawn d_12) := TBok.same (u := s) (U := s.setDrawn d_12) rfl (Vm.Alike.refl s.vm) hTB0
        have hK : va_K D vwCl (ty6 cA) (s.setDrawn d_12) := hK0
        have hown : (s.setDrawn d_12).vm.findClass RX4 = some m.cls := hown0
        refine W.endD hd0 ?_
        exact W.dret (v := r_12) hx hb hr (fun t ht hW => ⟨⟨r_12, S, rfl, ⟨trivial, rfl⟩, by rw [ht]; exact hP, va_K.moved hW.alike hK, hD⟩, hS.F ht⟩) hS.2.2 dX4_surenessOf_54
      · refine lv_dconst0 hx hb dX4_surenessOf_43 ?_
        refine lv_goto (tgt := 54) hx hb dX4_surenessOf_44 (by decide) ?_
        refine W.endD hd0 ?_
        exact W.dret (v := FP.dconst0) hx hb hr (fun t ht hW => ⟨⟨FP.dconst0, S, rfl, ⟨trivial, rfl⟩, by rw [ht]; exact hP, va_K.moved hW.alike hK, hD⟩, hS.F ht⟩) hS.2.2 dX4_surenessOf_54
    · refine lv_dconst0 hx hb dX4_surenessOf_16 ?_
      refine W.endD hd0 ?_
      exact W.dret (v := FP.dconst0) hx hb hr (fun t ht hW => ⟨⟨FP.dconst0, S, rfl, ⟨trivial, rfl⟩, by rw [ht]; exact hP, va_K.moved hW.alike hK, hD⟩, hS.F ht⟩) hS.2.2 dX4_surenessOf_17

set_option maxRecDepth 100000 in
set_option maxHeartbeats 4000000 in
/-- bestVariant -/
theorem c_bestVariant (l : Launch) (D : va_G) (cA : Nat → ClassId) (sz : Nat) (S : Pool) (ty : Nat) (hty : isO S ty 4) (t0 : Nat) (hq0 : gQ S ty 0 = some t0) (ht0 : isA S t0 10 4) (t2 : Nat) (hq2 : gQ S ty 2 = some t2) (ht2 : isA S t2 12 4)  : MetD lw_cs l yX4_bestVariant (Cond.code yX4_bestVariant cX4_bestVariant 3 (some .int) :: TT) ({ frames := 3, cells := 0, slots := 0, locals := 63 }) (va_Pc [.ref ty] (kPre D cA (PW cA S) sz)) (va_Qi (fun (r_ : Int32) (x_ : Pool) => True ∧ x_ = S) (fun x_ => kB D cA (va_A (PW cA S) sz) (PW cA x_)) (va_A (PW cA S) sz)) 0 0 (va_A (PW cA S) sz) := by
  refine MetD.ofW (cc := cX4_bestVariant) (maxL := 3) (ret := (some .int)) (by decide) rfl ?_
  intro p e s m args below meth c s₁ B hml hv hd0
  obtain ⟨rfl, hsz, hP, hK, hD0, hTB⟩ := hv
  have hx := B.exec
  have hb := B.bytes
  have hr := B.returns
  have hts := atoms_spec (ws := Cond.code yX4_bestVariant cX4_bestVariant 3 (some .int) :: TT) B.pre
  have htT : ∀ w ∈ TT, w.before _ s = true := fun w h => hts w (List.mem_cons_of_mem _ h)
  have hown : s.vm.findClass RX4 = some m.cls := findClass_of_methodNamed B.named
  have hlocks := B.notSynchronized
  subst hsz
  have hD := hD0.self (sz := s.heap.size)
  generalize hAe : va_A (PW cA S) s.heap.size = A at hD ⊢
  have hA : ∀ q : Nat, s.heap.size ≤ q → A q := fun q h => by rw [← hAe]; exact Or.inr h
  have hS : va_S A s.heap s.heap [] := va_S.rf
  have hl := lv_entry ([.ref ty]) (n := 3) (Nat.le_of_ble_eq_true rfl)
  rw [lg_entry_eq]
  generalize (lg_sl ([.ref ty]) ++ List.replicate (3 - (lg_sl ([.ref ty])).length) Slot.unset).toArray = ls at hl ⊢
  have hl : lv_has ls 3 [(0, .ref ty)] := hl
  have htT0 := htT
  have hTB0 := hTB
  have hK0 := hK
  have hown0 := hown
  have htT : ∀ w ∈ TT, w.before _ (s.setDrawn s.drawn) = true := dr_words htT0 s.drawn
  have hTB : TBok (s.setDrawn s.drawn) := TBok.same (u := s) (U := s.setDrawn s.drawn) rfl (Vm.Alike.refl s.vm) hTB0
  have hK : va_K D vwCl (ty6 cA) (s.setDrawn s.drawn) := hK0
  have hown : (s.setDrawn s.drawn).vm.findClass RX4 = some m.cls := hown0
  refine lv_iconst (v := (-1)) hx hb dX4_bestVariant_0 (by decide) ?_
  refine lv_istore_n (lv' := [(1, .int (-1)), (0, .ref ty)]) hx hb dX4_bestVariant_1 rfl hl (by decide) rfl (fun ls hl => ?_)
  refine lv_iconst (v := 0) hx hb dX4_bestVariant_2 (by decide) ?_
  refine lv_istore_n (lv' := [(2, .int 0), (1, .int (-1)), (0, .ref ty)]) hx hb dX4_bestVariant_3 rfl hl (by decide) rfl (fun ls hl => ?_)
  refine kz_loopD 4 (fun N9 H locs ls => ∃ (j : Nat) (fd : Int32), N9 = 4 - j ∧ j ≤ 4 ∧ va_P D vwCl (PW cA S) H ∧ va_D A (PW cA S) ∧ va_S A s.heap H locs ∧ lv_has ls 3 [(2, .int (nI j)), (1, .int fd), (0, .ref ty)]) (fun N9 ih_4 H locs ls e_4 hd0 hI => ?_) hd0 ⟨0, (-1), rfl, by omega, hP, hD, hS, lv_sub hl [0, 1, 2] rfl⟩
  obtain ⟨j, fd, hn9, hj, hP, hD, hS, hl⟩ := hI
  have htT : ∀ w ∈ TT, w.before _ (s.setDrawn e_4) = true := dr_words htT0 e_4
  have hTB : TBok (s.setDrawn e_4) := TBok.same (u := s) (U := s.setDrawn e_4) rfl (Vm.Alike.refl s.vm) hTB0
  have hK : va_K D vwCl (ty6 cA) (s.setDrawn e_4) := hK0
  have hown : (s.setDrawn e_4).vm.findClass RX4 = some m.cls := hown0
  refine lv_iload_n hx hb dX4_bestVariant_4 rfl (lv_at hl 0 rfl) ?_
  refine lv_iconst (v := 4) hx hb dX4_bestVariant_5 (by decide) ?_
  refine lv_icmp_ge (tgt := 44) hx hb dX4_bestVariant_6 (by decide) (fun c_1 => ?_) (fun c_1 => ?_)
  · replace c_1 := (nI_leI (a := 4) (b := j) (by omega) (by omega)).mp c_1
    refine lv_iload_n hx hb dX4_bestVariant_44 rfl (lv_at hl 1 rfl) ?_
    refine W.endD hd0 ?_
    exact W.iret (v := fd) hx hb hr (fun t ht hW => ⟨⟨fd, S, rfl, ⟨trivial, rfl⟩, by rw [ht]; exact hP, va_K.moved hW.alike hK, hD⟩, hS.F ht⟩) hS.2.2 dX4_bestVariant_45
  · replace c_1 : ¬ (4 ≤ j) := fun h9 => c_1 ((nI_leI (a := 4) (b := j) (by omega) (by omega)).mpr h9)
    refine lv_aload_n hx hb dX4_bestVariant_9 rfl (lv_at hl 2 rfl) ?_
    refine lv_iload_n hx hb dX4_bestVariant_10 rfl (lv_at hl 0 rfl) ?_
    refine kc_i (va_runV (As := [.int (nI j)]) (rest := []) ⟨hx, hb, hml, hown, htT⟩ (c_countOf l D cA _ S ty hty t0 hq0 ht0 (nI j)) (cwV 1 htT (kg_V m_ml_X4_33 m_im_X4_countOf m_sl_X4_countOf m_in_X4 m_cd_X4_countOf) rfl rfl rfl (by decide +kernel) ⟨Nat.le_of_ble_eq_true rfl, Nat.le_of_ble_eq_true rfl⟩) (kp_V hK hP hD hTB (kp_rc hK hP hty (Nat.le_of_ble_eq_true rfl) rfl)) rfl rfl hl.1 rfl (lv_room (Nat.le_of_ble_eq_true rfl)) dX4_bestVariant_11 ⟨Nat.le_of_ble_eq_true rfl, Nat.le_of_ble_eq_true rfl⟩) hD hS hA (fun r_2 x_2 H locs hq_2 hP hD hS => ?_)
    rw [hq_2.1]
    rw [hq_2.2] at hP hD
    refine lv_if_le (tgt := 38) hx hb dX4_bestVariant_14 (by decide) (fun c_3 => ?_) (fun c_3 => ?_)
    · replace c_3 := Int32.not_lt.mpr c_3
      refine lv_iinc (v := nI (j + 1)) (lv' := [(2, .int (nI (j + 1))), (1, .int fd), (0, .ref ty)]) hx hb dX4_bestVariant_38 hl (k := 0) rfl (nI_1 _) (by decide) rfl (fun ls hl => ?_)
      refine lv_goto (tgt := 4) hx hb dX4_bestVariant_41 (by decide) ?_
      have hl := lv_sub hl [0, 1, 2] rfl
      exact ih_4 _ (by omega) H locs ls e_4 hd0 ⟨j + 1, _, rfl, by omega, hP, hD, hS, hl⟩
    · replace c_3 := Int32.not_le.mp c_3
      refine lv_iload_n hx hb dX4_bestVariant_17 rfl (lv_at hl 1 rfl) ?_
      refine lv_iconst (v := (-1)) hx hb dX4_bestVariant_18 (by decide) ?_
      refine lv_icmp_eq (tgt := 36) hx hb dX4_bestVariant_19 (by decide) (fun c_4 => ?_) (fun c_4 => ?_)
      · refine lv_iload_n hx hb dX4_bestVariant_36 rfl (lv_at hl 0 rfl) ?_
        refine lv_istore_n (lv' := [(1, .int (nI j)), (2, .int (nI j)), (0, .ref ty)]) hx hb dX4_bestVariant_37 rfl hl (by decide) rfl (fun ls hl => ?_)
        refine lv_iinc (v := nI (j + 1)) (lv' := [(2, .int (nI (j + 1))), (1, .int (nI j)), (0, .ref ty)]) hx hb dX4_bestVariant_38 hl (k := 1) rfl (nI_1 _) (by decide) rfl (fun ls hl => ?_)
        refine lv_goto (tgt := 4) hx hb dX4_bestVariant_41 (by decide) ?_
        have hl := lv_sub hl [0, 1, 2] rfl
        exact ih_4 _ (by omega) H locs ls e_4 hd0 ⟨j + 1, _, rfl, by omega, hP, hD, hS, hl⟩
      · refine lv_aload_n hx hb dX4_bestVariant_22 rfl (lv_at hl 2 rfl) ?_
        refine lv_iload_n hx hb dX4_bestVariant_23 rfl (lv_at hl 0 rfl) ?_
        refine kcD_d hd0 (va_runV_D (As := [.int (nI j)]) (rest := []) ⟨hx, hb, hml, hown, htT⟩ (c_meanOf l D cA _ S ty hty t0 hq0 ht0 t2 hq2 ht2 (nI j)) (cwV 1 htT (kg_V m_ml_X4_40 m_im_X4_meanOf m_sl_X4_meanOf m_in_X4 m_cd_X4_meanOf) rfl rfl rfl (by decide +kernel) ⟨Nat.le_of_ble_eq_true rfl, Nat.le_of_ble_eq_true rfl⟩) (kp_V hK hP hD hTB (kp_rc hK hP hty (Nat.le_of_ble_eq_true rfl) rfl)) rfl rfl hl.1 rfl (lv_room (Nat.le_of_ble_eq_true rfl)) dX4_bestVariant_24 ⟨Nat.le_of_ble_eq_true rfl, Nat.le_of_ble_eq_true rfl⟩) hD hS hA (fun r_5 x_5 H locs hq_5 hP hD hS d_5 hd0 => ?_)
        have htT : ∀ w ∈ TT, w.before _ (s.setDrawn d_5) = true := dr_words htT0 d_5
        have hTB : TBok (s.setDrawn d_5) := TBok.same (u := s) (U := s.setDrawn d_5) rfl (Vm.Alike.refl s.vm) hTB0
        have hK : va_K D vwCl (ty6 cA) (s.setDrawn d_5) := hK0
        have hown : (s.setDrawn d_5).vm.findClass RX4 = some m.cls := hown0
        rw [hq_5.2] at hP hD
        refine lv_aload_n hx hb dX4_bestVariant_27 rfl (lv_at hl 2 rfl) ?_
        refine lv_iload_n hx hb dX4_bestVariant_28 rfl (lv_at hl 1 rfl) ?_
        refine kcD_d hd0 (va_runV_D (As := [.int fd]) (rest := [.double r_5]) ⟨hx, hb, hml, hown, htT⟩ (c_meanOf l D cA _ S ty hty t0 hq0 ht0 t2 hq2 ht2 fd) (cwV 1 htT (kg_V m_ml_X4_40 m_im_X4_meanOf m_sl_X4_meanOf m_in_X4 m_cd_X4_meanOf) rfl rfl rfl (by decide +kernel) ⟨Nat.le_of_ble_eq_true rfl, Nat.le_of_ble_eq_true rfl⟩) (kp_V hK hP hD hTB (kp_rc hK hP hty (Nat.le_of_ble_eq_true rfl) rfl)) rfl rfl hl.1 rfl (lv_room (Nat.le_of_ble_eq_true rfl)) dX4_bestVariant_29 ⟨Nat.le_of_ble_eq_true rfl, Nat.le_of_ble_eq_true rfl⟩) hD hS hA (fun r_6 x_6 H locs hq_6 hP hD hS d_6 hd0 => ?_)
        have htT : ∀ w ∈ TT, w.before _ (s.setDrawn d_6) = true := dr_words htT0 d_6
        have hTB : TBok (s.setDrawn d_6) := TBok.same (u := s) (U := s.setDrawn d_6) rfl (Vm.Alike.refl s.vm) hTB0
        have hK : va_K D vwCl (ty6 cA) (s.setDrawn d_6) := hK0
        have hown : (s.setDrawn d_6).vm.findClass RX4 = some m.cls := hown0
        rw [hq_6.2] at hP hD
        refine lv_dcmp hx hb dX4_bestVariant_32 ?_
        refine lv_if_le (tgt := 38) hx hb dX4_bestVariant_33 (by decide) (fun c_8 => ?_) (fun c_8 => ?_)
        · replace c_8 := Int32.not_lt.mpr c_8
          refine lv_iinc (v := nI (j + 1)) (lv' := [(2, .int (nI (j + 1))), (1, .int fd), (0, .ref ty)]) hx hb dX4_bestVariant_38 hl (k := 0) rfl (nI_1 _) (by decide) rfl (fun ls hl => ?_)
          refine lv_goto (tgt := 4) hx hb dX4_bestVariant_41 (by decide) ?_
          have hl := lv_sub hl [0, 1, 2] rfl
          exact ih_4 _ (by omega) H locs ls d_6 hd0 ⟨j + 1, _, rfl, by omega, hP, hD, hS, hl⟩
        · replace c_8 := Int32.not_le.mp c_8
          refine lv_iload_n hx hb dX4_bestVariant_36 rfl (lv_at hl 0 rfl) ?_
          refine lv_istore_n (lv' := [(1, .int (nI j)), (2, .int (nI j)), (0, .ref ty)]) hx hb dX4_bestVariant_37 rfl hl (by decide) rfl (fun ls hl => ?_)
          refine lv_iinc (v := nI (j + 1)) (lv' := [(2, .int (nI (j + 1))), (1, .int (nI j)), (0, .ref ty)]) hx hb dX4_bestVariant_38 hl (k := 1) rfl (nI_1 _) (by decide) rfl (fun ls hl => ?_)
          refine lv_goto (tgt := 4) hx hb dX4_bestVariant_41 (by decide) ?_
          have hl := lv_sub hl [0, 1, 2] rfl
          exact ih_4 _ (by omega) H locs ls d_6 hd0 ⟨j + 1, _, rfl, by omega, hP, hD, hS, hl⟩

set_option maxRecDepth 100000 in
set_option maxHeartbeats 4000000 in
/-- badness -/
theorem c_badness (l : Launch) (D : va_G) (cA : Nat → ClassId) (sz : Nat) (S : Pool) (a : Nat) (ho : isO S a 3) (wt : Nat) (hq4 : gQ S a 4 = some wt) (hwt : isA S wt 6 4) (ty : Nat) (hq6 : gQ S a 6 = some ty) (hty : isO S ty 4) (t0 : Nat) (hq0 : gQ S ty 0 = some t0) (ht0 : isA S t0 10 4)  : Met l yX3_badness (Cond.code yX3_badness cX3_badness 10 (some .int) :: TT) ({ frames := 2, cells := 0, slots := 0, locals := 41 }) (va_Pc [.ref a] (kPre D cA (PW cA S) sz)) (va_Qi (fun (r_ : Int32) (x_ : Pool) => r_ = (cBadL S wt t0 (gI S ty 4).toInt64 4 0 0).toInt32 ∧ x_ = S) (fun x_ => kB D cA (va_A (PW cA S) sz) (PW cA x_)) (va_A (PW cA S) sz)) 0 0 (va_A (PW cA S) sz) := by
  refine Met.ofW (cc := cX3_badness) (maxL := 10) (ret := (some .int)) (by decide) rfl ?_
  intro p e s m args below meth c s₁ B hml hv
  obtain ⟨rfl, hsz, hP, hK, hD0, hTB⟩ := hv
  have hx := B.exec
  have hb := B.bytes
  have hr := B.returns
  have hts := atoms_spec (ws := Cond.code yX3_badness cX3_badness 10 (some .int) :: TT) B.pre
  have htT : ∀ w ∈ TT, w.before _ s = true := fun w h => hts w (List.mem_cons_of_mem _ h)
  have hown : s.vm.findClass RX3 = some m.cls := findClass_of_methodNamed B.named
  have hlocks := B.notSynchronized
  subst hsz
  have hD := hD0.self (sz := s.heap.size)
  generalize hAe : va_A (PW cA S) s.heap.size = A at hD ⊢
  have hA : ∀ q : Nat, s.heap.size ≤ q → A q := fun q h => by rw [← hAe]; exact Or.inr h
  have hS : va_S A s.heap s.heap [] := va_S.rf
  have hl := lv_entry ([.ref a]) (n := 10) (Nat.le_of_ble_eq_true rfl)
  rw [lg_entry_eq]
  generalize (lg_sl ([.ref a]) ++ List.replicate (10 - (lg_sl ([.ref a])).length) Slot.unset).toArray = ls at hl ⊢
  have hl : lv_has ls 10 [(0, .ref a)] := hl
  refine lv_aload_n hx hb dX3_badness_0 rfl (lv_at hl 0 rfl) ?_
  refine kx_gets hx hb htT m_u_X3 hown hK hP ho (Nat.le_of_ble_eq_true rfl) rfl 6 (by decide) (by decide) rfl hq6 (htT _ m_fl_X3_24) dX3_badness_1 ?_
  refine kx_getiN hx hb htT m_u_X4 hown hK hP hty (Nat.le_of_ble_eq_true rfl) rfl 4 (by decide) (by decide) rfl (hTB.use m_fl_X3_121) dX3_badness_4 ?_
  refine lv_i2l (v := (gI S ty 4).toInt64) hx hb dX3_badness_7 rfl ?_
  refine lv_lstore_n (lv' := [(1, .long ((gI S ty 4).toInt64)), (0, .ref a)]) hx hb dX3_badness_8 rfl hl (by decide) rfl (fun ls hl => ?_)
  refine lv_lconst (v := 0) hx hb dX3_badness_9 (by decide) ?_
  refine lv_lstore_n (lv' := [(3, .long 0), (1, .long ((gI S ty 4).toInt64)), (0, .ref a)]) hx hb dX3_badness_10 rfl hl (by decide) rfl (fun ls hl => ?_)
  refine lv_iconst (v := 0) hx hb dX3_badness_11 (by decide) ?_
  refine lv_istore (lv' := [(5, .int 0), (3, .long 0), (1, .long ((gI S ty 4).toInt64)), (0, .ref a)]) hx hb dX3_badness_12 hl (by decide) rfl (fun ls hl => ?_)
  refine kz_loop 14 (fun N9 H locs ls => ∃ (j : Nat) (acc : Int64), N9 = 4 - j ∧ j ≤ 4 ∧ cBadL S wt t0 (gI S ty 4).toInt64 4 0 0 = cBadL S wt t0 (gI S ty 4).toInt64 (4 - j) j acc ∧ va_P D vwCl (PW cA S) H ∧ va_D A (PW cA S) ∧ va_S A s.heap H locs ∧ lv_has ls 10 [(5, .int (nI j)), (3, .long acc), (1, .long ((gI S ty 4).toInt64)), (0, .ref a)]) (fun N9 ih_14 H locs ls hI => ?_) ⟨0, 0, rfl, by omega, rfl, hP, hD, hS, lv_sub hl [0, 1, 2, 3] rfl⟩
  obtain ⟨j, acc, hn9, hj, hF, hP, hD, hS, hl⟩ := hI
  refine lv_iload hx hb dX3_badness_14 (lv_at hl 0 rfl) ?_
  refine lv_aload_n hx hb dX3_badness_16 rfl (lv_at hl 3 rfl) ?_
  refine kx_gets hx hb htT m_u_X3 hown hK hP ho (Nat.le_of_ble_eq_true rfl) rfl 4 (by decide) (by decide) rfl hq4 (htT _ m_fl_X3_9) dX3_badness_17 ?_
  refine kx_alen (v := 4) hx hb hK hP hwt (Nat.le_of_ble_eq_true rfl) (Nat.le_of_ble_eq_true rfl) rfl dX3_badness_20 ?_
  refine lv_icmp_ge (tgt := 83) hx hb dX3_badness_21 (by decide) (fun c_1 => ?_) (fun c_1 => ?_)
  · replace c_1 := (nI_leI (a := 4) (b := j) (by omega) (by omega)).mp c_1
    refine lv_lload_n hx hb dX3_badness_83 rfl (lv_at hl 1 rfl) ?_
    refine lv_l2i (v := acc.toInt32) hx hb dX3_badness_84 rfl ?_
    exact W.iret (v := acc.toInt32) hx hb hr (fun t ht hW => ⟨⟨acc.toInt32, S, rfl, ⟨by rw [hF, show 4 - j = 0 by omega]; rfl, rfl⟩, by rw [ht]; exact hP, va_K.moved hW.alike hK, hD⟩, hS.F ht⟩) hS.2.2 dX3_badness_85
  · replace c_1 : ¬ (4 ≤ j) := fun h9 => c_1 ((nI_leI (a := 4) (b := j) (by omega) (by omega)).mpr h9)
    refine lv_lload_n hx hb dX3_badness_24 rfl (lv_at hl 2 rfl) ?_
    refine lv_aload_n hx hb dX3_badness_25 rfl (lv_at hl 3 rfl) ?_
    refine kx_gets hx hb htT m_u_X3 hown hK hP ho (Nat.le_of_ble_eq_true rfl) rfl 4 (by decide) (by decide) rfl hq4 (htT _ m_fl_X3_9) dX3_badness_26 ?_
    refine lv_iload hx hb dX3_badness_29 (lv_at hl 0 rfl) ?_
    refine kx_iald hx hb hK hP hwt (Nat.le_of_ble_eq_true rfl) (Nat.le_of_ble_eq_true rfl) (show vp_in (nI (j)) 4 from ki_in (by omega) (by decide)) dX3_badness_31 ?_
    rw [ki_cl (n := j) (by omega)]
    refine lv_i2l (v := (gR S wt j).toInt64) hx hb dX3_badness_32 rfl ?_
    refine lv_lmul hx hb dX3_badness_33 ?_
    refine lv_lstore (lv' := [(6, .long (((gI S ty 4).toInt64) * ((gR S wt j).toInt64))), (5, .int (nI j)), (3, .long acc), (1, .long ((gI S ty 4).toInt64)), (0, .ref a)]) hx hb dX3_badness_34 hl (by decide) rfl (fun ls hl => ?_)
    refine lv_lload hx hb dX3_badness_36 (lv_at hl 0 rfl) ?_
    refine lv_lconst (v := 0) hx hb dX3_badness_38 (by decide) ?_
    refine W.lcmp hx hb dX3_badness_39 ?_
    refine lv_if_le (tgt := 77) hx hb dX3_badness_40 (by decide) (fun c_2 => ?_) (fun c_2 => ?_)
    · replace c_2 := Int32.not_lt.mpr c_2
      refine lv_iinc (v := nI (j + 1)) (lv' := [(5, .int (nI (j + 1))), (6, .long (((gI S ty 4).toInt64) * ((gR S wt j).toInt64))), (3, .long acc), (1, .long ((gI S ty 4).toInt64)), (0, .ref a)]) hx hb dX3_badness_77 hl (k := 1) rfl (nI_1 _) (by decide) rfl (fun ls hl => ?_)
      refine lv_goto (tgt := 14) hx hb dX3_badness_80 (by decide) ?_
      have hl := lv_sub hl [0, 2, 3, 4] rfl
      exact ih_14 _ (by omega) H locs ls ⟨j + 1, _, rfl, by omega, by rw [hF, show 4 - j = (4 - (j + 1)) + 1 by omega]; first | (rw [cBadL, if_pos (by assumption)]; done) | (rw [cBadL, if_neg (by assumption)]; done), hP, hD, hS, hl⟩
    · replace c_2 := Int32.not_le.mp c_2
      refine lv_aload_n hx hb dX3_badness_43 rfl (lv_at hl 4 rfl) ?_
      refine kx_gets hx hb htT m_u_X3 hown hK hP ho (Nat.le_of_ble_eq_true rfl) rfl 6 (by decide) (by decide) rfl hq6 (htT _ m_fl_X3_24) dX3_badness_44 ?_
      refine lv_iload hx hb dX3_badness_47 (lv_at hl 1 rfl) ?_
      refine kc_i (va_runV (As := [.int (nI j)]) (rest := []) ⟨hx, hb, hml, hown, htT⟩ (c_countOf l D cA _ S ty hty t0 hq0 ht0 (nI j)) (cwV 1 htT (kg_V m_ml_X3_124 m_im_X4_countOf m_sl_X4_countOf m_in_X4 m_cd_X4_countOf) rfl rfl rfl (by decide +kernel) ⟨Nat.le_of_ble_eq_true rfl, Nat.le_of_ble_eq_true rfl⟩) (kp_V hK hP hD hTB (kp_rc hK hP hty (Nat.le_of_ble_eq_true rfl) rfl)) rfl rfl hl.1 rfl (lv_room (Nat.le_of_ble_eq_true rfl)) dX3_badness_49 ⟨Nat.le_of_ble_eq_true rfl, Nat.le_of_ble_eq_true rfl⟩) hD hS hA (fun r_3 x_3 H locs hq_3 hP hD hS => ?_)
      rw [hq_3.1]
      rw [hq_3.2] at hP hD
      refine lv_i2l (v := (cTal S t0 (nI j)).toInt64) hx hb dX3_badness_52 rfl ?_
      refine lv_ldc2 (v := 1000) hx hb hown (htT _ m_lc_X3_57) dX3_badness_53 ?_
      refine lv_lmul hx hb dX3_badness_56 ?_
      refine lv_lload hx hb dX3_badness_57 (lv_at hl 0 rfl) ?_
      refine lv_lsub hx hb dX3_badness_59 ?_
      refine lv_lstore (lv' := [(8, .long ((((cTal S t0 (nI j)).toInt64) * 1000) - (((gI S ty 4).toInt64) * ((gR S wt j).toInt64)))), (6, .long (((gI S ty 4).toInt64) * ((gR S wt j).toInt64))), (5, .int (nI j)), (3, .long acc), (1, .long ((gI S ty 4).toInt64)), (0, .ref a)]) hx hb dX3_badness_60 hl (by decide) rfl (fun ls hl => ?_)
      refine lv_lload_n hx hb dX3_badness_62 rfl (lv_at hl 3 rfl) ?_
      refine lv_lload hx hb dX3_badness_63 (lv_at hl 0 rfl) ?_
      refine lv_lload hx hb dX3_badness_65 (lv_at hl 0 rfl) ?_
      refine lv_lmul hx hb dX3_badness_67 ?_
      refine lv_lload hx hb dX3_badness_68 (lv_at hl 1 rfl) ?_
      refine lv_ldc2 (v := 10) hx hb hown (htT _ m_lc_X3_128) dX3_badness_70 ?_
      refine lv_lmul hx hb dX3_badness_73 ?_
      refine lv_ldiv hx hb dX3_badness_74 (due_ne (by assumption)) ?_
      refine lv_ladd hx hb dX3_badness_75 ?_
      refine lv_lstore_n (lv' := [(3, .long (acc + ((((((cTal S t0 (nI j)).toInt64) * 1000) - (((gI S ty 4).toInt64) * ((gR S wt j).toInt64))) * ((((cTal S t0 (nI j)).toInt64) * 1000) - (((gI S ty 4).toInt64) * ((gR S wt j).toInt64)))) / ((((gI S ty 4).toInt64) * ((gR S wt j).toInt64)) * 10)))), (8, .long ((((cTal S t0 (nI j)).toInt64) * 1000) - (((gI S ty 4).toInt64) * ((gR S wt j).toInt64)))), (6, .long (((gI S ty 4).toInt64) * ((gR S wt j).toInt64))), (5, .int (nI j)), (1, .long ((gI S ty 4).toInt64)), (0, .ref a)]) hx hb dX3_badness_76 rfl hl (by decide) rfl (fun ls hl => ?_)
      refine lv_iinc (v := nI (j + 1)) (lv' := [(5, .int (nI (j + 1))), (3, .long (acc + ((((((cTal S t0 (nI j)).toInt64) * 1000) - (((gI S ty 4).toInt64) * ((gR S wt j).toInt64))) * ((((cTal S t0 (nI j)).toInt64) * 1000) - (((gI S ty 4).toInt64) * ((gR S wt j).toInt64)))) / ((((gI S ty 4).toInt64) * ((gR S wt j).toInt64)) * 10)))), (8, .long ((((cTal S t0 (nI j)).toInt64) * 1000) - (((gI S ty 4).toInt64) * ((gR S wt j).toInt64)))), (6, .long (((gI S ty 4).toInt64) * ((gR S wt j).toInt64))), (1, .long ((gI S ty 4).toInt64)), (0, .ref a)]) hx hb dX3_badness_77 hl (k := 3) rfl (nI_1 _) (by decide) rfl (fun ls hl => ?_)
      refine lv_goto (tgt := 14) hx hb dX3_badness_80 (by decide) ?_
      have hl := lv_sub hl [0, 1, 4, 5] rfl
      exact ih_14 _ (by omega) H locs ls ⟨j + 1, _, rfl, by omega, by rw [hF, show 4 - j = (4 - (j + 1)) + 1 by omega]; first | (rw [cBadL, if_pos (by assumption)]; done) | (rw [cBadL, if_neg (by assumption)]; done), hP, hD, hS, hl⟩

set_option maxRecDepth 100000 in
set_option maxHeartbeats 4000000 in
theorem c_mostBadness (l : Launch) (D : va_G) (cA : Nat → ClassId) (sz : Nat) (S : Pool) (k : Int32) : Met l yX3_mostBadness (Cond.code yX3_mostBadness cX3_mostBadness 1 (some .int) :: TT) ({ frames := 0, cells := 0, slots := 0, locals := 0 }) (va_Pc [.int k] (kPre D cA (PW cA S) sz)) (va_Qi (fun (r_ : Int32) (x_ : Pool) => r_ = kMost k ∧ x_ = S) (fun x_ => kB D cA (va_A (PW cA S) sz) (PW cA x_)) (va_A (PW cA S) sz)) 0 0 (va_A (PW cA S) sz) := by
  refine Met.ofW (cc := cX3_mostBadness) (maxL := 1) (ret := (some .int)) (by decide) rfl ?_
  intro p e s m args below meth c s₁ B hml hv
  obtain ⟨rfl, hsz, hP, hK, hD0, hTB⟩ := hv
  have hx := B.exec
  have hb := B.bytes
  have hr := B.returns
  have hts := atoms_spec (ws := Cond.code yX3_mostBadness cX3_mostBadness 1 (some .int) :: TT) B.pre
  have htT : ∀ w ∈ TT, w.before _ s = true := fun w h => hts w (List.mem_cons_of_mem _ h)
  have hown : s.vm.findClass RX3 = some m.cls := findClass_of_methodNamed B.named
  have hlocks := B.notSynchronized
  subst hsz
  have hD := hD0.self (sz := s.heap.size)
  generalize hAe : va_A (PW cA S) s.heap.size = A at hD ⊢
  have hA : ∀ q : Nat, s.heap.size ≤ q → A q := fun q h => by rw [← hAe]; exact Or.inr h
  have hS : va_S A s.heap s.heap [] := va_S.rf
  have hl := lv_entry ([.int k]) (n := 1) (Nat.le_of_ble_eq_true rfl)
  rw [lg_entry_eq]
  generalize (lg_sl ([.int k]) ++ List.replicate (1 - (lg_sl ([.int k])).length) Slot.unset).toArray = ls at hl ⊢
  have hl : lv_has ls 1 [(0, .int k)] := hl
  refine lv_iload_n hx hb dX3_mostBadness_0 rfl (lv_at hl 0 rfl) ?_
  refine lv_iconst (v := 2) hx hb dX3_mostBadness_1 (by decide) ?_
  refine lv_icmp_ne (tgt := 9) hx hb dX3_mostBadness_2 (by decide) (fun c_1 => ?_) (fun c_1 => ?_)
  · refine lv_iload_n hx hb dX3_mostBadness_9 rfl (lv_at hl 0 rfl) ?_
    refine lv_iconst (v := 3) hx hb dX3_mostBadness_10 (by decide) ?_
    refine lv_icmp_ne (tgt := 20) hx hb dX3_mostBadness_11 (by decide) (fun c_2 => ?_) (fun c_2 => ?_)
    · refine lv_sipush (v := 781) hx hb dX3_mostBadness_20 (by decide) ?_
      exact W.iret (v := 781) hx hb hr (fun t ht hW => ⟨⟨781, S, rfl, ⟨by simp [kMost, c_1, c_2], rfl⟩, by rw [ht]; exact hP, va_K.moved hW.alike hK, hD⟩, hS.F ht⟩) hS.2.2 dX3_mostBadness_23
    · refine lv_sipush (v := 599) hx hb dX3_mostBadness_14 (by decide) ?_
      refine lv_goto (tgt := 23) hx hb dX3_mostBadness_17 (by decide) ?_
      exact W.iret (v := 599) hx hb hr (fun t ht hW => ⟨⟨599, S, rfl, ⟨by simp [kMost, c_1, c_2], rfl⟩, by rw [ht]; exact hP, va_K.moved hW.alike hK, hD⟩, hS.F ht⟩) hS.2.2 dX3_mostBadness_23
  · refine lv_sipush (v := 384) hx hb dX3_mostBadness_5 (by decide) ?_
    exact W.iret (v := 384) hx hb hr (fun t ht hW => ⟨⟨384, S, rfl, ⟨by simp [kMost, c_1], rfl⟩, by rw [ht]; exact hP, va_K.moved hW.alike hK, hD⟩, hS.F ht⟩) hS.2.2 dX3_mostBadness_8

set_option maxRecDepth 100000 in
set_option maxHeartbeats 4000000 in
/-- canBeTrusted -/
theorem c_canBeTrusted (l : Launch) (D : va_G) (cA : Nat → ClassId) (sz : Nat) (S : Pool) (a : Nat) (ho : isO S a 3) (wt : Nat) (hq4 : gQ S a 4 = some wt) (hwt : isA S wt 6 4) (ty : Nat) (hq6 : gQ S a 6 = some ty) (hty : isO S ty 4) (t0 : Nat) (hq0 : gQ S ty 0 = some t0) (ht0 : isA S t0 10 4)  : Met l yX3_canBeTrusted (Cond.code yX3_canBeTrusted cX3_canBeTrusted 3 (some .boolean) :: TT) ({ frames := 3, cells := 0, slots := 0, locals := 70 }) (va_Pc [.ref a] (kPre D cA (PW cA S) sz)) (va_Qi (fun (r_ : Int32) (x_ : Pool) => r_ = cTru S wt t0 (cBadL S wt t0 (gI S ty 4).toInt64 4 0 0).toInt32 4 0 0 ∧ x_ = S) (fun x_ => kB D cA (va_A (PW cA S) sz) (PW cA x_)) (va_A (PW cA S) sz)) 0 0 (va_A (PW cA S) sz) := by
  refine Met.ofW (cc := cX3_canBeTrusted) (maxL := 3) (ret := (some .boolean)) (by decide) rfl ?_
  intro p e s m args below meth c s₁ B hml hv
  obtain ⟨rfl, hsz, hP, hK, hD0, hTB⟩ := hv
  have hx := B.exec
  have hb := B.bytes
  have hr := B.returns
  have hts := atoms_spec (ws := Cond.code yX3_canBeTrusted cX3_canBeTrusted 3 (some .boolean) :: TT) B.pre
  have htT : ∀ w ∈ TT, w.before _ s = true := fun w h => hts w (List.mem_cons_of_mem _ h)
  have hown : s.vm.findClass RX3 = some m.cls := findClass_of_methodNamed B.named
  have hlocks := B.notSynchronized
  subst hsz
  have hD := hD0.self (sz := s.heap.size)
  generalize hAe : va_A (PW cA S) s.heap.size = A at hD ⊢
  have hA : ∀ q : Nat, s.heap.size ≤ q → A q := fun q h => by rw [← hAe]; exact Or.inr h
  have hS : va_S A s.heap s.heap [] := va_S.rf
  have hl := lv_entry ([.ref a]) (n := 3) (Nat.le_of_ble_eq_true rfl)
  rw [lg_entry_eq]
  generalize (lg_sl ([.ref a]) ++ List.replicate (3 - (lg_sl ([.ref a])).length) Slot.unset).toArray = ls at hl ⊢
  have hl : lv_has ls 3 [(0, .ref a)] := hl
  refine lv_iconst (v := 0) hx hb dX3_canBeTrusted_0 (by decide) ?_
  refine lv_istore_n (lv' := [(1, .int 0), (0, .ref a)]) hx hb dX3_canBeTrusted_1 rfl hl (by decide) rfl (fun ls hl => ?_)
  refine lv_iconst (v := 0) hx hb dX3_canBeTrusted_2 (by decide) ?_
  refine lv_istore_n (lv' := [(2, .int 0), (1, .int 0), (0, .ref a)]) hx hb dX3_canBeTrusted_3 rfl hl (by decide) rfl (fun ls hl => ?_)
  refine kz_loop 4 (fun N9 H locs ls => ∃ (j : Nat) (acc : Int32), N9 = 4 - j ∧ j ≤ 4 ∧ cTru S wt t0 (cBadL S wt t0 (gI S ty 4).toInt64 4 0 0).toInt32 4 0 0 = cTru S wt t0 (cBadL S wt t0 (gI S ty 4).toInt64 4 0 0).toInt32 (4 - j) j acc ∧ va_P D vwCl (PW cA S) H ∧ va_D A (PW cA S) ∧ va_S A s.heap H locs ∧ lv_has ls 3 [(2, .int (nI j)), (1, .int acc), (0, .ref a)]) (fun N9 ih_4 H locs ls hI => ?_) ⟨0, 0, rfl, by omega, rfl, hP, hD, hS, lv_sub hl [0, 1, 2] rfl⟩
  obtain ⟨j, acc, hn9, hj, hF, hP, hD, hS, hl⟩ := hI
  refine lv_iload_n hx hb dX3_canBeTrusted_4 rfl (lv_at hl 0 rfl) ?_
  refine lv_aload_n hx hb dX3_canBeTrusted_5 rfl (lv_at hl 2 rfl) ?_
  refine kx_gets hx hb htT m_u_X3 hown hK hP ho (Nat.le_of_ble_eq_true rfl) rfl 4 (by decide) (by decide) rfl hq4 (htT _ m_fl_X3_9) dX3_canBeTrusted_6 ?_
  refine kx_alen (v := 4) hx hb hK hP hwt (Nat.le_of_ble_eq_true rfl) (Nat.le_of_ble_eq_true rfl) rfl dX3_canBeTrusted_9 ?_
  refine lv_icmp_ge (tgt := 47) hx hb dX3_canBeTrusted_10 (by decide) (fun c_1 => ?_) (fun c_1 => ?_)
  · replace c_1 := (nI_leI (a := 4) (b := j) (by omega) (by omega)).mp c_1
    refine lv_iload_n hx hb dX3_canBeTrusted_47 rfl (lv_at hl 1 rfl) ?_
    refine lv_iconst (v := 2) hx hb dX3_canBeTrusted_48 (by decide) ?_
    refine lv_icmp_lt (tgt := 63) hx hb dX3_canBeTrusted_49 (by decide) (fun c_2 => ?_) (fun c_2 => ?_)
    · refine lv_iconst (v := 1) hx hb dX3_canBeTrusted_63 (by decide) ?_
      refine lv_goto (tgt := 68) hx hb dX3_canBeTrusted_64 (by decide) ?_
      exact W.zret (v := 1) hx hb hr (rfl) (fun t ht hW => ⟨⟨1, S, rfl, ⟨by rw [hF, show 4 - j = 0 by omega]; simp [cTru, c_2], rfl⟩, by rw [ht]; exact hP, va_K.moved hW.alike hK, hD⟩, hS.F ht⟩) hS.2.2 dX3_canBeTrusted_68
    · refine lv_aload_n hx hb dX3_canBeTrusted_52 rfl (lv_at hl 2 rfl) ?_
      refine kc_i (va_runV (As := []) (rest := []) ⟨hx, hb, hml, hown, htT⟩ (c_badness l D cA _ S a ho wt hq4 hwt ty hq6 hty t0 hq0 ht0) (cwV 0 htT (kg_V m_ml_X3_130 m_im_X3_badness m_sl_X3_badness m_in_X3 m_cd_X3_badness) rfl rfl rfl (by decide +kernel) ⟨Nat.le_of_ble_eq_true rfl, Nat.le_of_ble_eq_true rfl⟩) (kp_V hK hP hD hTB (kp_rc hK hP ho (Nat.le_of_ble_eq_true rfl) rfl)) rfl rfl hl.1 rfl (lv_room (Nat.le_of_ble_eq_true rfl)) dX3_canBeTrusted_53 ⟨Nat.le_of_ble_eq_true rfl, Nat.le_of_ble_eq_true rfl⟩) hD hS hA (fun r_3 x_3 H locs hq_3 hP hD hS => ?_)
      rw [hq_3.1]
      rw [hq_3.2] at hP hD
      refine lv_iload_n hx hb dX3_canBeTrusted_56 rfl (lv_at hl 1 rfl) ?_
      refine kc_i (va_runS (As := [.int acc]) (rest := [.int ((cBadL S wt t0 (gI S ty 4).toInt64 4 0 0).toInt32)]) ⟨hx, hb, hml, hown, htT⟩ (c_mostBadness l D cA _ S acc) (cwS 1 htT (kg_S m_ml_X3_134 m_st_X3_mostBadness m_in_X3 m_cd_X3_mostBadness) rfl rfl rfl (by decide +kernel) ⟨Nat.le_of_ble_eq_true rfl, Nat.le_of_ble_eq_true rfl⟩) (kp_S hK hP hD hTB) rfl rfl hl.1 rfl (lv_room (Nat.le_of_ble_eq_true rfl)) dX3_canBeTrusted_57 ⟨Nat.le_of_ble_eq_true rfl, Nat.le_of_ble_eq_true rfl⟩) hD hS hA (fun r_4 x_4 H locs hq_4 hP hD hS => ?_)
      rw [hq_4.1]
      rw [hq_4.2] at hP hD
      refine lv_icmp_gt (tgt := 67) hx hb dX3_canBeTrusted_60 (by decide) (fun c_5 => ?_) (fun c_5 => ?_)
      · refine lv_iconst (v := 0) hx hb dX3_canBeTrusted_67 (by decide) ?_
        exact W.zret (v := 0) hx hb hr (rfl) (fun t ht hW => ⟨⟨0, S, rfl, ⟨by rw [hF, show 4 - j = 0 by omega]; simp [cTru, c_2, c_5], rfl⟩, by rw [ht]; exact hP, va_K.moved hW.alike hK, hD⟩, hS.F ht⟩) hS.2.2 dX3_canBeTrusted_68
      · refine lv_iconst (v := 1) hx hb dX3_canBeTrusted_63 (by decide) ?_
        refine lv_goto (tgt := 68) hx hb dX3_canBeTrusted_64 (by decide) ?_
        exact W.zret (v := 1) hx hb hr (rfl) (fun t ht hW => ⟨⟨1, S, rfl, ⟨by rw [hF, show 4 - j = 0 by omega]; simp [cTru, c_2, c_5], rfl⟩, by rw [ht]; exact hP, va_K.moved hW.alike hK, hD⟩, hS.F ht⟩) hS.2.2 dX3_canBeTrusted_68
  · replace c_1 : ¬ (4 ≤ j) := fun h9 => c_1 ((nI_leI (a := 4) (b := j) (by omega) (by omega)).mpr h9)
    refine lv_aload_n hx hb dX3_canBeTrusted_13 rfl (lv_at hl 2 rfl) ?_
    refine kx_gets hx hb htT m_u_X3 hown hK hP ho (Nat.le_of_ble_eq_true rfl) rfl 4 (by decide) (by decide) rfl hq4 (htT _ m_fl_X3_9) dX3_canBeTrusted_14 ?_
    refine lv_iload_n hx hb dX3_canBeTrusted_17 rfl (lv_at hl 0 rfl) ?_
    refine kx_iald hx hb hK hP hwt (Nat.le_of_ble_eq_true rfl) (Nat.le_of_ble_eq_true rfl) (show vp_in (nI (j)) 4 from ki_in (by omega) (by decide)) dX3_canBeTrusted_18 ?_
    rw [ki_cl (n := j) (by omega)]
    refine lv_if_le (tgt := 28) hx hb dX3_canBeTrusted_19 (by decide) (fun c_6 => ?_) (fun c_6 => ?_)
    · replace c_6 := Int32.not_lt.mpr c_6
      refine lv_aload_n hx hb dX3_canBeTrusted_28 rfl (lv_at hl 2 rfl) ?_
      refine kx_gets hx hb htT m_u_X3 hown hK hP ho (Nat.le_of_ble_eq_true rfl) rfl 6 (by decide) (by decide) rfl hq6 (htT _ m_fl_X3_24) dX3_canBeTrusted_29 ?_
      refine lv_iload_n hx hb dX3_canBeTrusted_32 rfl (lv_at hl 0 rfl) ?_
      refine kc_i (va_runV (As := [.int (nI j)]) (rest := []) ⟨hx, hb, hml, hown, htT⟩ (c_countOf l D cA _ S ty hty t0 hq0 ht0 (nI j)) (cwV 1 htT (kg_V m_ml_X3_124 m_im_X4_countOf m_sl_X4_countOf m_in_X4 m_cd_X4_countOf) rfl rfl rfl (by decide +kernel) ⟨Nat.le_of_ble_eq_true rfl, Nat.le_of_ble_eq_true rfl⟩) (kp_V hK hP hD hTB (kp_rc hK hP hty (Nat.le_of_ble_eq_true rfl) rfl)) rfl rfl hl.1 rfl (lv_room (Nat.le_of_ble_eq_true rfl)) dX3_canBeTrusted_33 ⟨Nat.le_of_ble_eq_true rfl, Nat.le_of_ble_eq_true rfl⟩) hD hS hA (fun r_7 x_7 H locs hq_7 hP hD hS => ?_)
      rw [hq_7.1]
      rw [hq_7.2] at hP hD
      refine lv_if_le (tgt := 41) hx hb dX3_canBeTrusted_36 (by decide) (fun c_8 => ?_) (fun c_8 => ?_)
      · replace c_8 := Int32.not_lt.mpr c_8
        refine lv_iinc (v := nI (j + 1)) (lv' := [(2, .int (nI (j + 1))), (1, .int acc), (0, .ref a)]) hx hb dX3_canBeTrusted_41 hl (k := 0) rfl (nI_1 _) (by decide) rfl (fun ls hl => ?_)
        refine lv_goto (tgt := 4) hx hb dX3_canBeTrusted_44 (by decide) ?_
        have hl := lv_sub hl [0, 1, 2] rfl
        exact ih_4 _ (by omega) H locs ls ⟨j + 1, _, rfl, by omega, by rw [hF, show 4 - j = (4 - (j + 1)) + 1 by omega]; simp [cTru, c_6, c_8], hP, hD, hS, hl⟩
      · replace c_8 := Int32.not_le.mp c_8
        refine lv_iconst (v := 0) hx hb dX3_canBeTrusted_39 (by decide) ?_
        exact W.zret (v := 0) hx hb hr (rfl) (fun t ht hW => ⟨⟨0, S, rfl, ⟨by rw [hF, show 4 - j = (4 - (j + 1)) + 1 by omega]; simp [cTru, c_6, c_8], rfl⟩, by rw [ht]; exact hP, va_K.moved hW.alike hK, hD⟩, hS.F ht⟩) hS.2.2 dX3_canBeTrusted_40
    · replace c_6 := Int32.not_le.mp c_6
      obtain ⟨i_9, ei_9⟩ : ∃ y : Int32, y = acc + 1 := ⟨_, rfl⟩
      refine lv_iinc (v := i_9) (lv' := [(1, .int i_9), (2, .int (nI j)), (0, .ref a)]) hx hb dX3_canBeTrusted_22 hl (k := 1) rfl (by rw [ei_9]; rfl) (by decide) rfl (fun ls hl => ?_)
      refine lv_goto (tgt := 41) hx hb dX3_canBeTrusted_25 (by decide) ?_
      refine lv_iinc (v := nI (j + 1)) (lv' := [(2, .int (nI (j + 1))), (1, .int i_9), (0, .ref a)]) hx hb dX3_canBeTrusted_41 hl (k := 1) rfl (nI_1 _) (by decide) rfl (fun ls hl => ?_)
      refine lv_goto (tgt := 4) hx hb dX3_canBeTrusted_44 (by decide) ?_
      have hl := lv_sub hl [0, 1, 2] rfl
      exact ih_4 _ (by omega) H locs ls ⟨j + 1, _, rfl, by omega, by rw [hF, show 4 - j = (4 - (j + 1)) + 1 by omega]; simp [cTru, c_6, ei_9], hP, hD, hS, hl⟩

