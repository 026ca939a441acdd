def cTal (S : Pool) (t : Nat) (k : Int32) : Int32 := if cKept k = 0 then 0 else gR S t k.toNatClampNeg
theorem cKept_in {k : Int32} (h : ¬ cKept k = 0) : vp_in k 4 := by
  unfold cKept at h
  by_cases h0 : k < 0
  · rw [if_pos h0] at h; exact absurd rfl h
  · rw [if_neg h0] at h
    by_cases h1 : k < 4
    · exact kz_in (by decide) h0 h1
    · rw [if_neg h1] at h; exact absurd rfl h
set_option maxRecDepth 100000 in
set_option maxHeartbeats 4000000 in
theorem c_countOf (l : Launch) (D : va_G) (cA : Nat → ClassId) (sz : Nat) (S : Pool) (ty : Nat) (hty : isO S ty 4) (t9 : Nat) (hq : gQ S ty 0 = some t9) (ht9 : isA S t9 10 4) (k : Int32) : Met l yX4_countOf (Cond.code yX4_countOf cX4_countOf 2 (some .int) :: TT) ({ frames := 1, cells := 0, slots := 0, locals := 20 }) (va_Pc [.ref ty, .int k] (kPre D cA (PW cA S) sz)) (va_Qi (fun (r_ : Int32) (x_ : Pool) => r_ = cTal S t9 k ∧ x_ = S) (fun x_ => kB D cA (va_A (PW cA S) sz) (PW cA x_)) (va_A (PW cA S) sz)) 0 0 (va_A (PW cA S) sz) := by
  refine Met.ofW (cc := cX4_countOf) (maxL := 2) (ret := (some .int)) (by decide) rfl ?_
  intro p e s m args below meth c s₁ B hml hv
  obtain ⟨rfl, hsz, hP, hK, hD0, hTB⟩ := hv
  have hx := B.exec
  have hb := B.bytes
  have hr := B.returns
  have hts := atoms_spec (ws := Cond.code yX4_countOf cX4_countOf 2 (some .int) :: TT) B.pre
  have htT : ∀ w ∈ TT, w.before _ s = true := fun w h => hts w (List.mem_cons_of_mem _ h)
  have hown : s.vm.findClass RX4 = some m.cls := findClass_of_methodNamed B.named
  have hlocks := B.notSynchronized
  subst hsz
  have hD := hD0.self (sz := s.heap.size)
  generalize hAe : va_A (PW cA S) s.heap.size = A at hD ⊢
  have hA : ∀ q : Nat, s.heap.size ≤ q → A q := fun q h => by rw [← hAe]; exact Or.inr h
  have hS : va_S A s.heap s.heap [] := va_S.rf
  have hl := lv_entry ([.ref ty, .int k]) (n := 2) (Nat.le_of_ble_eq_true rfl)
  rw [lg_entry_eq]
  generalize (lg_sl ([.ref ty, .int k]) ++ List.replicate (2 - (lg_sl ([.ref ty, .int k])).length) Slot.unset).toArray = ls at hl ⊢
  have hl : lv_has ls 2 [(0, .ref ty), (1, .int k)] := hl
  refine lv_iload_n hx hb dX4_countOf_0 rfl (lv_at hl 1 rfl) ?_
  refine kc_i (va_runS (As := [.int k]) (rest := []) ⟨hx, hb, hml, hown, htT⟩ (c_isKept l D cA _ S k) (cwS 1 htT (kg_S m_ml_X4_25 m_st_X4_isKept m_in_X4 m_cd_X4_isKept) rfl rfl rfl (by decide +kernel) ⟨Nat.le_of_ble_eq_true rfl, Nat.le_of_ble_eq_true rfl⟩) (kp_S hK hP hD hTB) rfl rfl hl.1 rfl (lv_room (Nat.le_of_ble_eq_true rfl)) dX4_countOf_1 ⟨Nat.le_of_ble_eq_true rfl, Nat.le_of_ble_eq_true rfl⟩) hD hS hA (fun r_1 x_1 H locs hq_1 hP hD hS => ?_)
  rw [hq_1.1]
  rw [hq_1.2] at hP hD
  refine lv_if_eq (tgt := 16) hx hb dX4_countOf_4 (by decide) (fun c_2 => ?_) (fun c_2 => ?_)
  · refine lv_iconst (v := 0) hx hb dX4_countOf_16 (by decide) ?_
    exact W.iret (v := 0) hx hb hr (fun t ht hW => ⟨⟨0, S, rfl, ⟨by simp [cTal, c_2], rfl⟩, by rw [ht]; exact hP, va_K.moved hW.alike hK, hD⟩, hS.F ht⟩) hS.2.2 dX4_countOf_17
  · refine lv_aload_n hx hb dX4_countOf_7 rfl (lv_at hl 0 rfl) ?_
    refine kx_gets hx hb htT m_u_X4 hown hK hP hty (Nat.le_of_ble_eq_true rfl) rfl 0 (by decide) (by decide) rfl hq (htT _ m_fl_X4_9) dX4_countOf_8 ?_
    refine lv_iload_n hx hb dX4_countOf_11 rfl (lv_at hl 1 rfl) ?_
    refine kx_iald hx hb hK hP ht9 (Nat.le_of_ble_eq_true rfl) (Nat.le_of_ble_eq_true rfl) (cKept_in c_2) dX4_countOf_12 ?_
    refine lv_goto (tgt := 17) hx hb dX4_countOf_13 (by decide) ?_
    exact W.iret (v := gR S t9 k.toNatClampNeg) hx hb hr (fun t ht hW => ⟨⟨gR S t9 k.toNatClampNeg, S, rfl, ⟨by simp [cTal, c_2], rfl⟩, by rw [ht]; exact hP, va_K.moved hW.alike hK, hD⟩, hS.F ht⟩) hS.2.2 dX4_countOf_17

set_option maxRecDepth 100000 in
set_option maxHeartbeats 4000000 in
theorem c_actedOf (l : Launch) (D : va_G) (cA : Nat → ClassId) (sz : Nat) (S : Pool) (ty : Nat) (hty : isO S ty 4) (t9 : Nat) (hq : gQ S ty 1 = some t9) (ht9 : isA S t9 11 4) (k : Int32) : Met l yX4_actedOf (Cond.code yX4_actedOf cX4_actedOf 2 (some .int) :: TT) ({ frames := 1, cells := 0, slots := 0, locals := 20 }) (va_Pc [.ref ty, .int k] (kPre D cA (PW cA S) sz)) (va_Qi (fun (r_ : Int32) (x_ : Pool) => r_ = cTal S t9 k ∧ x_ = S) (fun x_ => kB D cA (va_A (PW cA S) sz) (PW cA x_)) (va_A (PW cA S) sz)) 0 0 (va_A (PW cA S) sz) := by
  refine Met.ofW (cc := cX4_actedOf) (maxL := 2) (ret := (some .int)) (by decide) rfl ?_
  intro p e s m args below meth c s₁ B hml hv
  obtain ⟨rfl, hsz, hP, hK, hD0, hTB⟩ := hv
  have hx := B.exec
  have hb := B.bytes
  have hr := B.returns
  have hts := atoms_spec (ws := Cond.code yX4_actedOf cX4_actedOf 2 (some .int) :: TT) B.pre
  have htT : ∀ w ∈ TT, w.before _ s = true := fun w h => hts w (List.mem_cons_of_mem _ h)
  have hown : s.vm.findClass RX4 = some m.cls := findClass_of_methodNamed B.named
  have hlocks := B.notSynchronized
  subst hsz
  have hD := hD0.self (sz := s.heap.size)
  generalize hAe : va_A (PW cA S) s.heap.size = A at hD ⊢
  have hA : ∀ q : Nat, s.heap.size ≤ q → A q := fun q h => by rw [← hAe]; exact Or.inr h
  have hS : va_S A s.heap s.heap [] := va_S.rf
  have hl := lv_entry ([.ref ty, .int k]) (n := 2) (Nat.le_of_ble_eq_true rfl)
  rw [lg_entry_eq]
  generalize (lg_sl ([.ref ty, .int k]) ++ List.replicate (2 - (lg_sl ([.ref ty, .int k])).length) Slot.unset).toArray = ls at hl ⊢
  have hl : lv_has ls 2 [(0, .ref ty), (1, .int k)] := hl
  refine lv_iload_n hx hb dX4_actedOf_0 rfl (lv_at hl 1 rfl) ?_
  refine kc_i (va_runS (As := [.int k]) (rest := []) ⟨hx, hb, hml, hown, htT⟩ (c_isKept l D cA _ S k) (cwS 1 htT (kg_S m_ml_X4_25 m_st_X4_isKept m_in_X4 m_cd_X4_isKept) rfl rfl rfl (by decide +kernel) ⟨Nat.le_of_ble_eq_true rfl, Nat.le_of_ble_eq_true rfl⟩) (kp_S hK hP hD hTB) rfl rfl hl.1 rfl (lv_room (Nat.le_of_ble_eq_true rfl)) dX4_actedOf_1 ⟨Nat.le_of_ble_eq_true rfl, Nat.le_of_ble_eq_true rfl⟩) hD hS hA (fun r_1 x_1 H locs hq_1 hP hD hS => ?_)
  rw [hq_1.1]
  rw [hq_1.2] at hP hD
  refine lv_if_eq (tgt := 16) hx hb dX4_actedOf_4 (by decide) (fun c_2 => ?_) (fun c_2 => ?_)
  · refine lv_iconst (v := 0) hx hb dX4_actedOf_16 (by decide) ?_
    exact W.iret (v := 0) hx hb hr (fun t ht hW => ⟨⟨0, S, rfl, ⟨by simp [cTal, c_2], rfl⟩, by rw [ht]; exact hP, va_K.moved hW.alike hK, hD⟩, hS.F ht⟩) hS.2.2 dX4_actedOf_17
  · refine lv_aload_n hx hb dX4_actedOf_7 rfl (lv_at hl 0 rfl) ?_
    refine kx_gets hx hb htT m_u_X4 hown hK hP hty (Nat.le_of_ble_eq_true rfl) rfl 1 (by decide) (by decide) rfl hq (htT _ m_fl_X4_15) dX4_actedOf_8 ?_
    refine lv_iload_n hx hb dX4_actedOf_11 rfl (lv_at hl 1 rfl) ?_
    refine kx_iald hx hb hK hP ht9 (Nat.le_of_ble_eq_true rfl) (Nat.le_of_ble_eq_true rfl) (cKept_in c_2) dX4_actedOf_12 ?_
    refine lv_goto (tgt := 17) hx hb dX4_actedOf_13 (by decide) ?_
    exact W.iret (v := gR S t9 k.toNatClampNeg) hx hb hr (fun t ht hW => ⟨⟨gR S t9 k.toNatClampNeg, S, rfl, ⟨by simp [cTal, c_2], rfl⟩, by rw [ht]; exact hP, va_K.moved hW.alike hK, hD⟩, hS.F ht⟩) hS.2.2 dX4_actedOf_17

set_option maxRecDepth 100000 in
set_option maxHeartbeats 4000000 in
theorem c_sumOf (l : Launch) (D : va_G) (cA : Nat → ClassId) (sz : Nat) (S : Pool) (ty : Nat) (hty : isO S ty 4) (t9 : Nat) (hq : gQ S ty 2 = some t9) (ht9 : isA S t9 12 4) (k : Int32) : Met l yX4_sumOf (Cond.code yX4_sumOf cX4_sumOf 2 (some .int) :: TT) ({ frames := 1, cells := 0, slots := 0, locals := 20 }) (va_Pc [.ref ty, .int k] (kPre D cA (PW cA S) sz)) (va_Qi (fun (r_ : Int32) (x_ : Pool) => r_ = cTal S t9 k ∧ x_ = S) (fun x_ => kB D cA (va_A (PW cA S) sz) (PW cA x_)) (va_A (PW cA S) sz)) 0 0 (va_A (PW cA S) sz) := by
  refine Met.ofW (cc := cX4_sumOf) (maxL := 2) (ret := (some .int)) (by decide) rfl ?_
  intro p e s m args below meth c s₁ B hml hv
  obtain ⟨rfl, hsz, hP, hK, hD0, hTB⟩ := hv
  have hx := B.exec
  have hb := B.bytes
  have hr := B.returns
  have hts := atoms_spec (ws := Cond.code yX4_sumOf cX4_sumOf 2 (some .int) :: TT) B.pre
  have htT : ∀ w ∈ TT, w.before _ s = true := fun w h => hts w (List.mem_cons_of_mem _ h)
  have hown : s.vm.findClass RX4 = some m.cls := findClass_of_methodNamed B.named
  have hlocks := B.notSynchronized
  subst hsz
  have hD := hD0.self (sz := s.heap.size)
  generalize hAe : va_A (PW cA S) s.heap.size = A at hD ⊢
  have hA : ∀ q : Nat, s.heap.size ≤ q → A q := fun q h => by rw [← hAe]; exact Or.inr h
  have hS : va_S A s.heap s.heap [] := va_S.rf
  have hl := lv_entry ([.ref ty, .int k]) (n := 2) (Nat.le_of_ble_eq_true rfl)
  rw [lg_entry_eq]
  generalize (lg_sl ([.ref ty, .int k]) ++ List.replicate (2 - (lg_sl ([.ref ty, .int k])).length) Slot.unset).toArray = ls at hl ⊢
  have hl : lv_has ls 2 [(0, .ref ty), (1, .int k)] := hl
  refine lv_iload_n hx hb dX4_sumOf_0 rfl (lv_at hl 1 rfl) ?_
  refine kc_i (va_runS (As := [.int k]) (rest := []) ⟨hx, hb, hml, hown, htT⟩ (c_isKept l D cA _ S k) (cwS 1 htT (kg_S m_ml_X4_25 m_st_X4_isKept m_in_X4 m_cd_X4_isKept) rfl rfl rfl (by decide +kernel) ⟨Nat.le_of_ble_eq_true rfl, Nat.le_of_ble_eq_true rfl⟩) (kp_S hK hP hD hTB) rfl rfl hl.1 rfl (lv_room (Nat.le_of_ble_eq_true rfl)) dX4_sumOf_1 ⟨Nat.le_of_ble_eq_true rfl, Nat.le_of_ble_eq_true rfl⟩) hD hS hA (fun r_1 x_1 H locs hq_1 hP hD hS => ?_)
  rw [hq_1.1]
  rw [hq_1.2] at hP hD
  refine lv_if_eq (tgt := 16) hx hb dX4_sumOf_4 (by decide) (fun c_2 => ?_) (fun c_2 => ?_)
  · refine lv_iconst (v := 0) hx hb dX4_sumOf_16 (by decide) ?_
    exact W.iret (v := 0) hx hb hr (fun t ht hW => ⟨⟨0, S, rfl, ⟨by simp [cTal, c_2], rfl⟩, by rw [ht]; exact hP, va_K.moved hW.alike hK, hD⟩, hS.F ht⟩) hS.2.2 dX4_sumOf_17
  · refine lv_aload_n hx hb dX4_sumOf_7 rfl (lv_at hl 0 rfl) ?_
    refine kx_gets hx hb htT m_u_X4 hown hK hP hty (Nat.le_of_ble_eq_true rfl) rfl 2 (by decide) (by decide) rfl hq (htT _ m_fl_X4_18) dX4_sumOf_8 ?_
    refine lv_iload_n hx hb dX4_sumOf_11 rfl (lv_at hl 1 rfl) ?_
    refine kx_iald hx hb hK hP ht9 (Nat.le_of_ble_eq_true rfl) (Nat.le_of_ble_eq_true rfl) (cKept_in c_2) dX4_sumOf_12 ?_
    refine lv_goto (tgt := 17) hx hb dX4_sumOf_13 (by decide) ?_
    exact W.iret (v := gR S t9 k.toNatClampNeg) hx hb hr (fun t ht hW => ⟨⟨gR S t9 k.toNatClampNeg, S, rfl, ⟨by simp [cTal, c_2], rfl⟩, by rw [ht]; exact hP, va_K.moved hW.alike hK, hD⟩, hS.F ht⟩) hS.2.2 dX4_sumOf_17

