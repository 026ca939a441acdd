set_option maxRecDepth 100000 in
set_option maxHeartbeats 4000000 in
theorem c_spreadB (l : Launch) (D : va_G) (cA : Nat → ClassId) (sz : Nat) (S : Pool) (ty : Nat) (hty : isO S ty 4) (t0 : Nat) (hq0 : gQ S ty 0 = some t0) (ht0 : isA S t0 10 4) (t2 : Nat) (hq2 : gQ S ty 2 = some t2) (ht2 : isA S t2 12 4) (t3 : Nat) (hq3 : gQ S ty 3 = some t3) (ht3 : isA S t3 20 4) (k : Int32) : MetD lw_cs l yX4_spreadByCount (Cond.code yX4_spreadByCount cX4_spreadByCount 7 (some .double) :: TT) ({ frames := 3, cells := 0, slots := 0, locals := 63 }) (va_Pc [.ref ty, .int k] (kPre D cA (PW cA S) sz)) (va_Qd (fun (r_ : UInt64) (x_ : Pool) => r_.toNat % 2 ^ 63 < 1095 * 2 ^ 52 ∧ x_ = S) (fun x_ => kB D cA (va_A (PW cA S) sz) (PW cA x_)) (va_A (PW cA S) sz)) 0 0 (va_A (PW cA S) sz) := by
  refine MetD.ofW (cc := cX4_spreadByCount) (maxL := 7) (ret := (some .double)) (by decide) rfl ?_
  intro p e s m args below meth c s₁ B hml hv hd0
  obtain ⟨rfl, hsz, hP, hK, hD0, hTB⟩ := hv
  have hx := B.exec
  have hb := B.bytes
  have hr := B.returns
  have hts := atoms_spec (ws := Cond.code yX4_spreadByCount cX4_spreadByCount 7 (some .double) :: TT) B.pre
  have htT : ∀ w ∈ TT, w.before _ s = true := fun w h => hts w (List.mem_cons_of_mem _ h)
  have hown : s.vm.findClass RX4 = some m.cls := findClass_of_methodNamed B.named
  have hlocks := B.notSynchronized
  subst hsz
  have hD := hD0.self (sz := s.heap.size)
  generalize hAe : va_A (PW cA S) s.heap.size = A at hD ⊢
  have hA : ∀ q : Nat, s.heap.size ≤ q → A q := fun q h => by rw [← hAe]; exact Or.inr h
  have hS : va_S A s.heap s.heap [] := va_S.rf
  have hl := lv_entry ([.ref ty, .int k]) (n := 7) (Nat.le_of_ble_eq_true rfl)
  rw [lg_entry_eq]
  generalize (lg_sl ([.ref ty, .int k]) ++ List.replicate (7 - (lg_sl ([.ref ty, .int k])).length) Slot.unset).toArray = ls at hl ⊢
  have hl : lv_has ls 7 [(0, .ref ty), (1, .int k)] := hl
  have htT0 := htT
  have hTB0 := hTB
  have hK0 := hK
  have hown0 := hown
  have htT : ∀ w ∈ TT, w.before _ (s.setDrawn s.drawn) = true := dr_words htT0 s.drawn
  have hTB : TBok (s.setDrawn s.drawn) := TBok.same (u := s) (U := s.setDrawn s.drawn) rfl (Vm.Alike.refl s.vm) hTB0
  have hK : va_K D vwCl (ty6 cA) (s.setDrawn s.drawn) := hK0
  have hown : (s.setDrawn s.drawn).vm.findClass RX4 = some m.cls := hown0
  refine lv_aload_n hx hb dX4_spreadByCount_0 rfl (lv_at hl 0 rfl) ?_
  refine lv_iload_n hx hb dX4_spreadByCount_1 rfl (lv_at hl 1 rfl) ?_
  refine kc_i (va_runV (As := [.int k]) (rest := []) ⟨hx, hb, hml, hown, htT⟩ (c_countOf l D cA _ S ty hty t0 hq0 ht0 k) (cwV 1 htT (kg_V m_ml_X4_33 m_im_X4_countOf m_sl_X4_countOf m_in_X4 m_cd_X4_countOf) rfl rfl rfl (by decide +kernel) ⟨Nat.le_of_ble_eq_true rfl, Nat.le_of_ble_eq_true rfl⟩) (kp_V hK hP hD hTB (kp_rc hK hP hty (Nat.le_of_ble_eq_true rfl) rfl)) rfl rfl hl.1 rfl (lv_room (Nat.le_of_ble_eq_true rfl)) dX4_spreadByCount_2 ⟨Nat.le_of_ble_eq_true rfl, Nat.le_of_ble_eq_true rfl⟩) hD hS hA (fun r_1 x_1 H locs hq_1 hP hD hS => ?_)
  rw [hq_1.1]
  rw [hq_1.2] at hP hD
  refine lv_istore_n (lv' := [(2, .int (cTal S t0 k)), (0, .ref ty), (1, .int k)]) hx hb dX4_spreadByCount_5 rfl hl (by decide) rfl (fun ls hl => ?_)
  refine lv_iload_n hx hb dX4_spreadByCount_6 rfl (lv_at hl 0 rfl) ?_
  refine lv_if_ne (tgt := 12) hx hb dX4_spreadByCount_7 (by decide) (fun c_2 => ?_) (fun c_2 => ?_)
  · refine lv_aload_n hx hb dX4_spreadByCount_12 rfl (lv_at hl 1 rfl) ?_
    refine lv_iload_n hx hb dX4_spreadByCount_13 rfl (lv_at hl 2 rfl) ?_
    refine kcD_d hd0 (va_runV_D (As := [.int k]) (rest := []) ⟨hx, hb, hml, hown, htT⟩ (c_meanOf l D cA _ S ty hty t0 hq0 ht0 t2 hq2 ht2 k) (cwV 1 htT (kg_V m_ml_X4_40 m_im_X4_meanOf m_sl_X4_meanOf m_in_X4 m_cd_X4_meanOf) rfl rfl rfl (by decide +kernel) ⟨Nat.le_of_ble_eq_true rfl, Nat.le_of_ble_eq_true rfl⟩) (kp_V hK hP hD hTB (kp_rc hK hP hty (Nat.le_of_ble_eq_true rfl) rfl)) rfl rfl hl.1 rfl (lv_room (Nat.le_of_ble_eq_true rfl)) dX4_spreadByCount_14 ⟨Nat.le_of_ble_eq_true rfl, Nat.le_of_ble_eq_true rfl⟩) hD hS hA (fun r_3 x_3 H locs hq_3 hP hD hS d_3 hd0 => ?_)
    have htT : ∀ w ∈ TT, w.before _ (s.setDrawn d_3) = true := dr_words htT0 d_3
    have hTB : TBok (s.setDrawn d_3) := TBok.same (u := s) (U := s.setDrawn d_3) rfl (Vm.Alike.refl s.vm) hTB0
    have hK : va_K D vwCl (ty6 cA) (s.setDrawn d_3) := hK0
    have hown : (s.setDrawn d_3).vm.findClass RX4 = some m.cls := hown0
    rw [hq_3.2] at hP hD
    refine lv_dstore_n (lv' := [(3, .double r_3), (2, .int (cTal S t0 k)), (0, .ref ty), (1, .int k)]) hx hb dX4_spreadByCount_17 rfl hl (by decide) rfl (fun ls hl => ?_)
    refine lv_aload_n hx hb dX4_spreadByCount_18 rfl (lv_at hl 2 rfl) ?_
    refine lv_iload_n hx hb dX4_spreadByCount_19 rfl (lv_at hl 3 rfl) ?_
    refine kc_l (va_runV (As := [.int k]) (rest := []) ⟨hx, hb, hml, hown, htT⟩ (c_squaresOf l D cA _ S ty hty t3 hq3 ht3 k) (cwV 1 htT (kg_V m_ml_X4_50 m_im_X4_squaresOf m_sl_X4_squaresOf m_in_X4 m_cd_X4_squaresOf) rfl rfl rfl (by decide +kernel) ⟨Nat.le_of_ble_eq_true rfl, Nat.le_of_ble_eq_true rfl⟩) (kp_V hK hP hD hTB (kp_rc hK hP hty (Nat.le_of_ble_eq_true rfl) rfl)) rfl rfl hl.1 rfl (lv_room (Nat.le_of_ble_eq_true rfl)) dX4_spreadByCount_20 ⟨Nat.le_of_ble_eq_true rfl, Nat.le_of_ble_eq_true rfl⟩) hD hS hA (fun r_4 x_4 H locs hq_4 hP hD hS => ?_)
    rw [hq_4.1]
    rw [hq_4.2] at hP hD
    refine lv_l2d hx hb dX4_spreadByCount_23 ?_
    refine lv_iload_n hx hb dX4_spreadByCount_24 rfl (lv_at hl 1 rfl) ?_
    refine lv_i2d hx hb dX4_spreadByCount_25 ?_
    refine lv_ddiv_any hd0 lw_bits hx hb dX4_spreadByCount_26 (fun r_5 d_5 hal_5 hd0 => ?_)
    have htT : ∀ w ∈ TT, w.before _ (s.setDrawn d_5) = true := dr_words htT0 d_5
    have hTB : TBok (s.setDrawn d_5) := TBok.same (u := s) (U := s.setDrawn d_5) rfl (Vm.Alike.refl s.vm) hTB0
    have hK : va_K D vwCl (ty6 cA) (s.setDrawn d_5) := hK0
    have hown : (s.setDrawn d_5).vm.findClass RX4 = some m.cls := hown0
    refine lv_dload_n hx hb dX4_spreadByCount_27 rfl (lv_at hl 0 rfl) ?_
    refine lv_dload_n hx hb dX4_spreadByCount_28 rfl (lv_at hl 0 rfl) ?_
    refine lv_dmul_any hd0 lw_bits hx hb dX4_spreadByCount_29 (fun r_6 d_6 hal_6 hd0 => ?_)
    have htT : ∀ w ∈ TT, w.before _ (s.setDrawn d_6) = true := dr_words htT0 d_6
    have hTB : TBok (s.setDrawn d_6) := TBok.same (u := s) (U := s.setDrawn d_6) rfl (Vm.Alike.refl s.vm) hTB0
    have hK : va_K D vwCl (ty6 cA) (s.setDrawn d_6) := hK0
    have hown : (s.setDrawn d_6).vm.findClass RX4 = some m.cls := hown0
    refine lv_dsub_any hd0 lw_bits hx hb dX4_spreadByCount_30 (fun r_7 d_7 hal_7 hd0 => ?_)
    have htT : ∀ w ∈ TT, w.before _ (s.setDrawn d_7) = true := dr_words htT0 d_7
    have hTB : TBok (s.setDrawn d_7) := TBok.same (u := s) (U := s.setDrawn d_7) rfl (Vm.Alike.refl s.vm) hTB0
    have hK : va_K D vwCl (ty6 cA) (s.setDrawn d_7) := hK0
    have hown : (s.setDrawn d_7).vm.findClass RX4 = some m.cls := hown0
    refine lv_dstore (lv' := [(5, .double r_7), (3, .double r_3), (2, .int (cTal S t0 k)), (0, .ref ty), (1, .int k)]) hx hb dX4_spreadByCount_31 hl (by decide) rfl (fun ls hl => ?_)
    refine lv_dload hx hb dX4_spreadByCount_33 (lv_at hl 0 rfl) ?_
    refine lv_iload_n hx hb dX4_spreadByCount_35 rfl (lv_at hl 2 rfl) ?_
    refine lv_i2d hx hb dX4_spreadByCount_36 ?_
    refine lv_ddiv_any hd0 lw_bits hx hb dX4_spreadByCount_37 (fun r_8 d_8 hal_8 hd0 => ?_)
    have htT : ∀ w ∈ TT, w.before _ (s.setDrawn d_8) = true := dr_words htT0 d_8
    have hTB : TBok (s.setDrawn d_8) := TBok.same (u := s) (U := s.setDrawn d_8) rfl (Vm.Alike.refl s.vm) hTB0
    have hK : va_K D vwCl (ty6 cA) (s.setDrawn d_8) := hK0
    have hown : (s.setDrawn d_8).vm.findClass RX4 = some m.cls := hown0
    refine W.endD hd0 ?_
    exact W.dret (v := r_8) hx hb hr (fun t ht hW => ⟨⟨r_8, S, rfl, ⟨spread_b c_2 hq_3.1 hal_5 hal_6 hal_7 hal_8, rfl⟩, by rw [ht]; exact hP, va_K.moved hW.alike hK, hD⟩, hS.F ht⟩) hS.2.2 dX4_spreadByCount_38
  · refine lv_dconst0 hx hb dX4_spreadByCount_10 ?_
    refine W.endD hd0 ?_
    exact W.dret (v := FP.dconst0) hx hb hr (fun t ht hW => ⟨⟨FP.dconst0, S, rfl, ⟨by decide +kernel, rfl⟩, by rw [ht]; exact hP, va_K.moved hW.alike hK, hD⟩, hS.F ht⟩) hS.2.2 dX4_spreadByCount_11

set_option maxRecDepth 100000 in
set_option maxHeartbeats 4000000 in
theorem c_surenessZ (l : Launch) (D : va_G) (cA : Nat → ClassId) (sz : Nat) (S : Pool) (ty : Nat) (hty : isO S ty 4) (t0 : Nat) (hq0 : gQ S ty 0 = some t0) (ht0 : isA S t0 10 4) (t2 : Nat) (hq2 : gQ S ty 2 = some t2) (ht2 : isA S t2 12 4) (t3 : Nat) (hq3 : gQ S ty 3 = some t3) (ht3 : isA S t3 20 4) (k : Int32) (hk0 : k = 0) : MetD lw_cs l yX4_surenessOf (Cond.code yX4_surenessOf cX4_surenessOf 6 (some .double) :: TT) ({ frames := 4, cells := 0, slots := 0, locals := 89 }) (va_Pc [.ref ty, .int k] (kPre D cA (PW cA S) sz)) (va_Qd (fun (r_ : UInt64) (x_ : Pool) => FP.dcmp r_ FP.dconst0 = some .eq ∧ x_ = S) (fun x_ => kB D cA (va_A (PW cA S) sz) (PW cA x_)) (va_A (PW cA S) sz)) 0 0 (va_A (PW cA S) sz) := by
  refine MetD.ofW (cc := cX4_surenessOf) (maxL := 6) (ret := (some .double)) (by decide) rfl ?_
  intro p e s m args below meth c s₁ B hml hv hd0
  obtain ⟨rfl, hsz, hP, hK, hD0, hTB⟩ := hv
  have hx := B.exec
  have hb := B.bytes
  have hr := B.returns
  have hts := atoms_spec (ws := Cond.code yX4_surenessOf cX4_surenessOf 6 (some .double) :: TT) B.pre
  have htT : ∀ w ∈ TT, w.before _ s = true := fun w h => hts w (List.mem_cons_of_mem _ h)
  have hown : s.vm.findClass RX4 = some m.cls := findClass_of_methodNamed B.named
  have hlocks := B.notSynchronized
  subst hsz
  have hD := hD0.self (sz := s.heap.size)
  generalize hAe : va_A (PW cA S) s.heap.size = A at hD ⊢
  have hA : ∀ q : Nat, s.heap.size ≤ q → A q := fun q h => by rw [← hAe]; exact Or.inr h
  have hS : va_S A s.heap s.heap [] := va_S.rf
  have hl := lv_entry ([.ref ty, .int k]) (n := 6) (Nat.le_of_ble_eq_true rfl)
  rw [lg_entry_eq]
  generalize (lg_sl ([.ref ty, .int k]) ++ List.replicate (6 - (lg_sl ([.ref ty, .int k])).length) Slot.unset).toArray = ls at hl ⊢
  have hl : lv_has ls 6 [(0, .ref ty), (1, .int k)] := hl
  have htT0 := htT
  have hTB0 := hTB
  have hK0 := hK
  have hown0 := hown
  have htT : ∀ w ∈ TT, w.before _ (s.setDrawn s.drawn) = true := dr_words htT0 s.drawn
  have hTB : TBok (s.setDrawn s.drawn) := TBok.same (u := s) (U := s.setDrawn s.drawn) rfl (Vm.Alike.refl s.vm) hTB0
  have hK : va_K D vwCl (ty6 cA) (s.setDrawn s.drawn) := hK0
  have hown : (s.setDrawn s.drawn).vm.findClass RX4 = some m.cls := hown0
  refine lv_aload_n hx hb dX4_surenessOf_0 rfl (lv_at hl 0 rfl) ?_
  refine lv_iload_n hx hb dX4_surenessOf_1 rfl (lv_at hl 1 rfl) ?_
  refine kc_i (va_runV (As := [.int k]) (rest := []) ⟨hx, hb, hml, hown, htT⟩ (c_countOf l D cA _ S ty hty t0 hq0 ht0 k) (cwV 1 htT (kg_V m_ml_X4_33 m_im_X4_countOf m_sl_X4_countOf m_in_X4 m_cd_X4_countOf) rfl rfl rfl (by decide +kernel) ⟨Nat.le_of_ble_eq_true rfl, Nat.le_of_ble_eq_true rfl⟩) (kp_V hK hP hD hTB (kp_rc hK hP hty (Nat.le_of_ble_eq_true rfl) rfl)) rfl rfl hl.1 rfl (lv_room (Nat.le_of_ble_eq_true rfl)) dX4_surenessOf_2 ⟨Nat.le_of_ble_eq_true rfl, Nat.le_of_ble_eq_true rfl⟩) hD hS hA (fun r_1 x_1 H locs hq_1 hP hD hS => ?_)
  rw [hq_1.1]
  rw [hq_1.2] at hP hD
  refine lv_if_eq (tgt := 16) hx hb dX4_surenessOf_5 (by decide) (fun c_2 => ?_) (fun c_2 => ?_)
  · refine lv_dconst0 hx hb dX4_surenessOf_16 ?_
    refine W.endD hd0 ?_
    exact W.dret (v := FP.dconst0) hx hb hr (fun t ht hW => ⟨⟨FP.dconst0, S, rfl, ⟨d00, rfl⟩, by rw [ht]; exact hP, va_K.moved hW.alike hK, hD⟩, hS.F ht⟩) hS.2.2 dX4_surenessOf_17
  · refine lv_aload_n hx hb dX4_surenessOf_8 rfl (lv_at hl 0 rfl) ?_
    refine lv_iconst (v := 0) hx hb dX4_surenessOf_9 (by decide) ?_
    refine kc_i (va_runV (As := [.int 0]) (rest := []) ⟨hx, hb, hml, hown, htT⟩ (c_countOf l D cA _ S ty hty t0 hq0 ht0 0) (cwV 1 htT (kg_V m_ml_X4_33 m_im_X4_countOf m_sl_X4_countOf m_in_X4 m_cd_X4_countOf) rfl rfl rfl (by decide +kernel) ⟨Nat.le_of_ble_eq_true rfl, Nat.le_of_ble_eq_true rfl⟩) (kp_V hK hP hD hTB (kp_rc hK hP hty (Nat.le_of_ble_eq_true rfl) rfl)) rfl rfl hl.1 rfl (lv_room (Nat.le_of_ble_eq_true rfl)) dX4_surenessOf_10 ⟨Nat.le_of_ble_eq_true rfl, Nat.le_of_ble_eq_true rfl⟩) hD hS hA (fun r_3 x_3 H locs hq_3 hP hD hS => ?_)
    rw [hq_3.1]
    rw [hq_3.2] at hP hD
    refine lv_if_ne (tgt := 18) hx hb dX4_surenessOf_13 (by decide) (fun c_4 => ?_) (fun c_4 => ?_)
    · refine lv_aload_n hx hb dX4_surenessOf_18 rfl (lv_at hl 0 rfl) ?_
      refine lv_iload_n hx hb dX4_surenessOf_19 rfl (lv_at hl 1 rfl) ?_
      refine kcD_d hd0 (va_runV_D (As := [.int k]) (rest := []) ⟨hx, hb, hml, hown, htT⟩ (c_spreadB l D cA _ S ty hty t0 hq0 ht0 t2 hq2 ht2 t3 hq3 ht3 k) (cwV 1 htT (kg_V m_ml_X4_44 m_im_X4_spreadByCount m_sl_X4_spreadByCount m_in_X4 m_cd_X4_spreadByCount) rfl rfl rfl (by decide +kernel) ⟨Nat.le_of_ble_eq_true rfl, Nat.le_of_ble_eq_true rfl⟩) (kp_V hK hP hD hTB (kp_rc hK hP hty (Nat.le_of_ble_eq_true rfl) rfl)) rfl rfl hl.1 rfl (lv_room (Nat.le_of_ble_eq_true rfl)) dX4_surenessOf_20 ⟨Nat.le_of_ble_eq_true rfl, Nat.le_of_ble_eq_true rfl⟩) hD hS hA (fun r_5 x_5 H locs hq_5 hP hD hS d_5 hd0 => ?_)
      have htT : ∀ w ∈ TT, w.before _ (s.setDrawn d_5) = true := dr_words htT0 d_5
      have hTB : TBok (s.setDrawn d_5) := TBok.same (u := s) (U := s.setDrawn d_5) rfl (Vm.Alike.refl s.vm) hTB0
      have hK : va_K D vwCl (ty6 cA) (s.setDrawn d_5) := hK0
      have hown : (s.setDrawn d_5).vm.findClass RX4 = some m.cls := hown0
      rw [hq_5.2] at hP hD
      refine lv_aload_n hx hb dX4_surenessOf_23 rfl (lv_at hl 0 rfl) ?_
      refine lv_iconst (v := 0) hx hb dX4_surenessOf_24 (by decide) ?_
      refine kcD_d hd0 (va_runV_D (As := [.int 0]) (rest := [.double r_5]) ⟨hx, hb, hml, hown, htT⟩ (c_spreadB l D cA _ S ty hty t0 hq0 ht0 t2 hq2 ht2 t3 hq3 ht3 0) (cwV 1 htT (kg_V m_ml_X4_44 m_im_X4_spreadByCount m_sl_X4_spreadByCount m_in_X4 m_cd_X4_spreadByCount) rfl rfl rfl (by decide +kernel) ⟨Nat.le_of_ble_eq_true rfl, Nat.le_of_ble_eq_true rfl⟩) (kp_V hK hP hD hTB (kp_rc hK hP hty (Nat.le_of_ble_eq_true rfl) rfl)) rfl rfl hl.1 rfl (lv_room (Nat.le_of_ble_eq_true rfl)) dX4_surenessOf_25 ⟨Nat.le_of_ble_eq_true rfl, Nat.le_of_ble_eq_true rfl⟩) hD hS hA (fun r_6 x_6 H locs hq_6 hP hD hS d_6 hd0 => ?_)
      have htT : ∀ w ∈ TT, w.before _ (s.setDrawn d_6) = true := dr_words htT0 d_6
      have hTB : TBok (s.setDrawn d_6) := TBok.same (u := s) (U := s.setDrawn d_6) rfl (Vm.Alike.refl s.vm) hTB0
      have hK : va_K D vwCl (ty6 cA) (s.setDrawn d_6) := hK0
      have hown : (s.setDrawn d_6).vm.findClass RX4 = some m.cls := hown0
      rw [hq_6.2] at hP hD
      refine lv_dadd_any hd0 lw_bits hx hb dX4_surenessOf_28 (fun r_7 d_7 hal_7 hd0 => ?_)
      have htT : ∀ w ∈ TT, w.before _ (s.setDrawn d_7) = true := dr_words htT0 d_7
      have hTB : TBok (s.setDrawn d_7) := TBok.same (u := s) (U := s.setDrawn d_7) rfl (Vm.Alike.refl s.vm) hTB0
      have hK : va_K D vwCl (ty6 cA) (s.setDrawn d_7) := hK0
      have hown : (s.setDrawn d_7).vm.findClass RX4 = some m.cls := hown0
      refine lv_dstore_n (lv' := [(2, .double r_7), (0, .ref ty), (1, .int k)]) hx hb dX4_surenessOf_29 rfl hl (by decide) rfl (fun ls hl => ?_)
      refine lv_aload_n hx hb dX4_surenessOf_30 rfl (lv_at hl 1 rfl) ?_
      refine lv_iload_n hx hb dX4_surenessOf_31 rfl (lv_at hl 2 rfl) ?_
      refine kcD_d hd0 (va_runV_D (As := [.int k]) (rest := []) ⟨hx, hb, hml, hown, htT⟩ (c_liftOf l D cA _ S ty hty t0 hq0 ht0 t2 hq2 ht2 k) (cwV 1 htT (kg_V m_ml_X4_47 m_im_X4_liftOf m_sl_X4_liftOf m_in_X4 m_cd_X4_liftOf) rfl rfl rfl (by decide +kernel) ⟨Nat.le_of_ble_eq_true rfl, Nat.le_of_ble_eq_true rfl⟩) (kp_V hK hP hD hTB (kp_rc hK hP hty (Nat.le_of_ble_eq_true rfl) rfl)) rfl rfl hl.1 rfl (lv_room (Nat.le_of_ble_eq_true rfl)) dX4_surenessOf_32 ⟨Nat.le_of_ble_eq_true rfl, Nat.le_of_ble_eq_true rfl⟩) hD hS hA (fun r_8 x_8 H locs hq_8 hP hD hS d_8 hd0 => ?_)
      have htT : ∀ w ∈ TT, w.before _ (s.setDrawn d_8) = true := dr_words htT0 d_8
      have hTB : TBok (s.setDrawn d_8) := TBok.same (u := s) (U := s.setDrawn d_8) rfl (Vm.Alike.refl s.vm) hTB0
      have hK : va_K D vwCl (ty6 cA) (s.setDrawn d_8) := hK0
      have hown : (s.setDrawn d_8).vm.findClass RX4 = some m.cls := hown0
      rw [hq_8.2] at hP hD
      refine lv_dstore (lv' := [(4, .double r_8), (2, .double r_7), (0, .ref ty), (1, .int k)]) hx hb dX4_surenessOf_35 hl (by decide) rfl (fun ls hl => ?_)
      refine lv_dload_n hx hb dX4_surenessOf_37 rfl (lv_at hl 1 rfl) ?_
      refine lv_dconst0 hx hb dX4_surenessOf_38 ?_
      refine lv_dcmp hx hb dX4_surenessOf_39 ?_
      refine lv_if_ne (tgt := 47) hx hb dX4_surenessOf_40 (by decide) (fun c_10 => ?_) (fun c_10 => ?_)
      · refine lv_dload hx hb dX4_surenessOf_47 (lv_at hl 0 rfl) ?_
        refine lv_dload hx hb dX4_surenessOf_49 (lv_at hl 0 rfl) ?_
        refine lv_dmul_any hd0 lw_bits hx hb dX4_surenessOf_51 (fun r_11 d_11 hal_11 hd0 => ?_)
        have htT : ∀ w ∈ TT, w.before _ (s.setDrawn d_11) = true := dr_words htT0 d_11
        have hTB : TBok (s.setDrawn d_11) := TBok.same (u := s) (U := s.setDrawn d_11) rfl (Vm.Alike.refl s.vm) hTB0
        have hK : va_K D vwCl (ty6 cA) (s.setDrawn d_11) := hK0
        have hown : (s.setDrawn d_11).vm.findClass RX4 = some m.cls := hown0
        refine lv_dload_n hx hb dX4_surenessOf_52 rfl (lv_at hl 1 rfl) ?_
        refine lv_ddiv_any hd0 lw_bits hx hb dX4_surenessOf_53 (fun r_12 d_12 hal_12 hd0 => ?_)
        have htT : ∀ w ∈ TT, w.before _ (s.setDrawn d_12) = true := dr_words htT0 d_12
        have hTB : TBok (s.setDrawn d_12) := TBok.same (u := s) (U := s.setDrawn d_12) rfl (Vm.Alike.refl s.vm) hTB0
        have hK : va_K D vwCl (ty6 cA) (s.setDrawn d_12) := hK0
        have hown : (s.setDrawn d_12).vm.findClass RX4 = some m.cls := hown0
        refine W.endD hd0 ?_
        exact W.dret (v := r_12) hx hb hr (fun t ht hW => ⟨⟨r_12, S, rfl, ⟨sure_z hq_5.1 hq_6.1 hal_7 (by rw [hk0] at hq_8; exact hq_8.1) c_10 hal_11 hal_12, rfl⟩, by rw [ht]; exact hP, va_K.moved hW.alike hK, hD⟩, hS.F ht⟩) hS.2.2 dX4_surenessOf_54
      · refine lv_dconst0 hx hb dX4_surenessOf_43 ?_
        refine lv_goto (tgt := 54) hx hb dX4_surenessOf_44 (by decide) ?_
        refine W.endD hd0 ?_
        exact W.dret (v := FP.dconst0) hx hb hr (fun t ht hW => ⟨⟨FP.dconst0, S, rfl, ⟨d00, rfl⟩, by rw [ht]; exact hP, va_K.moved hW.alike hK, hD⟩, hS.F ht⟩) hS.2.2 dX4_surenessOf_54
    · refine lv_dconst0 hx hb dX4_surenessOf_16 ?_
      refine W.endD hd0 ?_
      exact W.dret (v := FP.dconst0) hx hb hr (fun t ht hW => ⟨⟨FP.dconst0, S, rfl, ⟨d00, rfl⟩, by rw [ht]; exact hP, va_K.moved hW.alike hK, hD⟩, hS.F ht⟩) hS.2.2 dX4_surenessOf_17

set_option maxRecDepth 100000 in
set_option maxHeartbeats 4000000 in
theorem c_sureZ (l : Launch) (D : va_G) (cA : Nat → ClassId) (sz : Nat) (S : Pool) (x : Nat) (hx5 : isO S x 5) (ar : Nat) (hq0 : gQ S x 0 = some ar) (ak : Nat) (hq1 : gQ S x 1 = some ak) (hak : isO S ak 1) (hR : okR S ar) (j : Nat) (hj : j < 8) (a : Nat) (hja : gP S ar j = some a) (p0 : Int32) (hsw : kSw S ar p0 = some a) (p1 : Int32) (hv : kOut p1 0 (gI S a 2 - 1) = 0) (hp0 : p1 = 0)  : MetD lw_cs l yX5_sure (Cond.code yX5_sure cX5_sure 4 (some .double) :: TT) ({ frames := 5, cells := 0, slots := 0, locals := 114 }) (va_Pc [.ref x, .int p0, .int p1] (kPre D cA (PW cA S) sz)) (va_Qd (fun (r_ : UInt64) (x_ : Pool) => FP.dcmp r_ FP.dconst0 = some .eq ∧ x_ = S) (fun x_ => kB D cA (va_A (PW cA S) sz) (PW cA x_)) (va_A (PW cA S) sz)) 0 0 (va_A (PW cA S) sz) := by
  refine MetD.ofW (cc := cX5_sure) (maxL := 4) (ret := (some .double)) (by decide) rfl ?_
  intro p e s m args below meth c s₁ B hml hv hd0
  obtain ⟨rfl, hsz, hP, hK, hD0, hTB⟩ := hv
  have hx := B.exec
  have hb := B.bytes
  have hr := B.returns
  have hts := atoms_spec (ws := Cond.code yX5_sure cX5_sure 4 (some .double) :: TT) B.pre
  have htT : ∀ w ∈ TT, w.before _ s = true := fun w h => hts w (List.mem_cons_of_mem _ h)
  have hown : s.vm.findClass RX5 = some m.cls := findClass_of_methodNamed B.named
  have hlocks := B.notSynchronized
  subst hsz
  have hD := hD0.self (sz := s.heap.size)
  generalize hAe : va_A (PW cA S) s.heap.size = A at hD ⊢
  have hA : ∀ q : Nat, s.heap.size ≤ q → A q := fun q h => by rw [← hAe]; exact Or.inr h
  have hS : va_S A s.heap s.heap [] := va_S.rf
  have hl := lv_entry ([.ref x, .int p0, .int p1]) (n := 4) (Nat.le_of_ble_eq_true rfl)
  rw [lg_entry_eq]
  generalize (lg_sl ([.ref x, .int p0, .int p1]) ++ List.replicate (4 - (lg_sl ([.ref x, .int p0, .int p1])).length) Slot.unset).toArray = ls at hl ⊢
  have hl : lv_has ls 4 [(0, .ref x), (1, .int p0), (2, .int p1)] := hl
  have htT0 := htT
  have hTB0 := hTB
  have hK0 := hK
  have hown0 := hown
  have htT : ∀ w ∈ TT, w.before _ (s.setDrawn s.drawn) = true := dr_words htT0 s.drawn
  have hTB : TBok (s.setDrawn s.drawn) := TBok.same (u := s) (U := s.setDrawn s.drawn) rfl (Vm.Alike.refl s.vm) hTB0
  have hK : va_K D vwCl (ty6 cA) (s.setDrawn s.drawn) := hK0
  have hown : (s.setDrawn s.drawn).vm.findClass RX5 = some m.cls := hown0
  obtain ⟨-, ⟨wt, hq4, hwt⟩, -, -, ⟨ty, hq6, hty, ⟨t0, hqt0, ht0⟩, ⟨t1, hqt1, ht1⟩, ⟨t2, hqt2, ht2⟩, ⟨t3, hqt3, ht3⟩⟩, -⟩ := (hR.2 j hj a hja).1
  refine lv_aload_n hx hb dX5_sure_0 rfl (lv_at hl 0 rfl) ?_
  refine lv_iload_n hx hb dX5_sure_1 rfl (lv_at hl 1 rfl) ?_
  refine kc_q (va_runV (As := [.int p0]) (rest := []) ⟨hx, hb, hml, hown, htT⟩ (c_known l D cA _ S x hx5 ar hq0 hR.1 p0 a hsw) (cwV 1 htT (kg_V m_ml_X5_45 m_im_X5_known m_sl_X5_known m_in_X5 m_cd_X5_known) rfl rfl rfl (by decide +kernel) ⟨Nat.le_of_ble_eq_true rfl, Nat.le_of_ble_eq_true rfl⟩) (kp_V hK hP hD hTB (kp_rc hK hP hx5 (Nat.le_of_ble_eq_true rfl) rfl)) rfl rfl hl.1 rfl (lv_room (Nat.le_of_ble_eq_true rfl)) dX5_sure_2 ⟨Nat.le_of_ble_eq_true rfl, Nat.le_of_ble_eq_true rfl⟩) hD hS hA (fun r_1 x_1 H locs hq_1 hP hD hS => ?_)
  rw [hq_1.1]
  rw [hq_1.2] at hP hD
  refine lv_astore_n (lv' := [(3, .ref a), (0, .ref x), (1, .int p0), (2, .int p1)]) hx hb dX5_sure_5 rfl hl (by decide) rfl (fun ls hl => ?_)
  refine lv_aload_n hx hb dX5_sure_6 rfl (lv_at hl 0 rfl) ?_
  refine lv_iload_n hx hb dX5_sure_7 rfl (lv_at hl 3 rfl) ?_
  refine kc_v (va_runS (As := [.ref a, .int p1]) (rest := []) ⟨hx, hb, hml, hown, htT⟩ (c_checkVariant l D cA _ S a (hR.2 j hj a hja).1.1 p1 hv) (cwS 2 htT (kg_S m_ml_X5_49 m_st_X5_checkVariant m_in_X5 m_cd_X5_checkVariant) rfl rfl rfl (by decide +kernel) ⟨Nat.le_of_ble_eq_true rfl, Nat.le_of_ble_eq_true rfl⟩) (kp_S hK hP hD hTB) rfl rfl hl.1 rfl (lv_room (Nat.le_of_ble_eq_true rfl)) dX5_sure_8 ⟨Nat.le_of_ble_eq_true rfl, Nat.le_of_ble_eq_true rfl⟩) hD hS hA (fun x_2 H locs hq_2 hP hD hS => ?_)
  rw [hq_2] at hP hD
  refine lv_aload_n hx hb dX5_sure_11 rfl (lv_at hl 0 rfl) ?_
  refine kx_getsN hx hb htT m_u_X3 hown hK hP ((hR.2 j hj a hja).1.1) (Nat.le_of_ble_eq_true rfl) rfl 6 (by decide) (by decide) rfl hq6 (hTB.use m_fl_X5_188) dX5_sure_12 ?_
  refine lv_iload_n hx hb dX5_sure_15 rfl (lv_at hl 3 rfl) ?_
  refine kcD_d hd0 (va_runV_D (As := [.int p1]) (rest := []) ⟨hx, hb, hml, hown, htT⟩ (c_surenessZ l D cA _ S ty hty t0 hqt0 ht0 t2 hqt2 ht2 t3 hqt3 ht3 p1 hp0) (cwV 1 htT (kg_V m_ml_X5_216 m_im_X4_surenessOf m_sl_X4_surenessOf m_in_X4 m_cd_X4_surenessOf) rfl rfl rfl (by decide +kernel) ⟨Nat.le_of_ble_eq_true rfl, Nat.le_of_ble_eq_true rfl⟩) (kp_V hK hP hD hTB (kp_rc hK hP hty (Nat.le_of_ble_eq_true rfl) rfl)) rfl rfl hl.1 rfl (lv_room (Nat.le_of_ble_eq_true rfl)) dX5_sure_16 ⟨Nat.le_of_ble_eq_true rfl, Nat.le_of_ble_eq_true rfl⟩) hD hS hA (fun r_3 x_3 H locs hq_3 hP hD hS d_3 hd0 => ?_)
  have htT : ∀ w ∈ TT, w.before _ (s.setDrawn d_3) = true := dr_words htT0 d_3
  have hTB : TBok (s.setDrawn d_3) := TBok.same (u := s) (U := s.setDrawn d_3) rfl (Vm.Alike.refl s.vm) hTB0
  have hK : va_K D vwCl (ty6 cA) (s.setDrawn d_3) := hK0
  have hown : (s.setDrawn d_3).vm.findClass RX5 = some m.cls := hown0
  rw [hq_3.2] at hP hD
  refine W.endD hd0 ?_
  exact W.dret (v := r_3) hx hb hr (fun t ht hW => ⟨⟨r_3, S, rfl, ⟨hq_3.1, rfl⟩, by rw [ht]; exact hP, va_K.moved hW.alike hK, hD⟩, hS.F ht⟩) hS.2.2 dX5_sure_19
