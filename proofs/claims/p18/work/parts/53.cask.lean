set_option maxRecDepth 100000 in
set_option maxHeartbeats 4000000 in
/-- Arm(..) -/
theorem c_Arm_init_n (l : Launch) (D : va_G) (cA : Nat → ClassId) (sz : Nat) (S : Pool) (a : Nat) (ho : isO S a 0) (p0 p1 : Int32) : Met l yX0_init (Cond.code yX0_init cX0_init 4 none :: TT) ({ frames := 1, cells := 0, slots := 0, locals := 12 }) (va_Pc [.ref a, .int p0, .int p1, .null] (kPre D cA (PW cA S) sz)) (va_Qv (fun (x_ : Pool) => x_ = pQ (pI (pI S a 0 p0) a 1 p1) a 2 none) (fun x_ => kB D cA (va_A (PW cA S) sz) (PW cA x_)) (va_A (PW cA S) sz)) 0 0 (va_A (PW cA S) sz) := by
  refine Met.ofW (cc := cX0_init) (maxL := 4) (ret := none) (by decide) rfl ?_
  intro p e s m args below meth c s₁ B hml hv
  obtain ⟨rfl, hsz, hP, hK, hD0, hTB⟩ := hv
  have hx := B.exec
  have hb := B.bytes
  have hr := B.returns
  have hts := atoms_spec (ws := Cond.code yX0_init cX0_init 4 none :: TT) B.pre
  have htT : ∀ w ∈ TT, w.before _ s = true := fun w h => hts w (List.mem_cons_of_mem _ h)
  have hown : s.vm.findClass RX0 = some m.cls := findClass_of_methodNamed B.named
  have hlocks := B.notSynchronized
  have hin : meth.name = "<init>" := (name_of_methodNamed B.named B.method).1
  subst hsz
  have hD := hD0.self (sz := s.heap.size)
  generalize hAe : va_A (PW cA S) s.heap.size = A at hD ⊢
  have hA : ∀ q : Nat, s.heap.size ≤ q → A q := fun q h => by rw [← hAe]; exact Or.inr h
  have hS : va_S A s.heap s.heap [] := va_S.rf
  have hl := lv_entry ([.ref a, .int p0, .int p1, .null]) (n := 4) (Nat.le_of_ble_eq_true rfl)
  rw [lg_entry_eq]
  generalize (lg_sl ([.ref a, .int p0, .int p1, .null]) ++ List.replicate (4 - (lg_sl ([.ref a, .int p0, .int p1, .null])).length) Slot.unset).toArray = ls at hl ⊢
  have hl : lv_has ls 4 [(0, .ref a), (1, .int p0), (2, .int p1), (3, .null)] := hl
  refine lv_aload_n hx hb dX0_init_0 rfl (lv_at hl 0 rfl) ?_
  refine W.objInit hx hb hown (htT _ m_ml_X0_1) (htT _ m_im_objectInit) (htT _ m_cd_objectInit) rfl (hl.1.trans hml.symm) rfl dX0_init_1 (Nat.le_of_ble_eq_true rfl) (Nat.le_of_ble_eq_true rfl) ?_
  refine lv_aload_n hx hb dX0_init_4 rfl (lv_at hl 0 rfl) ?_
  refine lv_iload_n hx hb dX0_init_5 rfl (lv_at hl 1 rfl) ?_
  refine kx_putiF (ty := .int) hx hb htT m_u_X0 tyX0 tyX0_ok nmX0 hown hK hP hD hS ho (Nat.le_of_ble_eq_true rfl) rfl 0 (by decide) (by decide) rfl (htT _ m_fl_X0_7) rfl hin rfl (by decide +kernel) rfl rfl dX0_init_6 (fun H locs hP hD hS => ?_)
  refine lv_aload_n hx hb dX0_init_9 rfl (lv_at hl 0 rfl) ?_
  refine lv_iload_n hx hb dX0_init_10 rfl (lv_at hl 2 rfl) ?_
  refine kx_putiF (ty := .int) hx hb htT m_u_X0 tyX0 tyX0_ok nmX0 hown hK hP hD hS ho (Nat.le_of_ble_eq_true rfl) rfl 1 (by decide) (by decide) rfl (htT _ m_fl_X0_13) rfl hin rfl (by decide +kernel) rfl rfl dX0_init_11 (fun H locs hP hD hS => ?_)
  refine lv_aload_n hx hb dX0_init_14 rfl (lv_at hl 0 rfl) ?_
  refine lv_aload_nN hx hb dX0_init_15 rfl (lv_at hl 3 rfl) ?_
  refine kx_putrF (ty := (.object "DaybreakFlags$Arm")) (r := none) hx hb htT m_u_X0 tyX0 tyX0_ok nmX0 hown hK hP hD hS ho (Nat.le_of_ble_eq_true rfl) rfl 2 (by decide) (by decide) rfl (htT _ m_fl_X0_16) rfl hin rfl (by decide +kernel) rfl rfl dX0_init_16 (fun H locs hP hD hS => ?_)
  exact W.vret hx hb hr (fun t ht hW => ⟨⟨pQ (pI (pI S a 0 p0) a 1 p1) a 2 none, rfl, rfl, by rw [ht]; exact hP, va_K.moved hW.alike hK, hD⟩, hS.F ht⟩) hS.2.2 dX0_init_19

set_option maxRecDepth 100000 in
set_option maxHeartbeats 4000000 in
/-- Arm(..) -/
theorem c_Arm_init_s (l : Launch) (D : va_G) (cA : Nat → ClassId) (sz : Nat) (S : Pool) (a : Nat) (ho : isO S a 0) (p0 p1 : Int32) (r9 : Nat) : Met l yX0_init (Cond.code yX0_init cX0_init 4 none :: TT) ({ frames := 1, cells := 0, slots := 0, locals := 12 }) (va_Pc [.ref a, .int p0, .int p1, .ref r9] (kPre D cA (PW cA S) sz)) (va_Qv (fun (x_ : Pool) => x_ = pQ (pI (pI S a 0 p0) a 1 p1) a 2 (some r9)) (fun x_ => kB D cA (va_A (PW cA S) sz) (PW cA x_)) (va_A (PW cA S) sz)) 0 0 (va_A (PW cA S) sz) := by
  refine Met.ofW (cc := cX0_init) (maxL := 4) (ret := none) (by decide) rfl ?_
  intro p e s m args below meth c s₁ B hml hv
  obtain ⟨rfl, hsz, hP, hK, hD0, hTB⟩ := hv
  have hx := B.exec
  have hb := B.bytes
  have hr := B.returns
  have hts := atoms_spec (ws := Cond.code yX0_init cX0_init 4 none :: TT) B.pre
  have htT : ∀ w ∈ TT, w.before _ s = true := fun w h => hts w (List.mem_cons_of_mem _ h)
  have hown : s.vm.findClass RX0 = some m.cls := findClass_of_methodNamed B.named
  have hlocks := B.notSynchronized
  have hin : meth.name = "<init>" := (name_of_methodNamed B.named B.method).1
  subst hsz
  have hD := hD0.self (sz := s.heap.size)
  generalize hAe : va_A (PW cA S) s.heap.size = A at hD ⊢
  have hA : ∀ q : Nat, s.heap.size ≤ q → A q := fun q h => by rw [← hAe]; exact Or.inr h
  have hS : va_S A s.heap s.heap [] := va_S.rf
  have hl := lv_entry ([.ref a, .int p0, .int p1, .ref r9]) (n := 4) (Nat.le_of_ble_eq_true rfl)
  rw [lg_entry_eq]
  generalize (lg_sl ([.ref a, .int p0, .int p1, .ref r9]) ++ List.replicate (4 - (lg_sl ([.ref a, .int p0, .int p1, .ref r9])).length) Slot.unset).toArray = ls at hl ⊢
  have hl : lv_has ls 4 [(0, .ref a), (1, .int p0), (2, .int p1), (3, .ref r9)] := hl
  refine lv_aload_n hx hb dX0_init_0 rfl (lv_at hl 0 rfl) ?_
  refine W.objInit hx hb hown (htT _ m_ml_X0_1) (htT _ m_im_objectInit) (htT _ m_cd_objectInit) rfl (hl.1.trans hml.symm) rfl dX0_init_1 (Nat.le_of_ble_eq_true rfl) (Nat.le_of_ble_eq_true rfl) ?_
  refine lv_aload_n hx hb dX0_init_4 rfl (lv_at hl 0 rfl) ?_
  refine lv_iload_n hx hb dX0_init_5 rfl (lv_at hl 1 rfl) ?_
  refine kx_putiF (ty := .int) hx hb htT m_u_X0 tyX0 tyX0_ok nmX0 hown hK hP hD hS ho (Nat.le_of_ble_eq_true rfl) rfl 0 (by decide) (by decide) rfl (htT _ m_fl_X0_7) rfl hin rfl (by decide +kernel) rfl rfl dX0_init_6 (fun H locs hP hD hS => ?_)
  refine lv_aload_n hx hb dX0_init_9 rfl (lv_at hl 0 rfl) ?_
  refine lv_iload_n hx hb dX0_init_10 rfl (lv_at hl 2 rfl) ?_
  refine kx_putiF (ty := .int) hx hb htT m_u_X0 tyX0 tyX0_ok nmX0 hown hK hP hD hS ho (Nat.le_of_ble_eq_true rfl) rfl 1 (by decide) (by decide) rfl (htT _ m_fl_X0_13) rfl hin rfl (by decide +kernel) rfl rfl dX0_init_11 (fun H locs hP hD hS => ?_)
  refine lv_aload_n hx hb dX0_init_14 rfl (lv_at hl 0 rfl) ?_
  refine lv_aload_n hx hb dX0_init_15 rfl (lv_at hl 3 rfl) ?_
  refine kx_putrF (ty := (.object "DaybreakFlags$Arm")) (r := (some r9)) hx hb htT m_u_X0 tyX0 tyX0_ok nmX0 hown hK hP hD hS ho (Nat.le_of_ble_eq_true rfl) rfl 2 (by decide) (by decide) rfl (htT _ m_fl_X0_16) rfl hin rfl (by decide +kernel) rfl rfl dX0_init_16 (fun H locs hP hD hS => ?_)
  exact W.vret hx hb hr (fun t ht hW => ⟨⟨pQ (pI (pI S a 0 p0) a 1 p1) a 2 (some r9), rfl, rfl, by rw [ht]; exact hP, va_K.moved hW.alike hK, hD⟩, hS.F ht⟩) hS.2.2 dX0_init_19

theorem c_Arm_init (l : Launch) (D : va_G) (cA : Nat → ClassId) (sz : Nat) (S : Pool) (a : Nat) (ho : isO S a 0) (p0 p1 : Int32) (r : Option Nat) : Met l yX0_init (Cond.code yX0_init cX0_init 4 none :: TT) ({ frames := 1, cells := 0, slots := 0, locals := 12 }) (va_Pc [.ref a, .int p0, .int p1, va_rf r] (kPre D cA (PW cA S) sz)) (va_Qv (fun (x_ : Pool) => x_ = pQ (pI (pI S a 0 p0) a 1 p1) a 2 r) (fun x_ => kB D cA (va_A (PW cA S) sz) (PW cA x_)) (va_A (PW cA S) sz)) 0 0 (va_A (PW cA S) sz) := by
  cases r with
  | none => exact c_Arm_init_n l D cA sz S a ho p0 p1
  | some r9 => exact c_Arm_init_s l D cA sz S a ho p0 p1 r9

set_option maxRecDepth 100000 in
set_option maxHeartbeats 4000000 in
theorem c_countArm (l : Launch) (D : va_G) (cA : Nat → ClassId) (sz : Nat) (S : Pool) (ty : Nat) (hty : isO S ty 4) (t9 : Nat) (hq : gQ S ty 0 = some t9) (ht9 : isA S t9 10 4) (v : Nat) (hv4 : v < 4) : Met l yX4_countArm (Cond.code yX4_countArm cX4_countArm 2 none :: TT) ({ frames := 1, cells := 0, slots := 0, locals := 20 }) (va_Pc [.ref ty, .int (nI v)] (kPre D cA (PW cA S) sz)) (va_Qv (fun (x_ : Pool) => x_ = pI (pR S t9 v (gR S t9 v + 1)) ty 4 (gI S ty 4 + 1)) (fun x_ => kB D cA (va_A (PW cA S) sz) (PW cA x_)) (va_A (PW cA S) sz)) 0 0 (va_A (PW cA S) sz) := by
  refine Met.ofW (cc := cX4_countArm) (maxL := 2) (ret := none) (by decide) rfl ?_
  intro p e s m args below meth c s₁ B hml hv
  obtain ⟨rfl, hsz, hP, hK, hD0, hTB⟩ := hv
  have hx := B.exec
  have hb := B.bytes
  have hr := B.returns
  have hts := atoms_spec (ws := Cond.code yX4_countArm cX4_countArm 2 none :: TT) B.pre
  have htT : ∀ w ∈ TT, w.before _ s = true := fun w h => hts w (List.mem_cons_of_mem _ h)
  have hown : s.vm.findClass RX4 = some m.cls := findClass_of_methodNamed B.named
  have hlocks := B.notSynchronized
  subst hsz
  have hD := hD0.self (sz := s.heap.size)
  generalize hAe : va_A (PW cA S) s.heap.size = A at hD ⊢
  have hA : ∀ q : Nat, s.heap.size ≤ q → A q := fun q h => by rw [← hAe]; exact Or.inr h
  have hS : va_S A s.heap s.heap [] := va_S.rf
  have hl := lv_entry ([.ref ty, .int (nI v)]) (n := 2) (Nat.le_of_ble_eq_true rfl)
  rw [lg_entry_eq]
  generalize (lg_sl ([.ref ty, .int (nI v)]) ++ List.replicate (2 - (lg_sl ([.ref ty, .int (nI v)])).length) Slot.unset).toArray = ls at hl ⊢
  have hl : lv_has ls 2 [(0, .ref ty), (1, .int (nI v))] := hl
  refine lv_iload_n hx hb dX4_countArm_0 rfl (lv_at hl 1 rfl) ?_
  refine kc_i (va_runS (As := [.int (nI v)]) (rest := []) ⟨hx, hb, hml, hown, htT⟩ (c_isKept l D cA _ S (nI v)) (cwS 1 htT (kg_S m_ml_X4_25 m_st_X4_isKept m_in_X4 m_cd_X4_isKept) rfl rfl rfl (by decide +kernel) ⟨Nat.le_of_ble_eq_true rfl, Nat.le_of_ble_eq_true rfl⟩) (kp_S hK hP hD hTB) rfl rfl hl.1 rfl (lv_room (Nat.le_of_ble_eq_true rfl)) dX4_countArm_1 ⟨Nat.le_of_ble_eq_true rfl, Nat.le_of_ble_eq_true rfl⟩) hD hS hA (fun r_1 x_1 H locs hq_1 hP hD hS => ?_)
  rw [hq_1.1.trans (cKept_n hv4)]
  rw [hq_1.2] at hP hD
  refine lv_if_eq (tgt := 27) hx hb dX4_countArm_4 (by decide) (fun c_2 => absurd c_2 (by decide)) (fun _ => ?_)
  refine lv_aload_n hx hb dX4_countArm_7 rfl (lv_at hl 0 rfl) ?_
  refine kx_gets hx hb htT m_u_X4 hown hK hP hty (Nat.le_of_ble_eq_true rfl) rfl 0 (by decide) (by decide) rfl hq (htT _ m_fl_X4_9) dX4_countArm_8 ?_
  refine lv_iload_n hx hb dX4_countArm_11 rfl (lv_at hl 1 rfl) ?_
  refine lv_dup2_11 hx hb dX4_countArm_12 rfl rfl ?_
  refine kx_iald hx hb hK hP ht9 (Nat.le_of_ble_eq_true rfl) (Nat.le_of_ble_eq_true rfl) (show vp_in (nI (v)) 4 from ki_in (by omega) (by decide)) dX4_countArm_13 ?_
  rw [ki_cl (n := v) (by omega)]
  refine lv_iconst (v := 1) hx hb dX4_countArm_14 (by decide) ?_
  refine lv_iadd hx hb dX4_countArm_15 ?_
  refine kx_iast hx hb hK hP hD hS ht9 (Nat.le_of_ble_eq_true rfl) (Nat.le_of_ble_eq_true rfl) (show vp_in (nI (v)) 4 from ki_in (by omega) (by decide)) dX4_countArm_16 (fun H locs hP hD hS => ?_)
  rw [ki_cl (n := v) (by omega)] at hP hD
  refine lv_aload_n hx hb dX4_countArm_17 rfl (lv_at hl 0 rfl) ?_
  refine lv_dup hx hb dX4_countArm_18 rfl ?_
  refine kx_geti hx hb htT m_u_X4 hown hK hP hty (Nat.le_of_ble_eq_true rfl) rfl 4 (by decide) (by decide) rfl (htT _ m_fl_X4_29) dX4_countArm_19 ?_
  refine lv_iconst (v := 1) hx hb dX4_countArm_22 (by decide) ?_
  refine lv_iadd hx hb dX4_countArm_23 ?_
  refine kx_puti (ty := .int) hx hb htT m_u_X4 tyX4 tyX4_ok nmX4 hown hK hP hD hS hty (Nat.le_of_ble_eq_true rfl) rfl 4 (by decide) (by decide) rfl (htT _ m_fl_X4_29) rfl (by decide +kernel) rfl rfl dX4_countArm_24 (fun H locs hP hD hS => ?_)
  exact W.vret hx hb hr (fun t ht hW => ⟨⟨pI (pR S t9 v ((gR S t9 v) + 1)) ty 4 ((gI (pR S t9 v ((gR S t9 v) + 1)) ty 4) + 1), rfl, rfl, by rw [ht]; exact hP, va_K.moved hW.alike hK, hD⟩, hS.F ht⟩) hS.2.2 dX4_countArm_27

set_option maxRecDepth 100000 in
set_option maxHeartbeats 4000000 in
/-- addArm -/
theorem c_addArm (l : Launch) (D : va_G) (cA : Nat → ClassId) (sz : Nat) (S : Pool) (a : Nat) (ho : isO S a 3) (ty : Nat) (hq6 : gQ S a 6 = some ty) (hty : isO S ty 4) (t9 : Nat) (hq : gQ S ty 0 = some t9) (ht9 : isA S t9 10 4) (p0 : Int32) (v : Nat) (hv4 : v < 4) : Met l yX3_addArm (Cond.code yX3_addArm cX3_addArm 3 none :: TT) ({ frames := 2, cells := 1, slots := 5, locals := 41 }) (va_Pc [.ref a, .int p0, .int (nI v)] (kPre D cA (PW cA S) sz)) (va_Qv (fun (x_ : Pool) => ∃ q, q ∉ gL S ∧ x_ = pI (pR (pQ (pQ (pI (pI (pW S q 0 0) q 0 p0) q 1 (nI v)) q 2 (gQ S a 7)) a 7 (some q)) t9 v (gR (pQ (pQ (pI (pI (pW S q 0 0) q 0 p0) q 1 (nI v)) q 2 (gQ S a 7)) a 7 (some q)) t9 v + 1)) ty 4 (gI (pQ (pQ (pI (pI (pW S q 0 0) q 0 p0) q 1 (nI v)) q 2 (gQ S a 7)) a 7 (some q)) ty 4 + 1)) (fun x_ => kB D cA (va_A (PW cA S) sz) (PW cA x_)) (va_A (PW cA S) sz)) 1 5 (va_A (PW cA S) sz) := by
  refine Met.ofW (cc := cX3_addArm) (maxL := 3) (ret := none) (by decide) rfl ?_
  intro p e s m args below meth c s₁ B hml hv
  obtain ⟨rfl, hsz, hP, hK, hD0, hTB⟩ := hv
  have hx := B.exec
  have hb := B.bytes
  have hr := B.returns
  have hts := atoms_spec (ws := Cond.code yX3_addArm cX3_addArm 3 none :: TT) B.pre
  have htT : ∀ w ∈ TT, w.before _ s = true := fun w h => hts w (List.mem_cons_of_mem _ h)
  have hown : s.vm.findClass RX3 = some m.cls := findClass_of_methodNamed B.named
  have hlocks := B.notSynchronized
  subst hsz
  have hD := hD0.self (sz := s.heap.size)
  generalize hAe : va_A (PW cA S) s.heap.size = A at hD ⊢
  have hA : ∀ q : Nat, s.heap.size ≤ q → A q := fun q h => by rw [← hAe]; exact Or.inr h
  have hS : va_S A s.heap s.heap [] := va_S.rf
  have hl := lv_entry ([.ref a, .int p0, .int (nI v)]) (n := 3) (Nat.le_of_ble_eq_true rfl)
  rw [lg_entry_eq]
  generalize (lg_sl ([.ref a, .int p0, .int (nI v)]) ++ List.replicate (3 - (lg_sl ([.ref a, .int p0, .int (nI v)])).length) Slot.unset).toArray = ls at hl ⊢
  have hl : lv_has ls 3 [(0, .ref a), (1, .int p0), (2, .int (nI v))] := hl
  refine lv_aload_n hx hb dX3_addArm_0 rfl (lv_at hl 0 rfl) ?_
  refine kx_new (ci := 0) hx hb htT m_u_X0 tyX0 tyX0_ok hown (htT _ m_cl_X3_90) (htT _ m_nw_X0) (htT _ m_in_X0) hK hP hD hS hA (Nat.le_of_ble_eq_true rfl) rfl rfl (by decide) (Nat.le_of_ble_eq_true rfl) (Nat.le_of_ble_eq_true rfl) dX3_addArm_1 (fun q_1 H hq_1 hP hD hS => ?_)
  have ho_2 : isO (pW S q_1 0 0) a 3 := isO_new ho hq_1
  have ho_3 : isO (pW S q_1 0 0) ty 4 := isO_new hty hq_1
  refine lv_dup hx hb dX3_addArm_4 rfl ?_
  refine lv_iload_n hx hb dX3_addArm_5 rfl (lv_at hl 1 rfl) ?_
  refine lv_iload_n hx hb dX3_addArm_6 rfl (lv_at hl 2 rfl) ?_
  refine lv_aload_n hx hb dX3_addArm_7 rfl (lv_at hl 0 rfl) ?_
  refine kx_getr hx hb htT m_u_X3 hown hK hP ho_2 (Nat.le_of_ble_eq_true rfl) rfl 7 (by decide) (by decide) rfl rfl (htT _ m_fl_X3_85) dX3_addArm_8 ?_
  rw [show gQ (pW S q_1 0 0) a 7 = gQ S a 7 from gQ_new ho.1 hq_1]
  refine kc_v (va_runI (As := [.int p0, .int (nI v), va_rf (gQ S a 7)]) (rest := [.ref q_1, .ref a]) ⟨hx, hb, hml, hown, htT⟩ (c_Arm_init l D cA _ (pW S q_1 0 0) q_1 (isO_q (n := 0)) p0 (nI v) (gQ S a 7)) (cwI 3 htT (kg_I m_cd_X0_init) rfl rfl rfl (htT _ m_in_X0) (htT _ m_ml_X3_97) (htT _ m_im_X0_init) rfl (by decide +kernel) ⟨Nat.le_of_ble_eq_true rfl, Nat.le_of_ble_eq_true rfl⟩) (kp_S hK hP hD hTB) rfl rfl hl.1 rfl (lv_room (Nat.le_of_ble_eq_true rfl)) dX3_addArm_11 ⟨Nat.le_of_ble_eq_true rfl, Nat.le_of_ble_eq_true rfl⟩) hD hS hA (fun x_4 H locs hq_4 hP hD hS => ?_)
  rw [hq_4] at hP hD
  refine kx_putr (ty := (.object "DaybreakFlags$Arm")) (r := (some q_1)) hx hb htT m_u_X3 tyX3 tyX3_ok nmX3 hown hK hP hD hS ho_2 (Nat.le_of_ble_eq_true rfl) rfl 7 (by decide) (by decide) rfl (htT _ m_fl_X3_85) rfl (by decide +kernel) rfl rfl dX3_addArm_14 (fun H locs hP hD hS => ?_)
  have hnq9 : a ≠ q_1 := ne_new ho.1 hq_1
  have hnt9 : ty ≠ q_1 := ne_new hty.1 hq_1
  have hna9 : ty ≠ a := ne_of_kind hty.2 ho.2 (by decide)
  have hq69 : gQ (pQ (pQ (pI (pI (pW S q_1 0 0) q_1 0 p0) q_1 1 (nI v)) q_1 2 (gQ S a 7)) a 7 (some q_1)) a 6 = some ty := (u2_k (by decide)).trans ((u2_a hnq9).trans ((gQ_new (S := S) (ki := 0) (n := 0) ho.1 hq_1).trans hq6))
  have hqt9 : gQ (pQ (pQ (pI (pI (pW S q_1 0 0) q_1 0 p0) q_1 1 (nI v)) q_1 2 (gQ S a 7)) a 7 (some q_1)) ty 0 = some t9 := (u2_a hna9).trans ((u2_a hnt9).trans ((gQ_new (S := S) (ki := 0) (n := 0) hty.1 hq_1).trans hq))
  have hty9 : isO (pQ (pQ (pI (pI (pW S q_1 0 0) q_1 0 p0) q_1 1 (nI v)) q_1 2 (gQ S a 7)) a 7 (some q_1)) ty 4 := isO_new (S := S) (ki := 0) (n := 0) hty hq_1
  have htt9 : isA (pQ (pQ (pI (pI (pW S q_1 0 0) q_1 0 p0) q_1 1 (nI v)) q_1 2 (gQ S a 7)) a 7 (some q_1)) t9 10 4 := isA_new (S := S) (ki := 0) (n := 0) ht9 hq_1
  refine lv_aload_n hx hb dX3_addArm_17 rfl (lv_at hl 0 rfl) ?_
  refine kx_gets hx hb htT m_u_X3 hown hK hP ho_2 (Nat.le_of_ble_eq_true rfl) rfl 6 (by decide) (by decide) rfl hq69 (htT _ m_fl_X3_24) dX3_addArm_18 ?_
  refine lv_iload_n hx hb dX3_addArm_21 rfl (lv_at hl 2 rfl) ?_
  refine kc_v (va_runV (As := [.int (nI v)]) (rest := []) ⟨hx, hb, hml, hown, htT⟩ (c_countArm l D cA _ (pQ (pQ (pI (pI (pW S q_1 0 0) q_1 0 p0) q_1 1 (nI v)) q_1 2 (gQ S a 7)) a 7 (some q_1)) ty hty9 t9 hqt9 htt9 v hv4) (cwV 1 htT (kg_V m_ml_X3_100 m_im_X4_countArm m_sl_X4_countArm m_in_X4 m_cd_X4_countArm) rfl rfl rfl (by decide +kernel) ⟨Nat.le_of_ble_eq_true rfl, Nat.le_of_ble_eq_true rfl⟩) (kp_V hK hP hD hTB (kp_rc hK hP hty9 (Nat.le_of_ble_eq_true rfl) rfl)) rfl rfl hl.1 rfl (lv_room (Nat.le_of_ble_eq_true rfl)) dX3_addArm_22 ⟨Nat.le_of_ble_eq_true rfl, Nat.le_of_ble_eq_true rfl⟩) hD hS hA (fun x_5 H locs hq_5 hP hD hS => ?_)
  rw [hq_5] at hP hD
  exact W.vret hx hb hr (fun t ht hW => ⟨⟨pI (pR (pQ (pQ (pI (pI (pW S q_1 0 0) q_1 0 p0) q_1 1 (nI v)) q_1 2 (gQ S a 7)) a 7 (some q_1)) t9 v (gR (pQ (pQ (pI (pI (pW S q_1 0 0) q_1 0 p0) q_1 1 (nI v)) q_1 2 (gQ S a 7)) a 7 (some q_1)) t9 v + 1)) ty 4 (gI (pQ (pQ (pI (pI (pW S q_1 0 0) q_1 0 p0) q_1 1 (nI v)) q_1 2 (gQ S a 7)) a 7 (some q_1)) ty 4 + 1), rfl, ⟨q_1, hq_1, rfl⟩, by rw [ht]; exact hP, va_K.moved hW.alike hK, hD⟩, hS.F ht⟩) hS.2.2 dX3_addArm_25

set_option maxRecDepth 100000 in
set_option maxHeartbeats 4000000 in
/-- ask, without a new arm -/
theorem c_ask_no (l : Launch) (D : va_G) (cA : Nat → ClassId) (sz : Nat) (S : Pool) (x : Nat) (hx5 : isO S x 5) (ar : Nat) (hq0 : gQ S x 0 = some ar) (ak : Nat) (hq1 : gQ S x 1 = some ak) (hak : isO S ak 1) (hR : okR S ar) (j : Nat) (hj : j < 8) (a : Nat) (hja : gP S ar j = some a) (p0 : Int32) (hsw : kSw S ar p0 = some a) (p1 p2 p3 : Int32) (h1 : kOut p1 0 9999 = 0) (h2 : kOut p2 0 9 = 0) (h3 : kOut p3 0 9 = 0) (hno : ¬ ((cRsn (cBec S ak p1 p2 p3) x ak (cHas (cBec S ak p1 p2 p3) ar (cV (cBec S ak p1 p2 p3) x ar ak 7) a) a) = 8 ∧ gI S x 3 < 100 ∧ cArmA (cBec S ak p1 p2 p3) a p1 = none)) : Met l yX5_ask (Cond.code yX5_ask cX5_ask 8 (some .int) :: TT) ({ frames := 25, cells := 0, slots := 0, locals := 599 }) (va_Pc [.ref x, .int p0, .int p1, .int p2, .int p3] (kPre D cA (PW cA S) sz)) (va_Qi (fun (r_ : Int32) (x_ : Pool) => r_ = (cVar (cBec S ak p1 p2 p3) ak a (cRsn (cBec S ak p1 p2 p3) x ak (cHas (cBec S ak p1 p2 p3) ar (cV (cBec S ak p1 p2 p3) x ar ak 7) a) a)) ∧ x_ = cBec S ak p1 p2 p3) (fun x_ => kB D cA (va_A (PW cA S) sz) (PW cA x_)) (va_A (PW cA S) sz)) 0 0 (va_A (PW cA S) sz) := by
  refine Met.ofW (cc := cX5_ask) (maxL := 8) (ret := (some .int)) (by decide) rfl ?_
  intro p e s m args below meth c s₁ B hml hv
  obtain ⟨rfl, hsz, hP, hK, hD0, hTB⟩ := hv
  have hx := B.exec
  have hb := B.bytes
  have hr := B.returns
  have hts := atoms_spec (ws := Cond.code yX5_ask cX5_ask 8 (some .int) :: TT) B.pre
  have htT : ∀ w ∈ TT, w.before _ s = true := fun w h => hts w (List.mem_cons_of_mem _ h)
  have hown : s.vm.findClass RX5 = some m.cls := findClass_of_methodNamed B.named
  have hlocks := B.notSynchronized
  subst hsz
  have hD := hD0.self (sz := s.heap.size)
  generalize hAe : va_A (PW cA S) s.heap.size = A at hD ⊢
  have hA : ∀ q : Nat, s.heap.size ≤ q → A q := fun q h => by rw [← hAe]; exact Or.inr h
  have hS : va_S A s.heap s.heap [] := va_S.rf
  have hl := lv_entry ([.ref x, .int p0, .int p1, .int p2, .int p3]) (n := 8) (Nat.le_of_ble_eq_true rfl)
  rw [lg_entry_eq]
  generalize (lg_sl ([.ref x, .int p0, .int p1, .int p2, .int p3]) ++ List.replicate (8 - (lg_sl ([.ref x, .int p0, .int p1, .int p2, .int p3])).length) Slot.unset).toArray = ls at hl ⊢
  have hl : lv_has ls 8 [(0, .ref x), (1, .int p0), (2, .int p1), (3, .int p2), (4, .int p3)] := hl
  obtain ⟨-, -, -, ⟨cn, hcn, hch0⟩, ⟨ty, hq6, hty, ⟨t9, hqt, ht9⟩, -⟩, -⟩ := (hR.2 j hj a hja).1
  have hxk : x ≠ ak := ne_of_kind hx5.2 hak.2 (by decide)
  have exc : gI (cBec S ak p1 p2 p3) x 3 = gI S x 3 := (u2_a hxk).trans ((u2_a hxk).trans ((u2_a hxk).trans ((u2_a hxk).trans (u2_a hxk))))
  have hch : chn (cBec S ak p1 p2 p3) cn (gQ (cBec S ak p1 p2 p3) a 7) := chn_ext (S := S) (S' := cBec S ak p1 p2 p3) (fun b h => h) (fun b h => rfl) cn _ hch0
  have earm : ∀ u, cArm (cBec S ak p1 p2 p3) u cn (gQ (cBec S ak p1 p2 p3) a 7) = cArmA (cBec S ak p1 p2 p3) a u := fun u => cArm_fuel cn 100 _ hch hcn
  refine lv_aload_n hx hb dX5_ask_0 rfl (lv_at hl 0 rfl) ?_
  refine lv_iload_n hx hb dX5_ask_1 rfl (lv_at hl 1 rfl) ?_
  refine kc_q (va_runV (As := [.int p0]) (rest := []) ⟨hx, hb, hml, hown, htT⟩ (c_known l D cA _ S x hx5 ar hq0 hR.1 p0 a hsw) (cwV 1 htT (kg_V m_ml_X5_45 m_im_X5_known m_sl_X5_known m_in_X5 m_cd_X5_known) rfl rfl rfl (by decide +kernel) ⟨Nat.le_of_ble_eq_true rfl, Nat.le_of_ble_eq_true rfl⟩) (kp_V hK hP hD hTB (kp_rc hK hP hx5 (Nat.le_of_ble_eq_true rfl) rfl)) rfl rfl hl.1 rfl (lv_room (Nat.le_of_ble_eq_true rfl)) dX5_ask_2 ⟨Nat.le_of_ble_eq_true rfl, Nat.le_of_ble_eq_true rfl⟩) hD hS hA (fun r_1 x_1 H locs hq_1 hP hD hS => ?_)
  rw [hq_1.1]
  rw [hq_1.2] at hP hD
  refine lv_astore (lv' := [(5, .ref a), (0, .ref x), (1, .int p0), (2, .int p1), (3, .int p2), (4, .int p3)]) hx hb dX5_ask_5 hl (by decide) rfl (fun ls hl => ?_)
  refine lv_iload_n hx hb dX5_ask_7 rfl (lv_at hl 3 rfl) ?_
  refine lv_iload_n hx hb dX5_ask_8 rfl (lv_at hl 4 rfl) ?_
  refine lv_iload hx hb dX5_ask_9 (lv_at hl 5 rfl) ?_
  refine kc_v (va_runS (As := [.int p1, .int p2, .int p3]) (rest := []) ⟨hx, hb, hml, hown, htT⟩ (c_checkAsker l D cA _ S p1 p2 p3 h1 h2 h3) (cwS 3 htT (kg_S m_ml_X5_145 m_st_X5_checkAsker m_in_X5 m_cd_X5_checkAsker) rfl rfl rfl (by decide +kernel) ⟨Nat.le_of_ble_eq_true rfl, Nat.le_of_ble_eq_true rfl⟩) (kp_S hK hP hD hTB) rfl rfl hl.1 rfl (lv_room (Nat.le_of_ble_eq_true rfl)) dX5_ask_11 ⟨Nat.le_of_ble_eq_true rfl, Nat.le_of_ble_eq_true rfl⟩) hD hS hA (fun x_2 H locs hq_2 hP hD hS => ?_)
  rw [hq_2] at hP hD
  refine lv_aload_n hx hb dX5_ask_14 rfl (lv_at hl 1 rfl) ?_
  refine kx_gets hx hb htT m_u_X5 hown hK hP hx5 (Nat.le_of_ble_eq_true rfl) rfl 1 (by decide) (by decide) rfl hq1 (htT _ m_fl_X5_18) dX5_ask_15 ?_
  refine lv_iload_n hx hb dX5_ask_18 rfl (lv_at hl 3 rfl) ?_
  refine lv_iload_n hx hb dX5_ask_19 rfl (lv_at hl 4 rfl) ?_
  refine lv_iload hx hb dX5_ask_20 (lv_at hl 5 rfl) ?_
  refine kc_v (va_runV (As := [.int p1, .int p2, .int p3]) (rest := []) ⟨hx, hb, hml, hown, htT⟩ (c_become l D cA _ S ak hak p1 p2 p3) (cwV 3 htT (kg_V m_ml_X5_148 m_im_X1_become m_sl_X1_become m_in_X1 m_cd_X1_become) rfl rfl rfl (by decide +kernel) ⟨Nat.le_of_ble_eq_true rfl, Nat.le_of_ble_eq_true rfl⟩) (kp_V hK hP hD hTB (kp_rc hK hP hak (Nat.le_of_ble_eq_true rfl) rfl)) rfl rfl hl.1 rfl (lv_room (Nat.le_of_ble_eq_true rfl)) dX5_ask_22 ⟨Nat.le_of_ble_eq_true rfl, Nat.le_of_ble_eq_true rfl⟩) hD hS hA (fun x_3 H locs hq_3 hP hD hS => ?_)
  rw [hq_3] at hP hD
  refine lv_aload_n hx hb dX5_ask_25 rfl (lv_at hl 1 rfl) ?_
  refine lv_aload hx hb dX5_ask_26 (lv_at hl 0 rfl) ?_
  refine kc_i (va_runV (As := [.ref a]) (rest := []) ⟨hx, hb, hml, hown, htT⟩ (c_reasonOf l D cA _ (cBec S ak p1 p2 p3) x hx5 ar hq0 ak hq1 hak (okR_bec hR hak) 7 (fun d9 h => by cases h; exact c_PV l D cA (cBec S ak p1 p2 p3) x hx5 ar hq0 ak hq1 hak (okR_bec hR hak) 6) a j hj hja (by omega)) (cwV 1 htT (kg_V m_ml_X5_155 m_im_X5_reasonOf m_sl_X5_reasonOf m_in_X5 m_cd_X5_reasonOf) rfl rfl rfl (by decide +kernel) ⟨Nat.le_of_ble_eq_true rfl, Nat.le_of_ble_eq_true rfl⟩) (kp_V hK hP hD hTB (kp_rc hK hP hx5 (Nat.le_of_ble_eq_true rfl) rfl)) rfl rfl hl.1 rfl (lv_room (Nat.le_of_ble_eq_true rfl)) dX5_ask_28 ⟨Nat.le_of_ble_eq_true rfl, Nat.le_of_ble_eq_true rfl⟩) hD hS hA (fun r_4 x_4 H locs hq_4 hP hD hS => ?_)
  rw [hq_4.1]
  rw [hq_4.2] at hP hD
  refine lv_istore (lv' := [(6, .int (cRsn (cBec S ak p1 p2 p3) x ak (cHas (cBec S ak p1 p2 p3) ar (cV (cBec S ak p1 p2 p3) x ar ak 7) a) a)), (5, .ref a), (0, .ref x), (1, .int p0), (2, .int p1), (3, .int p2), (4, .int p3)]) hx hb dX5_ask_31 hl (by decide) rfl (fun ls hl => ?_)
  refine lv_aload_n hx hb dX5_ask_33 rfl (lv_at hl 2 rfl) ?_
  refine lv_aload hx hb dX5_ask_34 (lv_at hl 1 rfl) ?_
  refine lv_iload hx hb dX5_ask_36 (lv_at hl 0 rfl) ?_
  refine kc_i (va_runV (As := [.ref a, .int (cRsn (cBec S ak p1 p2 p3) x ak (cHas (cBec S ak p1 p2 p3) ar (cV (cBec S ak p1 p2 p3) x ar ak 7) a) a)]) (rest := []) ⟨hx, hb, hml, hown, htT⟩ (c_variantBy l D cA _ (cBec S ak p1 p2 p3) x hx5 ar hq0 ak hq1 hak (okR_bec hR hak) a j hj hja (cRsn (cBec S ak p1 p2 p3) x ak (cHas (cBec S ak p1 p2 p3) ar (cV (cBec S ak p1 p2 p3) x ar ak 7) a) a)) (cwV 2 htT (kg_V m_ml_X5_161 m_im_X5_variantBy m_sl_X5_variantBy m_in_X5 m_cd_X5_variantBy) rfl rfl rfl (by decide +kernel) ⟨Nat.le_of_ble_eq_true rfl, Nat.le_of_ble_eq_true rfl⟩) (kp_V hK hP hD hTB (kp_rc hK hP hx5 (Nat.le_of_ble_eq_true rfl) rfl)) rfl rfl hl.1 rfl (lv_room (Nat.le_of_ble_eq_true rfl)) dX5_ask_38 ⟨Nat.le_of_ble_eq_true rfl, Nat.le_of_ble_eq_true rfl⟩) hD hS hA (fun r_5 x_5 H locs hq_5 hP hD hS => ?_)
  rw [hq_5.1]
  rw [hq_5.2] at hP hD
  refine lv_istore (lv' := [(7, .int (cVar (cBec S ak p1 p2 p3) ak a (cRsn (cBec S ak p1 p2 p3) x ak (cHas (cBec S ak p1 p2 p3) ar (cV (cBec S ak p1 p2 p3) x ar ak 7) a) a))), (6, .int (cRsn (cBec S ak p1 p2 p3) x ak (cHas (cBec S ak p1 p2 p3) ar (cV (cBec S ak p1 p2 p3) x ar ak 7) a) a)), (5, .ref a), (0, .ref x), (1, .int p0), (2, .int p1), (3, .int p2), (4, .int p3)]) hx hb dX5_ask_41 hl (by decide) rfl (fun ls hl => ?_)
  refine lv_iload hx hb dX5_ask_43 (lv_at hl 1 rfl) ?_
  refine lv_bipush (v := 8) hx hb dX5_ask_45 (by decide) ?_
  refine lv_icmp_ne (tgt := 86) hx hb dX5_ask_47 (by decide) (fun c_6 => ?_) (fun c_6 => ?_)
  · refine lv_iload hx hb dX5_ask_86 (lv_at hl 0 rfl) ?_
    exact W.iret (v := (cVar (cBec S ak p1 p2 p3) ak a (cRsn (cBec S ak p1 p2 p3) x ak (cHas (cBec S ak p1 p2 p3) ar (cV (cBec S ak p1 p2 p3) x ar ak 7) a) a))) hx hb hr (fun t ht hW => ⟨⟨(cVar (cBec S ak p1 p2 p3) ak a (cRsn (cBec S ak p1 p2 p3) x ak (cHas (cBec S ak p1 p2 p3) ar (cV (cBec S ak p1 p2 p3) x ar ak 7) a) a)), cBec S ak p1 p2 p3, rfl, ⟨rfl, rfl⟩, by rw [ht]; exact hP, va_K.moved hW.alike hK, hD⟩, hS.F ht⟩) hS.2.2 dX5_ask_88
  · have c8 := c_6
    refine lv_aload_n hx hb dX5_ask_50 rfl (lv_at hl 3 rfl) ?_
    refine kx_getiv hx hb htT m_u_X5 hown hK hP hx5 (Nat.le_of_ble_eq_true rfl) rfl 3 (by decide) (by decide) rfl (htT _ m_fl_X5_165) exc dX5_ask_51 ?_
    refine lv_bipush (v := 100) hx hb dX5_ask_54 (by decide) ?_
    refine lv_icmp_ge (tgt := 86) hx hb dX5_ask_56 (by decide) (fun c_7 => ?_) (fun c_7 => ?_)
    · replace c_7 := Int32.not_lt.mpr c_7
      refine lv_iload hx hb dX5_ask_86 (lv_at hl 0 rfl) ?_
      exact W.iret (v := (cVar (cBec S ak p1 p2 p3) ak a (cRsn (cBec S ak p1 p2 p3) x ak (cHas (cBec S ak p1 p2 p3) ar (cV (cBec S ak p1 p2 p3) x ar ak 7) a) a))) hx hb hr (fun t ht hW => ⟨⟨(cVar (cBec S ak p1 p2 p3) ak a (cRsn (cBec S ak p1 p2 p3) x ak (cHas (cBec S ak p1 p2 p3) ar (cV (cBec S ak p1 p2 p3) x ar ak 7) a) a)), cBec S ak p1 p2 p3, rfl, ⟨rfl, rfl⟩, by rw [ht]; exact hP, va_K.moved hW.alike hK, hD⟩, hS.F ht⟩) hS.2.2 dX5_ask_88
    · have c100 := Int32.not_le.mp c_7
      refine lv_aload hx hb dX5_ask_59 (lv_at hl 2 rfl) ?_
      refine lv_iload_n hx hb dX5_ask_61 rfl (lv_at hl 5 rfl) ?_
      refine kc_q (va_runV (As := [.int p1]) (rest := []) ⟨hx, hb, hml, hown, htT⟩ (c_armOf l D cA _ (cBec S ak p1 p2 p3) a (hR.2 j hj a hja).1.1 cn hch p1) (cwV 1 htT (kg_V m_ml_X5_168 m_im_X3_armOf m_sl_X3_armOf m_in_X3 m_cd_X3_armOf) rfl rfl rfl (by decide +kernel) ⟨Nat.le_of_ble_eq_true rfl, Nat.le_of_ble_eq_true rfl⟩) (kp_V hK hP hD hTB (kp_rc hK hP ((hR.2 j hj a hja).1.1) (Nat.le_of_ble_eq_true rfl) rfl)) rfl rfl hl.1 rfl (lv_room (Nat.le_of_ble_eq_true rfl)) dX5_ask_62 ⟨Nat.le_of_ble_eq_true rfl, Nat.le_of_ble_eq_true rfl⟩) hD hS hA (fun r_8 x_8 H locs hq_8 hP hD hS => ?_)
      rw [hq_8.1.trans (earm _)]
      rw [hq_8.2] at hP hD
      rcases harm : cArmA (cBec S ak p1 p2 p3) a p1 with _ | y_1
      · exact absurd ⟨c8, c100, harm⟩ hno
      · refine lv_ifnonnull (tgt := 86) hx hb dX5_ask_65 (by decide) ?_
        refine lv_iload hx hb dX5_ask_86 (lv_at hl 0 rfl) ?_
        exact W.iret (v := (cVar (cBec S ak p1 p2 p3) ak a (cRsn (cBec S ak p1 p2 p3) x ak (cHas (cBec S ak p1 p2 p3) ar (cV (cBec S ak p1 p2 p3) x ar ak 7) a) a))) hx hb hr (fun t ht hW => ⟨⟨(cVar (cBec S ak p1 p2 p3) ak a (cRsn (cBec S ak p1 p2 p3) x ak (cHas (cBec S ak p1 p2 p3) ar (cV (cBec S ak p1 p2 p3) x ar ak 7) a) a)), cBec S ak p1 p2 p3, rfl, ⟨rfl, rfl⟩, by rw [ht]; exact hP, va_K.moved hW.alike hK, hD⟩, hS.F ht⟩) hS.2.2 dX5_ask_88

set_option maxRecDepth 100000 in
set_option maxHeartbeats 4000000 in
/-- ask, with a new arm -/
theorem c_ask_yes (l : Launch) (D : va_G) (cA : Nat → ClassId) (sz : Nat) (S : Pool) (x : Nat) (hx5 : isO S x 5) (ar : Nat) (hq0 : gQ S x 0 = some ar) (ak : Nat) (hq1 : gQ S x 1 = some ak) (hak : isO S ak 1) (hR : okR S ar) (j : Nat) (hj : j < 8) (a : Nat) (hja : gP S ar j = some a) (p0 : Int32) (hsw : kSw S ar p0 = some a) (p1 p2 p3 : Int32) (h1 : kOut p1 0 9999 = 0) (h2 : kOut p2 0 9 = 0) (h3 : kOut p3 0 9 = 0) (h8 : (cRsn (cBec S ak p1 p2 p3) x ak (cHas (cBec S ak p1 p2 p3) ar (cV (cBec S ak p1 p2 p3) x ar ak 7) a) a) = 8) (hlt : gI S x 3 < 100) (harm : cArmA (cBec S ak p1 p2 p3) a p1 = none) (v : Nat) (hv4 : v < 4) (hvn : (cVar (cBec S ak p1 p2 p3) ak a (cRsn (cBec S ak p1 p2 p3) x ak (cHas (cBec S ak p1 p2 p3) ar (cV (cBec S ak p1 p2 p3) x ar ak 7) a) a)) = nI v) : Met l yX5_ask (Cond.code yX5_ask cX5_ask 8 (some .int) :: TT) ({ frames := 25, cells := 1, slots := 5, locals := 599 }) (va_Pc [.ref x, .int p0, .int p1, .int p2, .int p3] (kPre D cA (PW cA S) sz)) (va_Qi (fun (r_ : Int32) (x_ : Pool) => r_ = nI v ∧ ∃ q ty t9, q ∉ gL S ∧ gQ S a 6 = some ty ∧ gQ S ty 0 = some t9 ∧ x_ = pI (pI (pR (pQ (pQ (pI (pI (pW (cBec S ak p1 p2 p3) q 0 0) q 0 p1) q 1 (nI v)) q 2 (gQ S a 7)) a 7 (some q)) t9 v (gR S t9 v + 1)) ty 4 (gI S ty 4 + 1)) x 3 (gI S x 3 + 1)) (fun x_ => kB D cA (va_A (PW cA S) sz) (PW cA x_)) (va_A (PW cA S) sz)) 1 5 (va_A (PW cA S) sz) := by
  refine Met.ofW (cc := cX5_ask) (maxL := 8) (ret := (some .int)) (by decide) rfl ?_
  intro p e s m args below meth c s₁ B hml hv
  obtain ⟨rfl, hsz, hP, hK, hD0, hTB⟩ := hv
  have hx := B.exec
  have hb := B.bytes
  have hr := B.returns
  have hts := atoms_spec (ws := Cond.code yX5_ask cX5_ask 8 (some .int) :: TT) B.pre
  have htT : ∀ w ∈ TT, w.before _ s = true := fun w h => hts w (List.mem_cons_of_mem _ h)
  have hown : s.vm.findClass RX5 = some m.cls := findClass_of_methodNamed B.named
  have hlocks := B.notSynchronized
  subst hsz
  have hD := hD0.self (sz := s.heap.size)
  generalize hAe : va_A (PW cA S) s.heap.size = A at hD ⊢
  have hA : ∀ q : Nat, s.heap.size ≤ q → A q := fun q h => by rw [← hAe]; exact Or.inr h
  have hS : va_S A s.heap s.heap [] := va_S.rf
  have hl := lv_entry ([.ref x, .int p0, .int p1, .int p2, .int p3]) (n := 8) (Nat.le_of_ble_eq_true rfl)
  rw [lg_entry_eq]
  generalize (lg_sl ([.ref x, .int p0, .int p1, .int p2, .int p3]) ++ List.replicate (8 - (lg_sl ([.ref x, .int p0, .int p1, .int p2, .int p3])).length) Slot.unset).toArray = ls at hl ⊢
  have hl : lv_has ls 8 [(0, .ref x), (1, .int p0), (2, .int p1), (3, .int p2), (4, .int p3)] := hl
  obtain ⟨-, -, -, ⟨cn, hcn, hch0⟩, ⟨ty, hq6, hty, ⟨t9, hqt, ht9⟩, -⟩, -⟩ := (hR.2 j hj a hja).1
  have hxk : x ≠ ak := ne_of_kind hx5.2 hak.2 (by decide)
  have exc : gI (cBec S ak p1 p2 p3) x 3 = gI S x 3 := (u2_a hxk).trans ((u2_a hxk).trans ((u2_a hxk).trans ((u2_a hxk).trans (u2_a hxk))))
  have hch : chn (cBec S ak p1 p2 p3) cn (gQ (cBec S ak p1 p2 p3) a 7) := chn_ext (S := S) (S' := cBec S ak p1 p2 p3) (fun b h => h) (fun b h => rfl) cn _ hch0
  have earm : ∀ u, cArm (cBec S ak p1 p2 p3) u cn (gQ (cBec S ak p1 p2 p3) a 7) = cArmA (cBec S ak p1 p2 p3) a u := fun u => cArm_fuel cn 100 _ hch hcn
  refine lv_aload_n hx hb dX5_ask_0 rfl (lv_at hl 0 rfl) ?_
  refine lv_iload_n hx hb dX5_ask_1 rfl (lv_at hl 1 rfl) ?_
  refine kc_q (va_runV (As := [.int p0]) (rest := []) ⟨hx, hb, hml, hown, htT⟩ (c_known l D cA _ S x hx5 ar hq0 hR.1 p0 a hsw) (cwV 1 htT (kg_V m_ml_X5_45 m_im_X5_known m_sl_X5_known m_in_X5 m_cd_X5_known) rfl rfl rfl (by decide +kernel) ⟨Nat.le_of_ble_eq_true rfl, Nat.le_of_ble_eq_true rfl⟩) (kp_V hK hP hD hTB (kp_rc hK hP hx5 (Nat.le_of_ble_eq_true rfl) rfl)) rfl rfl hl.1 rfl (lv_room (Nat.le_of_ble_eq_true rfl)) dX5_ask_2 ⟨Nat.le_of_ble_eq_true rfl, Nat.le_of_ble_eq_true rfl⟩) hD hS hA (fun r_1 x_1 H locs hq_1 hP hD hS => ?_)
  rw [hq_1.1]
  rw [hq_1.2] at hP hD
  refine lv_astore (lv' := [(5, .ref a), (0, .ref x), (1, .int p0), (2, .int p1), (3, .int p2), (4, .int p3)]) hx hb dX5_ask_5 hl (by decide) rfl (fun ls hl => ?_)
  refine lv_iload_n hx hb dX5_ask_7 rfl (lv_at hl 3 rfl) ?_
  refine lv_iload_n hx hb dX5_ask_8 rfl (lv_at hl 4 rfl) ?_
  refine lv_iload hx hb dX5_ask_9 (lv_at hl 5 rfl) ?_
  refine kc_v (va_runS (As := [.int p1, .int p2, .int p3]) (rest := []) ⟨hx, hb, hml, hown, htT⟩ (c_checkAsker l D cA _ S p1 p2 p3 h1 h2 h3) (cwS 3 htT (kg_S m_ml_X5_145 m_st_X5_checkAsker m_in_X5 m_cd_X5_checkAsker) rfl rfl rfl (by decide +kernel) ⟨Nat.le_of_ble_eq_true rfl, Nat.le_of_ble_eq_true rfl⟩) (kp_S hK hP hD hTB) rfl rfl hl.1 rfl (lv_room (Nat.le_of_ble_eq_true rfl)) dX5_ask_11 ⟨Nat.le_of_ble_eq_true rfl, Nat.le_of_ble_eq_true rfl⟩) hD hS hA (fun x_2 H locs hq_2 hP hD hS => ?_)
  rw [hq_2] at hP hD
  refine lv_aload_n hx hb dX5_ask_14 rfl (lv_at hl 1 rfl) ?_
  refine kx_gets hx hb htT m_u_X5 hown hK hP hx5 (Nat.le_of_ble_eq_true rfl) rfl 1 (by decide) (by decide) rfl hq1 (htT _ m_fl_X5_18) dX5_ask_15 ?_
  refine lv_iload_n hx hb dX5_ask_18 rfl (lv_at hl 3 rfl) ?_
  refine lv_iload_n hx hb dX5_ask_19 rfl (lv_at hl 4 rfl) ?_
  refine lv_iload hx hb dX5_ask_20 (lv_at hl 5 rfl) ?_
  refine kc_v (va_runV (As := [.int p1, .int p2, .int p3]) (rest := []) ⟨hx, hb, hml, hown, htT⟩ (c_become l D cA _ S ak hak p1 p2 p3) (cwV 3 htT (kg_V m_ml_X5_148 m_im_X1_become m_sl_X1_become m_in_X1 m_cd_X1_become) rfl rfl rfl (by decide +kernel) ⟨Nat.le_of_ble_eq_true rfl, Nat.le_of_ble_eq_true rfl⟩) (kp_V hK hP hD hTB (kp_rc hK hP hak (Nat.le_of_ble_eq_true rfl) rfl)) rfl rfl hl.1 rfl (lv_room (Nat.le_of_ble_eq_true rfl)) dX5_ask_22 ⟨Nat.le_of_ble_eq_true rfl, Nat.le_of_ble_eq_true rfl⟩) hD hS hA (fun x_3 H locs hq_3 hP hD hS => ?_)
  rw [hq_3] at hP hD
  refine lv_aload_n hx hb dX5_ask_25 rfl (lv_at hl 1 rfl) ?_
  refine lv_aload hx hb dX5_ask_26 (lv_at hl 0 rfl) ?_
  refine kc_i (va_runV (As := [.ref a]) (rest := []) ⟨hx, hb, hml, hown, htT⟩ (c_reasonOf l D cA _ (cBec S ak p1 p2 p3) x hx5 ar hq0 ak hq1 hak (okR_bec hR hak) 7 (fun d9 h => by cases h; exact c_PV l D cA (cBec S ak p1 p2 p3) x hx5 ar hq0 ak hq1 hak (okR_bec hR hak) 6) a j hj hja (by omega)) (cwV 1 htT (kg_V m_ml_X5_155 m_im_X5_reasonOf m_sl_X5_reasonOf m_in_X5 m_cd_X5_reasonOf) rfl rfl rfl (by decide +kernel) ⟨Nat.le_of_ble_eq_true rfl, Nat.le_of_ble_eq_true rfl⟩) (kp_V hK hP hD hTB (kp_rc hK hP hx5 (Nat.le_of_ble_eq_true rfl) rfl)) rfl rfl hl.1 rfl (lv_room (Nat.le_of_ble_eq_true rfl)) dX5_ask_28 ⟨Nat.le_of_ble_eq_true rfl, Nat.le_of_ble_eq_true rfl⟩) hD hS hA (fun r_4 x_4 H locs hq_4 hP hD hS => ?_)
  rw [hq_4.1]
  rw [hq_4.2] at hP hD
  refine lv_istore (lv' := [(6, .int (cRsn (cBec S ak p1 p2 p3) x ak (cHas (cBec S ak p1 p2 p3) ar (cV (cBec S ak p1 p2 p3) x ar ak 7) a) a)), (5, .ref a), (0, .ref x), (1, .int p0), (2, .int p1), (3, .int p2), (4, .int p3)]) hx hb dX5_ask_31 hl (by decide) rfl (fun ls hl => ?_)
  refine lv_aload_n hx hb dX5_ask_33 rfl (lv_at hl 2 rfl) ?_
  refine lv_aload hx hb dX5_ask_34 (lv_at hl 1 rfl) ?_
  refine lv_iload hx hb dX5_ask_36 (lv_at hl 0 rfl) ?_
  refine kc_i (va_runV (As := [.ref a, .int (cRsn (cBec S ak p1 p2 p3) x ak (cHas (cBec S ak p1 p2 p3) ar (cV (cBec S ak p1 p2 p3) x ar ak 7) a) a)]) (rest := []) ⟨hx, hb, hml, hown, htT⟩ (c_variantBy l D cA _ (cBec S ak p1 p2 p3) x hx5 ar hq0 ak hq1 hak (okR_bec hR hak) a j hj hja (cRsn (cBec S ak p1 p2 p3) x ak (cHas (cBec S ak p1 p2 p3) ar (cV (cBec S ak p1 p2 p3) x ar ak 7) a) a)) (cwV 2 htT (kg_V m_ml_X5_161 m_im_X5_variantBy m_sl_X5_variantBy m_in_X5 m_cd_X5_variantBy) rfl rfl rfl (by decide +kernel) ⟨Nat.le_of_ble_eq_true rfl, Nat.le_of_ble_eq_true rfl⟩) (kp_V hK hP hD hTB (kp_rc hK hP hx5 (Nat.le_of_ble_eq_true rfl) rfl)) rfl rfl hl.1 rfl (lv_room (Nat.le_of_ble_eq_true rfl)) dX5_ask_38 ⟨Nat.le_of_ble_eq_true rfl, Nat.le_of_ble_eq_true rfl⟩) hD hS hA (fun r_5 x_5 H locs hq_5 hP hD hS => ?_)
  rw [hq_5.1]
  rw [hq_5.2] at hP hD
  rw [hvn]
  refine lv_istore (lv' := [(7, .int (nI v)), (6, .int (cRsn (cBec S ak p1 p2 p3) x ak (cHas (cBec S ak p1 p2 p3) ar (cV (cBec S ak p1 p2 p3) x ar ak 7) a) a)), (5, .ref a), (0, .ref x), (1, .int p0), (2, .int p1), (3, .int p2), (4, .int p3)]) hx hb dX5_ask_41 hl (by decide) rfl (fun ls hl => ?_)
  refine lv_iload hx hb dX5_ask_43 (lv_at hl 1 rfl) ?_
  refine lv_bipush (v := 8) hx hb dX5_ask_45 (by decide) ?_
  refine lv_icmp_ne (tgt := 86) hx hb dX5_ask_47 (by decide) (fun c_6 => ?_) (fun c_6 => ?_)
  · exact absurd h8 c_6
  · refine lv_aload_n hx hb dX5_ask_50 rfl (lv_at hl 3 rfl) ?_
    refine kx_getiv hx hb htT m_u_X5 hown hK hP hx5 (Nat.le_of_ble_eq_true rfl) rfl 3 (by decide) (by decide) rfl (htT _ m_fl_X5_165) exc dX5_ask_51 ?_
    refine lv_bipush (v := 100) hx hb dX5_ask_54 (by decide) ?_
    refine lv_icmp_ge (tgt := 86) hx hb dX5_ask_56 (by decide) (fun c_7 => ?_) (fun c_7 => ?_)
    · exact absurd c_7 (Int32.not_le.mpr hlt)
    · replace c_7 := Int32.not_le.mp c_7
      refine lv_aload hx hb dX5_ask_59 (lv_at hl 2 rfl) ?_
      refine lv_iload_n hx hb dX5_ask_61 rfl (lv_at hl 5 rfl) ?_
      refine kc_q (va_runV (As := [.int p1]) (rest := []) ⟨hx, hb, hml, hown, htT⟩ (c_armOf l D cA _ (cBec S ak p1 p2 p3) a (hR.2 j hj a hja).1.1 cn hch p1) (cwV 1 htT (kg_V m_ml_X5_168 m_im_X3_armOf m_sl_X3_armOf m_in_X3 m_cd_X3_armOf) rfl rfl rfl (by decide +kernel) ⟨Nat.le_of_ble_eq_true rfl, Nat.le_of_ble_eq_true rfl⟩) (kp_V hK hP hD hTB (kp_rc hK hP ((hR.2 j hj a hja).1.1) (Nat.le_of_ble_eq_true rfl) rfl)) rfl rfl hl.1 rfl (lv_room (Nat.le_of_ble_eq_true rfl)) dX5_ask_62 ⟨Nat.le_of_ble_eq_true rfl, Nat.le_of_ble_eq_true rfl⟩) hD hS hA (fun r_8 x_8 H locs hq_8 hP hD hS => ?_)
      rw [hq_8.1.trans (earm _)]
      rw [hq_8.2] at hP hD
      rw [harm]
      refine lv_ifnonnullN hx hb dX5_ask_65 ?_
      refine lv_aload hx hb dX5_ask_68 (lv_at hl 2 rfl) ?_
      refine lv_iload_n hx hb dX5_ask_70 rfl (lv_at hl 5 rfl) ?_
      refine lv_iload hx hb dX5_ask_71 (lv_at hl 0 rfl) ?_
      refine kc_v (va_runV (As := [.int p1, .int (nI v)]) (rest := []) ⟨hx, hb, hml, hown, htT⟩ (c_addArm l D cA _ (cBec S ak p1 p2 p3) a (hR.2 j hj a hja).1.1 ty hq6 hty t9 hqt ht9 p1 v hv4) (cwV 2 htT (kg_V m_ml_X5_172 m_im_X3_addArm m_sl_X3_addArm m_in_X3 m_cd_X3_addArm) rfl rfl rfl (by decide +kernel) ⟨Nat.le_of_ble_eq_true rfl, Nat.le_of_ble_eq_true rfl⟩) (kp_V hK hP hD hTB (kp_rc hK hP ((hR.2 j hj a hja).1.1) (Nat.le_of_ble_eq_true rfl) rfl)) rfl rfl hl.1 rfl (lv_room (Nat.le_of_ble_eq_true rfl)) dX5_ask_73 ⟨Nat.le_of_ble_eq_true rfl, Nat.le_of_ble_eq_true rfl⟩) hD hS hA (fun x_9 H locs hq_9 hP hD hS => ?_)
      obtain ⟨qn, hqn, en⟩ := hq_9
      have hxq : x ≠ qn := ne_new hx5.1 hqn
      have htq : t9 ≠ qn := ne_new ht9.1 hqn
      have hyq : ty ≠ qn := ne_new hty.1 hqn
      have hxa : x ≠ a := ne_of_kind hx5.2 (hR.2 j hj a hja).1.1.2 (by decide)
      have hxt : x ≠ ty := ne_of_kind hx5.2 hty.2 (by decide)
      have hyk : ty ≠ ak := ne_of_kind hty.2 hak.2 (by decide)
      have er : gR (pQ (pQ (pI (pI (pW (cBec S ak p1 p2 p3) qn 0 0) qn 0 p1) qn 1 (nI v)) qn 2 (gQ S a 7)) a 7 (some qn)) t9 v = gR S t9 v := gR_new (S := (cBec S ak p1 p2 p3)) (ki := 0) (n := 0) ht9.1 hqn
      have ey : gI (pQ (pQ (pI (pI (pW (cBec S ak p1 p2 p3) qn 0 0) qn 0 p1) qn 1 (nI v)) qn 2 (gQ S a 7)) a 7 (some qn)) ty 4 = gI S ty 4 := (u2_a hyq).trans ((u2_a hyq).trans ((gI_new (S := (cBec S ak p1 p2 p3)) (ki := 0) (n := 0) hty.1 hqn).trans ((u2_a hyk).trans ((u2_a hyk).trans ((u2_a hyk).trans ((u2_a hyk).trans (u2_a hyk)))))))
      rw [er, ey] at en
      rw [en] at hP hD
      have ex3 : gI (pI (pR (pQ (pQ (pI (pI (pW (cBec S ak p1 p2 p3) qn 0 0) qn 0 p1) qn 1 (nI v)) qn 2 (gQ S a 7)) a 7 (some qn)) t9 v (gR S t9 v + 1)) ty 4 (gI S ty 4 + 1)) x 3 = gI S x 3 := (u2_a hxt).trans ((u2_a hxq).trans ((u2_a hxq).trans ((gI_new (S := (cBec S ak p1 p2 p3)) (ki := 0) (n := 0) hx5.1 hqn).trans ((u2_a hxk).trans ((u2_a hxk).trans ((u2_a hxk).trans ((u2_a hxk).trans (u2_a hxk))))))))
      have hx59 : isO (pI (pR (pQ (pQ (pI (pI (pW (cBec S ak p1 p2 p3) qn 0 0) qn 0 p1) qn 1 (nI v)) qn 2 (gQ S a 7)) a 7 (some qn)) t9 v (gR S t9 v + 1)) ty 4 (gI S ty 4 + 1)) x 5 := isO_new (S := (cBec S ak p1 p2 p3)) (ki := 0) (n := 0) hx5 hqn
      refine lv_aload_n hx hb dX5_ask_76 rfl (lv_at hl 3 rfl) ?_
      refine lv_dup hx hb dX5_ask_77 rfl ?_
      refine kx_getiv hx hb htT m_u_X5 hown hK hP hx59 (Nat.le_of_ble_eq_true rfl) rfl 3 (by decide) (by decide) rfl (htT _ m_fl_X5_165) ex3 dX5_ask_78 ?_
      refine lv_iconst (v := 1) hx hb dX5_ask_81 (by decide) ?_
      refine lv_iadd hx hb dX5_ask_82 ?_
      refine kx_puti (ty := .int) hx hb htT m_u_X5 tyX5 tyX5_ok nmX5 hown hK hP hD hS hx59 (Nat.le_of_ble_eq_true rfl) rfl 3 (by decide) (by decide) rfl (htT _ m_fl_X5_165) rfl (by decide +kernel) rfl rfl dX5_ask_83 (fun H locs hP hD hS => ?_)
      refine lv_iload hx hb dX5_ask_86 (lv_at hl 0 rfl) ?_
      exact W.iret (v := nI v) hx hb hr (fun t ht hW => ⟨⟨nI v, pI (pI (pR (pQ (pQ (pI (pI (pW (cBec S ak p1 p2 p3) qn 0 0) qn 0 p1) qn 1 (nI v)) qn 2 (gQ S a 7)) a 7 (some qn)) t9 v (gR S t9 v + 1)) ty 4 (gI S ty 4 + 1)) x 3 ((gI S x 3) + 1), rfl, ⟨rfl, qn, ty, t9, hqn, hq6, hqt, rfl⟩, by rw [ht]; exact hP, va_K.moved hW.alike hK, hD⟩, hS.F ht⟩) hS.2.2 dX5_ask_88

