set_option maxRecDepth 100000 in
set_option maxHeartbeats 4000000 in
/-- Asker() -/
theorem c_Asker_init (l : Launch) (D : va_G) (cA : Nat → ClassId) (sz : Nat) (S : Pool) (a : Nat) (ho : isO S a 1) : Met l yX1_init (Cond.code yX1_init cX1_init 1 none :: TT) ({ frames := 1, cells := 0, slots := 0, locals := 12 }) (va_Pc [.ref a] (kPre D cA (PW cA S) sz)) (va_Qv (fun (x_ : Pool) => x_ = pI (pI S a 3 (-1)) a 4 (-1)) (fun x_ => kB D cA (va_A (PW cA S) sz) (PW cA x_)) (va_A (PW cA S) sz)) 0 0 (va_A (PW cA S) sz) := by
  refine Met.ofW (cc := cX1_init) (maxL := 1) (ret := none) (by decide) rfl ?_
  intro p e s m args below meth c s₁ B hml hv
  obtain ⟨rfl, hsz, hP, hK, hD0, hTB⟩ := hv
  have hx := B.exec
  have hb := B.bytes
  have hr := B.returns
  have hts := atoms_spec (ws := Cond.code yX1_init cX1_init 1 none :: TT) B.pre
  have htT : ∀ w ∈ TT, w.before _ s = true := fun w h => hts w (List.mem_cons_of_mem _ h)
  have hown : s.vm.findClass RX1 = some m.cls := findClass_of_methodNamed B.named
  have hlocks := B.notSynchronized
  have hin : meth.name = "<init>" := (name_of_methodNamed B.named B.method).1
  subst hsz
  have hD := hD0.self (sz := s.heap.size)
  generalize hAe : va_A (PW cA S) s.heap.size = A at hD ⊢
  have hA : ∀ q : Nat, s.heap.size ≤ q → A q := fun q h => by rw [← hAe]; exact Or.inr h
  have hS : va_S A s.heap s.heap [] := va_S.rf
  have hl := lv_entry ([.ref a]) (n := 1) (Nat.le_of_ble_eq_true rfl)
  rw [lg_entry_eq]
  generalize (lg_sl ([.ref a]) ++ List.replicate (1 - (lg_sl ([.ref a])).length) Slot.unset).toArray = ls at hl ⊢
  have hl : lv_has ls 1 [(0, .ref a)] := hl
  refine lv_aload_n hx hb dX1_init_0 rfl (lv_at hl 0 rfl) ?_
  refine W.objInit hx hb hown (htT _ m_ml_X1_3) (htT _ m_im_objectInit) (htT _ m_cd_objectInit) rfl (hl.1.trans hml.symm) rfl dX1_init_1 (Nat.le_of_ble_eq_true rfl) (Nat.le_of_ble_eq_true rfl) ?_
  refine lv_aload_n hx hb dX1_init_4 rfl (lv_at hl 0 rfl) ?_
  refine lv_iconst (v := (-1)) hx hb dX1_init_5 (by decide) ?_
  refine kx_puti (ty := .int) hx hb htT m_u_X1 tyX1 tyX1_ok nmX1 hown hK hP hD hS ho (Nat.le_of_ble_eq_true rfl) rfl 3 (by decide) (by decide) rfl (htT _ m_fl_X1_9) rfl (by decide +kernel) rfl rfl dX1_init_6 (fun H locs hP hD hS => ?_)
  refine lv_aload_n hx hb dX1_init_9 rfl (lv_at hl 0 rfl) ?_
  refine lv_iconst (v := (-1)) hx hb dX1_init_10 (by decide) ?_
  refine kx_puti (ty := .int) hx hb htT m_u_X1 tyX1 tyX1_ok nmX1 hown hK hP hD hS ho (Nat.le_of_ble_eq_true rfl) rfl 4 (by decide) (by decide) rfl (htT _ m_fl_X1_15) rfl (by decide +kernel) rfl rfl dX1_init_11 (fun H locs hP hD hS => ?_)
  exact W.vret hx hb hr (fun t ht hW => ⟨⟨pI (pI S a 3 (-1)) a 4 (-1), rfl, rfl, by rw [ht]; exact hP, va_K.moved hW.alike hK, hD⟩, hS.F ht⟩) hS.2.2 dX1_init_14

set_option maxRecDepth 100000 in
set_option maxHeartbeats 4000000 in
/-- DaybreakFlags() -/
theorem c_init (l : Launch) (D : va_G) (cA : Nat → ClassId) (sz : Nat) (S : Pool) (x : Nat) (ho : isO S x 5) : Met l yX5_init (Cond.code yX5_init cX5_init 1 none :: TT) ({ frames := 2, cells := 2, slots := 14, locals := 32 }) (va_Pc [.ref x] (kPre D cA (PW cA S) sz)) (va_Qv (fun (x_ : Pool) => ∃ ar ak, ar ∉ gL S ∧ ak ∉ gL (pQ (pW S ar 22 8) x 0 (some ar)) ∧ x_ = pQ (pI (pI (pW (pQ (pW S ar 22 8) x 0 (some ar)) ak 1 0) ak 3 (-1)) ak 4 (-1)) x 1 (some ak)) (fun x_ => kB D cA (va_A (PW cA S) sz) (PW cA x_)) (va_A (PW cA S) sz)) 2 14 (va_A (PW cA S) sz) := by
  refine Met.ofW (cc := cX5_init) (maxL := 1) (ret := none) (by decide) rfl ?_
  intro p e s m args below meth c s₁ B hml hv
  obtain ⟨rfl, hsz, hP, hK, hD0, hTB⟩ := hv
  have hx := B.exec
  have hb := B.bytes
  have hr := B.returns
  have hts := atoms_spec (ws := Cond.code yX5_init cX5_init 1 none :: TT) B.pre
  have htT : ∀ w ∈ TT, w.before _ s = true := fun w h => hts w (List.mem_cons_of_mem _ h)
  have hown : s.vm.findClass RX5 = some m.cls := findClass_of_methodNamed B.named
  have hlocks := B.notSynchronized
  have hin : meth.name = "<init>" := (name_of_methodNamed B.named B.method).1
  subst hsz
  have hD := hD0.self (sz := s.heap.size)
  generalize hAe : va_A (PW cA S) s.heap.size = A at hD ⊢
  have hA : ∀ q : Nat, s.heap.size ≤ q → A q := fun q h => by rw [← hAe]; exact Or.inr h
  have hS : va_S A s.heap s.heap [] := va_S.rf
  have hl := lv_entry ([.ref x]) (n := 1) (Nat.le_of_ble_eq_true rfl)
  rw [lg_entry_eq]
  generalize (lg_sl ([.ref x]) ++ List.replicate (1 - (lg_sl ([.ref x])).length) Slot.unset).toArray = ls at hl ⊢
  have hl : lv_has ls 1 [(0, .ref x)] := hl
  refine lv_aload_n hx hb dX5_init_0 rfl (lv_at hl 0 rfl) ?_
  refine W.objInit hx hb hown (htT _ m_ml_X5_1) (htT _ m_im_objectInit) (htT _ m_cd_objectInit) rfl (hl.1.trans hml.symm) rfl dX5_init_1 (Nat.le_of_ble_eq_true rfl) (Nat.le_of_ble_eq_true rfl) ?_
  refine lv_aload_n hx hb dX5_init_4 rfl (lv_at hl 0 rfl) ?_
  refine lv_bipush (v := 8) hx hb dX5_init_5 (by decide) ?_
  refine kx_news (n := 8) (N' := 8) hx hb hown (htT _ m_cl_X5_9) hTB.2.2 hK hP hD hS hA (by decide) (by decide) (Nat.le_of_ble_eq_true rfl) (Nat.le_of_ble_eq_true rfl) (Nat.le_of_ble_eq_true rfl) dX5_init_7 (fun q_1 H hq_1 hP hD hS => ?_)
  have ho_2 : isO (pW S q_1 22 8) x 5 := isO_new ho hq_1
  refine kx_putrF (ty := (.array (.object "DaybreakFlags$Switch"))) (r := (some q_1)) hx hb htT m_u_X5 tyX5 tyX5_ok nmX5 hown hK hP hD hS ho_2 (Nat.le_of_ble_eq_true rfl) rfl 0 (by decide) (by decide) rfl (htT _ m_fl_X5_11) rfl hin rfl (by decide +kernel) rfl rfl dX5_init_10 (fun H locs hP hD hS => ?_)
  refine lv_aload_n hx hb dX5_init_13 rfl (lv_at hl 0 rfl) ?_
  refine kx_new (ci := 1) hx hb htT m_u_X1 tyX1 tyX1_ok hown (htT _ m_cl_X5_15) (htT _ m_nw_X1) (htT _ m_in_X1) hK hP hD hS hA (Nat.le_of_ble_eq_true rfl) rfl rfl (by decide) (Nat.le_of_ble_eq_true rfl) (Nat.le_of_ble_eq_true rfl) dX5_init_14 (fun q_3 H hq_3 hP hD hS => ?_)
  have ho_4 : isO (pW (pQ (pW S q_1 22 8) x 0 (some q_1)) q_3 1 0) x 5 := isO_new ho_2 hq_3
  have ha_5 : isA (pW (pQ (pW S q_1 22 8) x 0 (some q_1)) q_3 1 0) q_1 22 8 := isA_new isA_q hq_3
  have hr_6 : gQ (pW (pQ (pW S q_1 22 8) x 0 (some q_1)) q_3 1 0) x 0 = some q_1 := (gQ_new (S := (pQ (pW S q_1 22 8) x 0 (some q_1))) (q := q_3) (ho_2).1 hq_3).trans u2_s
  refine lv_dup hx hb dX5_init_17 rfl ?_
  refine kc_v (va_runIN (As := []) (rest := [.ref q_3, .ref x]) ⟨hx, hb, hml, hown, htT⟩ (c_Asker_init l D cA _ (pW (pQ (pW S q_1 22 8) x 0 (some q_1)) q_3 1 0) q_3 isO_q) (⟨va_cnB 0 htT (kg_I m_cd_X1_init) rfl rfl rfl (hTB.1 _ m_ml_X5_17) (htT _ m_in_X1) (by decide +kernel) ⟨Nat.le_of_ble_eq_true rfl, Nat.le_of_ble_eq_true rfl⟩, rfl, htT _ m_im_X1_init⟩) (kp_S hK hP hD hTB) rfl rfl hl.1 rfl (lv_room (Nat.le_of_ble_eq_true rfl)) dX5_init_18 ⟨Nat.le_of_ble_eq_true rfl, Nat.le_of_ble_eq_true rfl⟩) hD hS hA (fun x_7 H locs hq_7 hP hD hS => ?_)
  rw [hq_7] at hP hD
  refine kx_putrF (ty := (.object "DaybreakFlags$Asker")) (r := (some q_3)) hx hb htT m_u_X5 tyX5 tyX5_ok nmX5 hown hK hP hD hS ho_4 (Nat.le_of_ble_eq_true rfl) rfl 1 (by decide) (by decide) rfl (htT _ m_fl_X5_18) rfl hin rfl (by decide +kernel) rfl rfl dX5_init_21 (fun H locs hP hD hS => ?_)
  have hr_8 : gQ (pQ (pI (pI (pW (pQ (pW S q_1 22 8) x 0 (some q_1)) q_3 1 0) q_3 3 (-1)) q_3 4 (-1)) x 1 (some q_3)) x 0 = some q_1 := (u2_k (by decide)).trans hr_6
  exact W.vret hx hb hr (fun t ht hW => ⟨⟨pQ (pI (pI (pW (pQ (pW S q_1 22 8) x 0 (some q_1)) q_3 1 0) q_3 3 (-1)) q_3 4 (-1)) x 1 (some q_3), rfl, ⟨q_1, q_3, hq_1, hq_3, rfl⟩, by rw [ht]; exact hP, va_K.moved hW.alike hK, hD⟩, hS.F ht⟩) hS.2.2 dX5_init_24

set_option maxRecDepth 100000 in
set_option maxHeartbeats 4000000 in
/-- Tally() -/
theorem c_Tally_init (l : Launch) (D : va_G) (cA : Nat → ClassId) (sz : Nat) (S : Pool) (a : Nat) (ho : isO S a 4) : Met l yX4_init (Cond.code yX4_init cX4_init 1 none :: TT) ({ frames := 1, cells := 4, slots := 16, locals := 12 }) (va_Pc [.ref a] (kPre D cA (PW cA S) sz)) (va_Qv (fun (x_ : Pool) => ∃ q_1 q_3 q_8 q_16, q_1 ∉ gL S ∧ q_3 ∉ gL (pQ (pW S q_1 10 4) a 0 (some q_1)) ∧ q_8 ∉ gL (pQ (pW (pQ (pW S q_1 10 4) a 0 (some q_1)) q_3 11 4) a 1 (some q_3)) ∧ q_16 ∉ gL (pQ (pW (pQ (pW (pQ (pW S q_1 10 4) a 0 (some q_1)) q_3 11 4) a 1 (some q_3)) q_8 12 4) a 2 (some q_8)) ∧ x_ = pQ (pW (pQ (pW (pQ (pW (pQ (pW S q_1 10 4) a 0 (some q_1)) q_3 11 4) a 1 (some q_3)) q_8 12 4) a 2 (some q_8)) q_16 20 4) a 3 (some q_16)) (fun x_ => kB D cA (va_A (PW cA S) sz) (PW cA x_)) (va_A (PW cA S) sz)) 4 16 (va_A (PW cA S) sz) := by
  refine Met.ofW (cc := cX4_init) (maxL := 1) (ret := none) (by decide) rfl ?_
  intro p e s m args below meth c s₁ B hml hv
  obtain ⟨rfl, hsz, hP, hK, hD0, hTB⟩ := hv
  have hx := B.exec
  have hb := B.bytes
  have hr := B.returns
  have hts := atoms_spec (ws := Cond.code yX4_init cX4_init 1 none :: TT) B.pre
  have htT : ∀ w ∈ TT, w.before _ s = true := fun w h => hts w (List.mem_cons_of_mem _ h)
  have hown : s.vm.findClass RX4 = some m.cls := findClass_of_methodNamed B.named
  have hlocks := B.notSynchronized
  have hin : meth.name = "<init>" := (name_of_methodNamed B.named B.method).1
  subst hsz
  have hD := hD0.self (sz := s.heap.size)
  generalize hAe : va_A (PW cA S) s.heap.size = A at hD ⊢
  have hA : ∀ q : Nat, s.heap.size ≤ q → A q := fun q h => by rw [← hAe]; exact Or.inr h
  have hS : va_S A s.heap s.heap [] := va_S.rf
  have hl := lv_entry ([.ref a]) (n := 1) (Nat.le_of_ble_eq_true rfl)
  rw [lg_entry_eq]
  generalize (lg_sl ([.ref a]) ++ List.replicate (1 - (lg_sl ([.ref a])).length) Slot.unset).toArray = ls at hl ⊢
  have hl : lv_has ls 1 [(0, .ref a)] := hl
  refine lv_aload_n hx hb dX4_init_0 rfl (lv_at hl 0 rfl) ?_
  refine W.objInit hx hb hown (htT _ m_ml_X4_3) (htT _ m_im_objectInit) (htT _ m_cd_objectInit) rfl (hl.1.trans hml.symm) rfl dX4_init_1 (Nat.le_of_ble_eq_true rfl) (Nat.le_of_ble_eq_true rfl) ?_
  refine lv_aload_n hx hb dX4_init_4 rfl (lv_at hl 0 rfl) ?_
  refine lv_iconst (v := 4) hx hb dX4_init_5 (by decide) ?_
  refine kx_newi (n := 4) (N' := 4) hx hb (htT _ m_ar_int) hK hP hD hS hA 10 (Nat.le_of_ble_eq_true rfl) (Nat.le_of_ble_eq_true rfl) (by decide) (by decide) (Nat.le_of_ble_eq_true rfl) (Nat.le_of_ble_eq_true rfl) (Nat.le_of_ble_eq_true rfl) dX4_init_6 (fun q_1 H hq_1 hP hD hS => ?_)
  have ho_2 : isO (pW S q_1 10 4) a 4 := isO_new ho hq_1
  refine kx_putrF (ty := (.array .int)) (r := (some q_1)) hx hb htT m_u_X4 tyX4 tyX4_ok nmX4 hown hK hP hD hS ho_2 (Nat.le_of_ble_eq_true rfl) rfl 0 (by decide) (by decide) rfl (htT _ m_fl_X4_9) rfl hin rfl (by decide +kernel) rfl rfl dX4_init_8 (fun H locs hP hD hS => ?_)
  refine lv_aload_n hx hb dX4_init_11 rfl (lv_at hl 0 rfl) ?_
  refine lv_iconst (v := 4) hx hb dX4_init_12 (by decide) ?_
  refine kx_newi (n := 4) (N' := 4) hx hb (htT _ m_ar_int) hK hP hD hS hA 11 (Nat.le_of_ble_eq_true rfl) (Nat.le_of_ble_eq_true rfl) (by decide) (by decide) (Nat.le_of_ble_eq_true rfl) (Nat.le_of_ble_eq_true rfl) (Nat.le_of_ble_eq_true rfl) dX4_init_13 (fun q_3 H hq_3 hP hD hS => ?_)
  have ho_4 : isO (pW (pQ (pW S q_1 10 4) a 0 (some q_1)) q_3 11 4) a 4 := isO_new ho_2 hq_3
  have ha_5 : isA (pW (pQ (pW S q_1 10 4) a 0 (some q_1)) q_3 11 4) q_1 10 4 := isA_new isA_q hq_3
  have hr_6 : gQ (pW (pQ (pW S q_1 10 4) a 0 (some q_1)) q_3 11 4) a 0 = some q_1 := (gQ_new (S := (pQ (pW S q_1 10 4) a 0 (some q_1))) (q := q_3) (ho_2).1 hq_3).trans u2_s
  refine kx_putrF (ty := (.array .int)) (r := (some q_3)) hx hb htT m_u_X4 tyX4 tyX4_ok nmX4 hown hK hP hD hS ho_4 (Nat.le_of_ble_eq_true rfl) rfl 1 (by decide) (by decide) rfl (htT _ m_fl_X4_15) rfl hin rfl (by decide +kernel) rfl rfl dX4_init_15 (fun H locs hP hD hS => ?_)
  have hr_7 : gQ (pQ (pW (pQ (pW S q_1 10 4) a 0 (some q_1)) q_3 11 4) a 1 (some q_3)) a 0 = some q_1 := (u2_k (by decide)).trans hr_6
  refine lv_aload_n hx hb dX4_init_18 rfl (lv_at hl 0 rfl) ?_
  refine lv_iconst (v := 4) hx hb dX4_init_19 (by decide) ?_
  refine kx_newi (n := 4) (N' := 4) hx hb (htT _ m_ar_int) hK hP hD hS hA 12 (Nat.le_of_ble_eq_true rfl) (Nat.le_of_ble_eq_true rfl) (by decide) (by decide) (Nat.le_of_ble_eq_true rfl) (Nat.le_of_ble_eq_true rfl) (Nat.le_of_ble_eq_true rfl) dX4_init_20 (fun q_8 H hq_8 hP hD hS => ?_)
  have ho_9 : isO (pW (pQ (pW (pQ (pW S q_1 10 4) a 0 (some q_1)) q_3 11 4) a 1 (some q_3)) q_8 12 4) a 4 := isO_new ho_4 hq_8
  have ha_10 : isA (pW (pQ (pW (pQ (pW S q_1 10 4) a 0 (some q_1)) q_3 11 4) a 1 (some q_3)) q_8 12 4) q_1 10 4 := isA_new ha_5 hq_8
  have ha_11 : isA (pW (pQ (pW (pQ (pW S q_1 10 4) a 0 (some q_1)) q_3 11 4) a 1 (some q_3)) q_8 12 4) q_3 11 4 := isA_new isA_q hq_8
  have hr_12 : gQ (pW (pQ (pW (pQ (pW S q_1 10 4) a 0 (some q_1)) q_3 11 4) a 1 (some q_3)) q_8 12 4) a 0 = some q_1 := (gQ_new (S := (pQ (pW (pQ (pW S q_1 10 4) a 0 (some q_1)) q_3 11 4) a 1 (some q_3))) (q := q_8) (ho_4).1 hq_8).trans hr_7
  have hr_13 : gQ (pW (pQ (pW (pQ (pW S q_1 10 4) a 0 (some q_1)) q_3 11 4) a 1 (some q_3)) q_8 12 4) a 1 = some q_3 := (gQ_new (S := (pQ (pW (pQ (pW S q_1 10 4) a 0 (some q_1)) q_3 11 4) a 1 (some q_3))) (q := q_8) (ho_4).1 hq_8).trans u2_s
  refine kx_putrF (ty := (.array .int)) (r := (some q_8)) hx hb htT m_u_X4 tyX4 tyX4_ok nmX4 hown hK hP hD hS ho_9 (Nat.le_of_ble_eq_true rfl) rfl 2 (by decide) (by decide) rfl (htT _ m_fl_X4_18) rfl hin rfl (by decide +kernel) rfl rfl dX4_init_22 (fun H locs hP hD hS => ?_)
  have hr_14 : gQ (pQ (pW (pQ (pW (pQ (pW S q_1 10 4) a 0 (some q_1)) q_3 11 4) a 1 (some q_3)) q_8 12 4) a 2 (some q_8)) a 0 = some q_1 := (u2_k (by decide)).trans hr_12
  have hr_15 : gQ (pQ (pW (pQ (pW (pQ (pW S q_1 10 4) a 0 (some q_1)) q_3 11 4) a 1 (some q_3)) q_8 12 4) a 2 (some q_8)) a 1 = some q_3 := (u2_k (by decide)).trans hr_13
  refine lv_aload_n hx hb dX4_init_25 rfl (lv_at hl 0 rfl) ?_
  refine lv_iconst (v := 4) hx hb dX4_init_26 (by decide) ?_
  refine kx_newj (n := 4) (N' := 4) hx hb (htT _ m_ar_long) hK hP hD hS hA (by decide) (by decide) (Nat.le_of_ble_eq_true rfl) (Nat.le_of_ble_eq_true rfl) (Nat.le_of_ble_eq_true rfl) dX4_init_27 (fun q_16 H hq_16 hP hD hS => ?_)
  have ho_17 : isO (pW (pQ (pW (pQ (pW (pQ (pW S q_1 10 4) a 0 (some q_1)) q_3 11 4) a 1 (some q_3)) q_8 12 4) a 2 (some q_8)) q_16 20 4) a 4 := isO_new ho_9 hq_16
  have ha_18 : isA (pW (pQ (pW (pQ (pW (pQ (pW S q_1 10 4) a 0 (some q_1)) q_3 11 4) a 1 (some q_3)) q_8 12 4) a 2 (some q_8)) q_16 20 4) q_1 10 4 := isA_new ha_10 hq_16
  have ha_19 : isA (pW (pQ (pW (pQ (pW (pQ (pW S q_1 10 4) a 0 (some q_1)) q_3 11 4) a 1 (some q_3)) q_8 12 4) a 2 (some q_8)) q_16 20 4) q_3 11 4 := isA_new ha_11 hq_16
  have ha_20 : isA (pW (pQ (pW (pQ (pW (pQ (pW S q_1 10 4) a 0 (some q_1)) q_3 11 4) a 1 (some q_3)) q_8 12 4) a 2 (some q_8)) q_16 20 4) q_8 12 4 := isA_new isA_q hq_16
  have hr_21 : gQ (pW (pQ (pW (pQ (pW (pQ (pW S q_1 10 4) a 0 (some q_1)) q_3 11 4) a 1 (some q_3)) q_8 12 4) a 2 (some q_8)) q_16 20 4) a 0 = some q_1 := (gQ_new (S := (pQ (pW (pQ (pW (pQ (pW S q_1 10 4) a 0 (some q_1)) q_3 11 4) a 1 (some q_3)) q_8 12 4) a 2 (some q_8))) (q := q_16) (ho_9).1 hq_16).trans hr_14
  have hr_22 : gQ (pW (pQ (pW (pQ (pW (pQ (pW S q_1 10 4) a 0 (some q_1)) q_3 11 4) a 1 (some q_3)) q_8 12 4) a 2 (some q_8)) q_16 20 4) a 1 = some q_3 := (gQ_new (S := (pQ (pW (pQ (pW (pQ (pW S q_1 10 4) a 0 (some q_1)) q_3 11 4) a 1 (some q_3)) q_8 12 4) a 2 (some q_8))) (q := q_16) (ho_9).1 hq_16).trans hr_15
  have hr_23 : gQ (pW (pQ (pW (pQ (pW (pQ (pW S q_1 10 4) a 0 (some q_1)) q_3 11 4) a 1 (some q_3)) q_8 12 4) a 2 (some q_8)) q_16 20 4) a 2 = some q_8 := (gQ_new (S := (pQ (pW (pQ (pW (pQ (pW S q_1 10 4) a 0 (some q_1)) q_3 11 4) a 1 (some q_3)) q_8 12 4) a 2 (some q_8))) (q := q_16) (ho_9).1 hq_16).trans u2_s
  refine kx_putrF (ty := (.array .long)) (r := (some q_16)) hx hb htT m_u_X4 tyX4 tyX4_ok nmX4 hown hK hP hD hS ho_17 (Nat.le_of_ble_eq_true rfl) rfl 3 (by decide) (by decide) rfl (htT _ m_fl_X4_21) rfl hin rfl (by decide +kernel) rfl rfl dX4_init_29 (fun H locs hP hD hS => ?_)
  have hr_24 : gQ (pQ (pW (pQ (pW (pQ (pW (pQ (pW S q_1 10 4) a 0 (some q_1)) q_3 11 4) a 1 (some q_3)) q_8 12 4) a 2 (some q_8)) q_16 20 4) a 3 (some q_16)) a 0 = some q_1 := (u2_k (by decide)).trans hr_21
  have hr_25 : gQ (pQ (pW (pQ (pW (pQ (pW (pQ (pW S q_1 10 4) a 0 (some q_1)) q_3 11 4) a 1 (some q_3)) q_8 12 4) a 2 (some q_8)) q_16 20 4) a 3 (some q_16)) a 1 = some q_3 := (u2_k (by decide)).trans hr_22
  have hr_26 : gQ (pQ (pW (pQ (pW (pQ (pW (pQ (pW S q_1 10 4) a 0 (some q_1)) q_3 11 4) a 1 (some q_3)) q_8 12 4) a 2 (some q_8)) q_16 20 4) a 3 (some q_16)) a 2 = some q_8 := (u2_k (by decide)).trans hr_23
  exact W.vret hx hb hr (fun t ht hW => ⟨⟨pQ (pW (pQ (pW (pQ (pW (pQ (pW S q_1 10 4) a 0 (some q_1)) q_3 11 4) a 1 (some q_3)) q_8 12 4) a 2 (some q_8)) q_16 20 4) a 3 (some q_16), rfl, ⟨q_1, q_3, q_8, q_16, hq_1, hq_3, hq_8, hq_16, rfl⟩, by rw [ht]; exact hP, va_K.moved hW.alike hK, hD⟩, hS.F ht⟩) hS.2.2 dX4_init_32

set_option maxRecDepth 100000 in
set_option maxHeartbeats 4000000 in
/-- Switch(..) -/
theorem c_Switch_init (l : Launch) (D : va_G) (cA : Nat → ClassId) (sz : Nat) (S : Pool) (a : Nat) (ho : isO S a 3) (p0 p1 p2 p3 : Int32) (hz : p3 = 0 ∨ p3 = 1) : Met l yX3_init (Cond.code yX3_init cX3_init 5 none :: TT) ({ frames := 2, cells := 7, slots := 30, locals := 32 }) (va_Pc [.ref a, .int p0, .int p1, .int p2, .int p3] (kPre D cA (PW cA S) sz)) (va_Qv (fun (x_ : Pool) => ∃ q_1 q_3 q_8 q_1_14 q_3_14 q_8_14 q_16_14, q_1 ∉ gL S ∧ q_3 ∉ gL (pQ (pW S q_1 6 4) a 4 (some q_1)) ∧ q_8 ∉ gL (pQ (pW (pQ (pW S q_1 6 4) a 4 (some q_1)) q_3 21 5) a 5 (some q_3)) ∧ q_1_14 ∉ gL (pW (pQ (pW (pQ (pW S q_1 6 4) a 4 (some q_1)) q_3 21 5) a 5 (some q_3)) q_8 4 0) ∧ q_3_14 ∉ gL (pQ (pW (pW (pQ (pW (pQ (pW S q_1 6 4) a 4 (some q_1)) q_3 21 5) a 5 (some q_3)) q_8 4 0) q_1_14 10 4) q_8 0 (some q_1_14)) ∧ q_8_14 ∉ gL (pQ (pW (pQ (pW (pW (pQ (pW (pQ (pW S q_1 6 4) a 4 (some q_1)) q_3 21 5) a 5 (some q_3)) q_8 4 0) q_1_14 10 4) q_8 0 (some q_1_14)) q_3_14 11 4) q_8 1 (some q_3_14)) ∧ q_16_14 ∉ gL (pQ (pW (pQ (pW (pQ (pW (pW (pQ (pW (pQ (pW S q_1 6 4) a 4 (some q_1)) q_3 21 5) a 5 (some q_3)) q_8 4 0) q_1_14 10 4) q_8 0 (some q_1_14)) q_3_14 11 4) q_8 1 (some q_3_14)) q_8_14 12 4) q_8 2 (some q_8_14)) ∧ x_ = pR (pI (pI (pI (pI (pI (pI (pI (pQ (pQ (pW (pQ (pW (pQ (pW (pQ (pW (pW (pQ (pW (pQ (pW S q_1 6 4) a 4 (some q_1)) q_3 21 5) a 5 (some q_3)) q_8 4 0) q_1_14 10 4) q_8 0 (some q_1_14)) q_3_14 11 4) q_8 1 (some q_3_14)) q_8_14 12 4) q_8 2 (some q_8_14)) q_16_14 20 4) q_8 3 (some q_16_14)) a 6 (some q_8)) a 10 1000) a 13 (-1)) a 16 (-1)) a 0 p0) a 1 p1) a 2 p2) a 3 p3) q_1 ((0 : Int32).toNatClampNeg) 1000) (fun x_ => kB D cA (va_A (PW cA S) sz) (PW cA x_)) (va_A (PW cA S) sz)) 7 30 (va_A (PW cA S) sz) := by
  refine Met.ofW (cc := cX3_init) (maxL := 5) (ret := none) (by decide) rfl ?_
  intro p e s m args below meth c s₁ B hml hv
  obtain ⟨rfl, hsz, hP, hK, hD0, hTB⟩ := hv
  have hx := B.exec
  have hb := B.bytes
  have hr := B.returns
  have hts := atoms_spec (ws := Cond.code yX3_init cX3_init 5 none :: TT) B.pre
  have htT : ∀ w ∈ TT, w.before _ s = true := fun w h => hts w (List.mem_cons_of_mem _ h)
  have hown : s.vm.findClass RX3 = some m.cls := findClass_of_methodNamed B.named
  have hlocks := B.notSynchronized
  have hin : meth.name = "<init>" := (name_of_methodNamed B.named B.method).1
  subst hsz
  have hD := hD0.self (sz := s.heap.size)
  generalize hAe : va_A (PW cA S) s.heap.size = A at hD ⊢
  have hA : ∀ q : Nat, s.heap.size ≤ q → A q := fun q h => by rw [← hAe]; exact Or.inr h
  have hS : va_S A s.heap s.heap [] := va_S.rf
  have hl := lv_entry ([.ref a, .int p0, .int p1, .int p2, .int p3]) (n := 5) (Nat.le_of_ble_eq_true rfl)
  rw [lg_entry_eq]
  generalize (lg_sl ([.ref a, .int p0, .int p1, .int p2, .int p3]) ++ List.replicate (5 - (lg_sl ([.ref a, .int p0, .int p1, .int p2, .int p3])).length) Slot.unset).toArray = ls at hl ⊢
  have hl : lv_has ls 5 [(0, .ref a), (1, .int p0), (2, .int p1), (3, .int p2), (4, .int p3)] := hl
  refine lv_aload_n hx hb dX3_init_0 rfl (lv_at hl 0 rfl) ?_
  refine W.objInit hx hb hown (htT _ m_ml_X3_3) (htT _ m_im_objectInit) (htT _ m_cd_objectInit) rfl (hl.1.trans hml.symm) rfl dX3_init_1 (Nat.le_of_ble_eq_true rfl) (Nat.le_of_ble_eq_true rfl) ?_
  refine lv_aload_n hx hb dX3_init_4 rfl (lv_at hl 0 rfl) ?_
  refine lv_iconst (v := 4) hx hb dX3_init_5 (by decide) ?_
  refine kx_newi (n := 4) (N' := 4) hx hb (htT _ m_ar_int) hK hP hD hS hA 6 (Nat.le_of_ble_eq_true rfl) (Nat.le_of_ble_eq_true rfl) (by decide) (by decide) (Nat.le_of_ble_eq_true rfl) (Nat.le_of_ble_eq_true rfl) (Nat.le_of_ble_eq_true rfl) dX3_init_6 (fun q_1 H hq_1 hP hD hS => ?_)
  have ho_2 : isO (pW S q_1 6 4) a 3 := isO_new ho hq_1
  refine kx_putrF (ty := (.array .int)) (r := (some q_1)) hx hb htT m_u_X3 tyX3 tyX3_ok nmX3 hown hK hP hD hS ho_2 (Nat.le_of_ble_eq_true rfl) rfl 4 (by decide) (by decide) rfl (htT _ m_fl_X3_9) rfl hin rfl (by decide +kernel) rfl rfl dX3_init_8 (fun H locs hP hD hS => ?_)
  refine lv_aload_n hx hb dX3_init_11 rfl (lv_at hl 0 rfl) ?_
  refine lv_iconst (v := 5) hx hb dX3_init_12 (by decide) ?_
  refine kx_newr (n := 5) (N' := 5) hx hb hown (htT _ m_cl_X3_15) hTB.2.1 hK hP hD hS hA (by decide) (by decide) (Nat.le_of_ble_eq_true rfl) (Nat.le_of_ble_eq_true rfl) (Nat.le_of_ble_eq_true rfl) dX3_init_13 (fun q_3 H hq_3 hP hD hS => ?_)
  have ho_4 : isO (pW (pQ (pW S q_1 6 4) a 4 (some q_1)) q_3 21 5) a 3 := isO_new ho_2 hq_3
  have ha_5 : isA (pW (pQ (pW S q_1 6 4) a 4 (some q_1)) q_3 21 5) q_1 6 4 := isA_new isA_q hq_3
  have hr_6 : gQ (pW (pQ (pW S q_1 6 4) a 4 (some q_1)) q_3 21 5) a 4 = some q_1 := (gQ_new (S := (pQ (pW S q_1 6 4) a 4 (some q_1))) (q := q_3) (ho_2).1 hq_3).trans u2_s
  refine kx_putrF (ty := (.array (.object "DaybreakFlags$Rule"))) (r := (some q_3)) hx hb htT m_u_X3 tyX3 tyX3_ok nmX3 hown hK hP hD hS ho_4 (Nat.le_of_ble_eq_true rfl) rfl 5 (by decide) (by decide) rfl (htT _ m_fl_X3_17) rfl hin rfl (by decide +kernel) rfl rfl dX3_init_16 (fun H locs hP hD hS => ?_)
  have hr_7 : gQ (pQ (pW (pQ (pW S q_1 6 4) a 4 (some q_1)) q_3 21 5) a 5 (some q_3)) a 4 = some q_1 := (u2_k (by decide)).trans hr_6
  refine lv_aload_n hx hb dX3_init_19 rfl (lv_at hl 0 rfl) ?_
  refine kx_new (ci := 4) hx hb htT m_u_X4 tyX4 tyX4_ok hown (htT _ m_cl_X3_21) (htT _ m_nw_X4) (htT _ m_in_X4) hK hP hD hS hA (Nat.le_of_ble_eq_true rfl) rfl rfl (by decide) (Nat.le_of_ble_eq_true rfl) (Nat.le_of_ble_eq_true rfl) dX3_init_20 (fun q_8 H hq_8 hP hD hS => ?_)
  have ho_9 : isO (pW (pQ (pW (pQ (pW S q_1 6 4) a 4 (some q_1)) q_3 21 5) a 5 (some q_3)) q_8 4 0) a 3 := isO_new ho_4 hq_8
  have ha_10 : isA (pW (pQ (pW (pQ (pW S q_1 6 4) a 4 (some q_1)) q_3 21 5) a 5 (some q_3)) q_8 4 0) q_1 6 4 := isA_new ha_5 hq_8
  have ha_11 : isA (pW (pQ (pW (pQ (pW S q_1 6 4) a 4 (some q_1)) q_3 21 5) a 5 (some q_3)) q_8 4 0) q_3 21 5 := isA_new isA_q hq_8
  have hr_12 : gQ (pW (pQ (pW (pQ (pW S q_1 6 4) a 4 (some q_1)) q_3 21 5) a 5 (some q_3)) q_8 4 0) a 4 = some q_1 := (gQ_new (S := (pQ (pW (pQ (pW S q_1 6 4) a 4 (some q_1)) q_3 21 5) a 5 (some q_3))) (q := q_8) (ho_4).1 hq_8).trans hr_7
  have hr_13 : gQ (pW (pQ (pW (pQ (pW S q_1 6 4) a 4 (some q_1)) q_3 21 5) a 5 (some q_3)) q_8 4 0) a 5 = some q_3 := (gQ_new (S := (pQ (pW (pQ (pW S q_1 6 4) a 4 (some q_1)) q_3 21 5) a 5 (some q_3))) (q := q_8) (ho_4).1 hq_8).trans u2_s
  refine lv_dup hx hb dX3_init_23 rfl ?_
  refine kc_v (va_runIN (As := []) (rest := [.ref q_8, .ref a]) ⟨hx, hb, hml, hown, htT⟩ (c_Tally_init l D cA _ (pW (pQ (pW (pQ (pW S q_1 6 4) a 4 (some q_1)) q_3 21 5) a 5 (some q_3)) q_8 4 0) q_8 isO_q) (⟨va_cnB 0 htT (kg_I m_cd_X4_init) rfl rfl rfl (hTB.1 _ m_ml_X3_23) (htT _ m_in_X4) (by decide +kernel) ⟨Nat.le_of_ble_eq_true rfl, Nat.le_of_ble_eq_true rfl⟩, rfl, htT _ m_im_X4_init⟩) (kp_S hK hP hD hTB) rfl rfl hl.1 rfl (lv_room (Nat.le_of_ble_eq_true rfl)) dX3_init_24 ⟨Nat.le_of_ble_eq_true rfl, Nat.le_of_ble_eq_true rfl⟩) hD hS hA (fun S_14 H locs hq_14 hP hD hS => ?_)
  obtain ⟨q_1_14, q_3_14, q_8_14, q_16_14, hq_1_14, hq_3_14, hq_8_14, hq_16_14, e_14⟩ := hq_14
  rw [e_14] at hP hD
  have ho_15 : isO (pW (pW (pQ (pW (pQ (pW S q_1 6 4) a 4 (some q_1)) q_3 21 5) a 5 (some q_3)) q_8 4 0) q_1_14 10 4) a 3 := isO_new ho_9 hq_1_14
  have ho_16 : isO (pW (pW (pQ (pW (pQ (pW S q_1 6 4) a 4 (some q_1)) q_3 21 5) a 5 (some q_3)) q_8 4 0) q_1_14 10 4) q_8 4 := isO_new isO_q hq_1_14
  have ha_17 : isA (pW (pW (pQ (pW (pQ (pW S q_1 6 4) a 4 (some q_1)) q_3 21 5) a 5 (some q_3)) q_8 4 0) q_1_14 10 4) q_1 6 4 := isA_new ha_10 hq_1_14
  have ha_18 : isA (pW (pW (pQ (pW (pQ (pW S q_1 6 4) a 4 (some q_1)) q_3 21 5) a 5 (some q_3)) q_8 4 0) q_1_14 10 4) q_3 21 5 := isA_new ha_11 hq_1_14
  have hr_19 : gQ (pW (pW (pQ (pW (pQ (pW S q_1 6 4) a 4 (some q_1)) q_3 21 5) a 5 (some q_3)) q_8 4 0) q_1_14 10 4) a 4 = some q_1 := (gQ_new (S := (pW (pQ (pW (pQ (pW S q_1 6 4) a 4 (some q_1)) q_3 21 5) a 5 (some q_3)) q_8 4 0)) (q := q_1_14) (ho_9).1 hq_1_14).trans hr_12
  have hr_20 : gQ (pW (pW (pQ (pW (pQ (pW S q_1 6 4) a 4 (some q_1)) q_3 21 5) a 5 (some q_3)) q_8 4 0) q_1_14 10 4) a 5 = some q_3 := (gQ_new (S := (pW (pQ (pW (pQ (pW S q_1 6 4) a 4 (some q_1)) q_3 21 5) a 5 (some q_3)) q_8 4 0)) (q := q_1_14) (ho_9).1 hq_1_14).trans hr_13
  have hr_21 : gQ (pQ (pW (pW (pQ (pW (pQ (pW S q_1 6 4) a 4 (some q_1)) q_3 21 5) a 5 (some q_3)) q_8 4 0) q_1_14 10 4) q_8 0 (some q_1_14)) a 4 = some q_1 := (u2_a (ne_of_kind ho_15.2 ho_16.2 (by decide))).trans hr_19
  have hr_22 : gQ (pQ (pW (pW (pQ (pW (pQ (pW S q_1 6 4) a 4 (some q_1)) q_3 21 5) a 5 (some q_3)) q_8 4 0) q_1_14 10 4) q_8 0 (some q_1_14)) a 5 = some q_3 := (u2_a (ne_of_kind ho_15.2 ho_16.2 (by decide))).trans hr_20
  have ho_23 : isO (pW (pQ (pW (pW (pQ (pW (pQ (pW S q_1 6 4) a 4 (some q_1)) q_3 21 5) a 5 (some q_3)) q_8 4 0) q_1_14 10 4) q_8 0 (some q_1_14)) q_3_14 11 4) a 3 := isO_new ho_15 hq_3_14
  have ho_24 : isO (pW (pQ (pW (pW (pQ (pW (pQ (pW S q_1 6 4) a 4 (some q_1)) q_3 21 5) a 5 (some q_3)) q_8 4 0) q_1_14 10 4) q_8 0 (some q_1_14)) q_3_14 11 4) q_8 4 := isO_new ho_16 hq_3_14
  have ha_25 : isA (pW (pQ (pW (pW (pQ (pW (pQ (pW S q_1 6 4) a 4 (some q_1)) q_3 21 5) a 5 (some q_3)) q_8 4 0) q_1_14 10 4) q_8 0 (some q_1_14)) q_3_14 11 4) q_1 6 4 := isA_new ha_17 hq_3_14
  have ha_26 : isA (pW (pQ (pW (pW (pQ (pW (pQ (pW S q_1 6 4) a 4 (some q_1)) q_3 21 5) a 5 (some q_3)) q_8 4 0) q_1_14 10 4) q_8 0 (some q_1_14)) q_3_14 11 4) q_3 21 5 := isA_new ha_18 hq_3_14
  have ha_27 : isA (pW (pQ (pW (pW (pQ (pW (pQ (pW S q_1 6 4) a 4 (some q_1)) q_3 21 5) a 5 (some q_3)) q_8 4 0) q_1_14 10 4) q_8 0 (some q_1_14)) q_3_14 11 4) q_1_14 10 4 := isA_new isA_q hq_3_14
  have hr_28 : gQ (pW (pQ (pW (pW (pQ (pW (pQ (pW S q_1 6 4) a 4 (some q_1)) q_3 21 5) a 5 (some q_3)) q_8 4 0) q_1_14 10 4) q_8 0 (some q_1_14)) q_3_14 11 4) a 4 = some q_1 := (gQ_new (S := (pQ (pW (pW (pQ (pW (pQ (pW S q_1 6 4) a 4 (some q_1)) q_3 21 5) a 5 (some q_3)) q_8 4 0) q_1_14 10 4) q_8 0 (some q_1_14))) (q := q_3_14) (ho_15).1 hq_3_14).trans hr_21
  have hr_29 : gQ (pW (pQ (pW (pW (pQ (pW (pQ (pW S q_1 6 4) a 4 (some q_1)) q_3 21 5) a 5 (some q_3)) q_8 4 0) q_1_14 10 4) q_8 0 (some q_1_14)) q_3_14 11 4) a 5 = some q_3 := (gQ_new (S := (pQ (pW (pW (pQ (pW (pQ (pW S q_1 6 4) a 4 (some q_1)) q_3 21 5) a 5 (some q_3)) q_8 4 0) q_1_14 10 4) q_8 0 (some q_1_14))) (q := q_3_14) (ho_15).1 hq_3_14).trans hr_22
  have hr_30 : gQ (pW (pQ (pW (pW (pQ (pW (pQ (pW S q_1 6 4) a 4 (some q_1)) q_3 21 5) a 5 (some q_3)) q_8 4 0) q_1_14 10 4) q_8 0 (some q_1_14)) q_3_14 11 4) q_8 0 = some q_1_14 := (gQ_new (S := (pQ (pW (pW (pQ (pW (pQ (pW S q_1 6 4) a 4 (some q_1)) q_3 21 5) a 5 (some q_3)) q_8 4 0) q_1_14 10 4) q_8 0 (some q_1_14))) (q := q_3_14) (ho_16).1 hq_3_14).trans u2_s
  have hr_31 : gQ (pQ (pW (pQ (pW (pW (pQ (pW (pQ (pW S q_1 6 4) a 4 (some q_1)) q_3 21 5) a 5 (some q_3)) q_8 4 0) q_1_14 10 4) q_8 0 (some q_1_14)) q_3_14 11 4) q_8 1 (some q_3_14)) a 4 = some q_1 := (u2_a (ne_of_kind ho_23.2 ho_24.2 (by decide))).trans hr_28
  have hr_32 : gQ (pQ (pW (pQ (pW (pW (pQ (pW (pQ (pW S q_1 6 4) a 4 (some q_1)) q_3 21 5) a 5 (some q_3)) q_8 4 0) q_1_14 10 4) q_8 0 (some q_1_14)) q_3_14 11 4) q_8 1 (some q_3_14)) a 5 = some q_3 := (u2_a (ne_of_kind ho_23.2 ho_24.2 (by decide))).trans hr_29
  have hr_33 : gQ (pQ (pW (pQ (pW (pW (pQ (pW (pQ (pW S q_1 6 4) a 4 (some q_1)) q_3 21 5) a 5 (some q_3)) q_8 4 0) q_1_14 10 4) q_8 0 (some q_1_14)) q_3_14 11 4) q_8 1 (some q_3_14)) q_8 0 = some q_1_14 := (u2_k (by decide)).trans hr_30
  have ho_34 : isO (pW (pQ (pW (pQ (pW (pW (pQ (pW (pQ (pW S q_1 6 4) a 4 (some q_1)) q_3 21 5) a 5 (some q_3)) q_8 4 0) q_1_14 10 4) q_8 0 (some q_1_14)) q_3_14 11 4) q_8 1 (some q_3_14)) q_8_14 12 4) a 3 := isO_new ho_23 hq_8_14
  have ho_35 : isO (pW (pQ (pW (pQ (pW (pW (pQ (pW (pQ (pW S q_1 6 4) a 4 (some q_1)) q_3 21 5) a 5 (some q_3)) q_8 4 0) q_1_14 10 4) q_8 0 (some q_1_14)) q_3_14 11 4) q_8 1 (some q_3_14)) q_8_14 12 4) q_8 4 := isO_new ho_24 hq_8_14
  have ha_36 : isA (pW (pQ (pW (pQ (pW (pW (pQ (pW (pQ (pW S q_1 6 4) a 4 (some q_1)) q_3 21 5) a 5 (some q_3)) q_8 4 0) q_1_14 10 4) q_8 0 (some q_1_14)) q_3_14 11 4) q_8 1 (some q_3_14)) q_8_14 12 4) q_1 6 4 := isA_new ha_25 hq_8_14
  have ha_37 : isA (pW (pQ (pW (pQ (pW (pW (pQ (pW (pQ (pW S q_1 6 4) a 4 (some q_1)) q_3 21 5) a 5 (some q_3)) q_8 4 0) q_1_14 10 4) q_8 0 (some q_1_14)) q_3_14 11 4) q_8 1 (some q_3_14)) q_8_14 12 4) q_3 21 5 := isA_new ha_26 hq_8_14
  have ha_38 : isA (pW (pQ (pW (pQ (pW (pW (pQ (pW (pQ (pW S q_1 6 4) a 4 (some q_1)) q_3 21 5) a 5 (some q_3)) q_8 4 0) q_1_14 10 4) q_8 0 (some q_1_14)) q_3_14 11 4) q_8 1 (some q_3_14)) q_8_14 12 4) q_1_14 10 4 := isA_new ha_27 hq_8_14
  have ha_39 : isA (pW (pQ (pW (pQ (pW (pW (pQ (pW (pQ (pW S q_1 6 4) a 4 (some q_1)) q_3 21 5) a 5 (some q_3)) q_8 4 0) q_1_14 10 4) q_8 0 (some q_1_14)) q_3_14 11 4) q_8 1 (some q_3_14)) q_8_14 12 4) q_3_14 11 4 := isA_new isA_q hq_8_14
  have hr_40 : gQ (pW (pQ (pW (pQ (pW (pW (pQ (pW (pQ (pW S q_1 6 4) a 4 (some q_1)) q_3 21 5) a 5 (some q_3)) q_8 4 0) q_1_14 10 4) q_8 0 (some q_1_14)) q_3_14 11 4) q_8 1 (some q_3_14)) q_8_14 12 4) a 4 = some q_1 := (gQ_new (S := (pQ (pW (pQ (pW (pW (pQ (pW (pQ (pW S q_1 6 4) a 4 (some q_1)) q_3 21 5) a 5 (some q_3)) q_8 4 0) q_1_14 10 4) q_8 0 (some q_1_14)) q_3_14 11 4) q_8 1 (some q_3_14))) (q := q_8_14) (ho_23).1 hq_8_14).trans hr_31
  have hr_41 : gQ (pW (pQ (pW (pQ (pW (pW (pQ (pW (pQ (pW S q_1 6 4) a 4 (some q_1)) q_3 21 5) a 5 (some q_3)) q_8 4 0) q_1_14 10 4) q_8 0 (some q_1_14)) q_3_14 11 4) q_8 1 (some q_3_14)) q_8_14 12 4) a 5 = some q_3 := (gQ_new (S := (pQ (pW (pQ (pW (pW (pQ (pW (pQ (pW S q_1 6 4) a 4 (some q_1)) q_3 21 5) a 5 (some q_3)) q_8 4 0) q_1_14 10 4) q_8 0 (some q_1_14)) q_3_14 11 4) q_8 1 (some q_3_14))) (q := q_8_14) (ho_23).1 hq_8_14).trans hr_32
  have hr_42 : gQ (pW (pQ (pW (pQ (pW (pW (pQ (pW (pQ (pW S q_1 6 4) a 4 (some q_1)) q_3 21 5) a 5 (some q_3)) q_8 4 0) q_1_14 10 4) q_8 0 (some q_1_14)) q_3_14 11 4) q_8 1 (some q_3_14)) q_8_14 12 4) q_8 0 = some q_1_14 := (gQ_new (S := (pQ (pW (pQ (pW (pW (pQ (pW (pQ (pW S q_1 6 4) a 4 (some q_1)) q_3 21 5) a 5 (some q_3)) q_8 4 0) q_1_14 10 4) q_8 0 (some q_1_14)) q_3_14 11 4) q_8 1 (some q_3_14))) (q := q_8_14) (ho_24).1 hq_8_14).trans hr_33
  have hr_43 : gQ (pW (pQ (pW (pQ (pW (pW (pQ (pW (pQ (pW S q_1 6 4) a 4 (some q_1)) q_3 21 5) a 5 (some q_3)) q_8 4 0) q_1_14 10 4) q_8 0 (some q_1_14)) q_3_14 11 4) q_8 1 (some q_3_14)) q_8_14 12 4) q_8 1 = some q_3_14 := (gQ_new (S := (pQ (pW (pQ (pW (pW (pQ (pW (pQ (pW S q_1 6 4) a 4 (some q_1)) q_3 21 5) a 5 (some q_3)) q_8 4 0) q_1_14 10 4) q_8 0 (some q_1_14)) q_3_14 11 4) q_8 1 (some q_3_14))) (q := q_8_14) (ho_24).1 hq_8_14).trans u2_s
  have hr_44 : gQ (pQ (pW (pQ (pW (pQ (pW (pW (pQ (pW (pQ (pW S q_1 6 4) a 4 (some q_1)) q_3 21 5) a 5 (some q_3)) q_8 4 0) q_1_14 10 4) q_8 0 (some q_1_14)) q_3_14 11 4) q_8 1 (some q_3_14)) q_8_14 12 4) q_8 2 (some q_8_14)) a 4 = some q_1 := (u2_a (ne_of_kind ho_34.2 ho_35.2 (by decide))).trans hr_40
  have hr_45 : gQ (pQ (pW (pQ (pW (pQ (pW (pW (pQ (pW (pQ (pW S q_1 6 4) a 4 (some q_1)) q_3 21 5) a 5 (some q_3)) q_8 4 0) q_1_14 10 4) q_8 0 (some q_1_14)) q_3_14 11 4) q_8 1 (some q_3_14)) q_8_14 12 4) q_8 2 (some q_8_14)) a 5 = some q_3 := (u2_a (ne_of_kind ho_34.2 ho_35.2 (by decide))).trans hr_41
  have hr_46 : gQ (pQ (pW (pQ (pW (pQ (pW (pW (pQ (pW (pQ (pW S q_1 6 4) a 4 (some q_1)) q_3 21 5) a 5 (some q_3)) q_8 4 0) q_1_14 10 4) q_8 0 (some q_1_14)) q_3_14 11 4) q_8 1 (some q_3_14)) q_8_14 12 4) q_8 2 (some q_8_14)) q_8 0 = some q_1_14 := (u2_k (by decide)).trans hr_42
  have hr_47 : gQ (pQ (pW (pQ (pW (pQ (pW (pW (pQ (pW (pQ (pW S q_1 6 4) a 4 (some q_1)) q_3 21 5) a 5 (some q_3)) q_8 4 0) q_1_14 10 4) q_8 0 (some q_1_14)) q_3_14 11 4) q_8 1 (some q_3_14)) q_8_14 12 4) q_8 2 (some q_8_14)) q_8 1 = some q_3_14 := (u2_k (by decide)).trans hr_43
  have ho_48 : isO (pW (pQ (pW (pQ (pW (pQ (pW (pW (pQ (pW (pQ (pW S q_1 6 4) a 4 (some q_1)) q_3 21 5) a 5 (some q_3)) q_8 4 0) q_1_14 10 4) q_8 0 (some q_1_14)) q_3_14 11 4) q_8 1 (some q_3_14)) q_8_14 12 4) q_8 2 (some q_8_14)) q_16_14 20 4) a 3 := isO_new ho_34 hq_16_14
  have ho_49 : isO (pW (pQ (pW (pQ (pW (pQ (pW (pW (pQ (pW (pQ (pW S q_1 6 4) a 4 (some q_1)) q_3 21 5) a 5 (some q_3)) q_8 4 0) q_1_14 10 4) q_8 0 (some q_1_14)) q_3_14 11 4) q_8 1 (some q_3_14)) q_8_14 12 4) q_8 2 (some q_8_14)) q_16_14 20 4) q_8 4 := isO_new ho_35 hq_16_14
  have ha_50 : isA (pW (pQ (pW (pQ (pW (pQ (pW (pW (pQ (pW (pQ (pW S q_1 6 4) a 4 (some q_1)) q_3 21 5) a 5 (some q_3)) q_8 4 0) q_1_14 10 4) q_8 0 (some q_1_14)) q_3_14 11 4) q_8 1 (some q_3_14)) q_8_14 12 4) q_8 2 (some q_8_14)) q_16_14 20 4) q_1 6 4 := isA_new ha_36 hq_16_14
  have ha_51 : isA (pW (pQ (pW (pQ (pW (pQ (pW (pW (pQ (pW (pQ (pW S q_1 6 4) a 4 (some q_1)) q_3 21 5) a 5 (some q_3)) q_8 4 0) q_1_14 10 4) q_8 0 (some q_1_14)) q_3_14 11 4) q_8 1 (some q_3_14)) q_8_14 12 4) q_8 2 (some q_8_14)) q_16_14 20 4) q_3 21 5 := isA_new ha_37 hq_16_14
  have ha_52 : isA (pW (pQ (pW (pQ (pW (pQ (pW (pW (pQ (pW (pQ (pW S q_1 6 4) a 4 (some q_1)) q_3 21 5) a 5 (some q_3)) q_8 4 0) q_1_14 10 4) q_8 0 (some q_1_14)) q_3_14 11 4) q_8 1 (some q_3_14)) q_8_14 12 4) q_8 2 (some q_8_14)) q_16_14 20 4) q_1_14 10 4 := isA_new ha_38 hq_16_14
  have ha_53 : isA (pW (pQ (pW (pQ (pW (pQ (pW (pW (pQ (pW (pQ (pW S q_1 6 4) a 4 (some q_1)) q_3 21 5) a 5 (some q_3)) q_8 4 0) q_1_14 10 4) q_8 0 (some q_1_14)) q_3_14 11 4) q_8 1 (some q_3_14)) q_8_14 12 4) q_8 2 (some q_8_14)) q_16_14 20 4) q_3_14 11 4 := isA_new ha_39 hq_16_14
  have ha_54 : isA (pW (pQ (pW (pQ (pW (pQ (pW (pW (pQ (pW (pQ (pW S q_1 6 4) a 4 (some q_1)) q_3 21 5) a 5 (some q_3)) q_8 4 0) q_1_14 10 4) q_8 0 (some q_1_14)) q_3_14 11 4) q_8 1 (some q_3_14)) q_8_14 12 4) q_8 2 (some q_8_14)) q_16_14 20 4) q_8_14 12 4 := isA_new isA_q hq_16_14
  have hr_55 : gQ (pW (pQ (pW (pQ (pW (pQ (pW (pW (pQ (pW (pQ (pW S q_1 6 4) a 4 (some q_1)) q_3 21 5) a 5 (some q_3)) q_8 4 0) q_1_14 10 4) q_8 0 (some q_1_14)) q_3_14 11 4) q_8 1 (some q_3_14)) q_8_14 12 4) q_8 2 (some q_8_14)) q_16_14 20 4) a 4 = some q_1 := (gQ_new (S := (pQ (pW (pQ (pW (pQ (pW (pW (pQ (pW (pQ (pW S q_1 6 4) a 4 (some q_1)) q_3 21 5) a 5 (some q_3)) q_8 4 0) q_1_14 10 4) q_8 0 (some q_1_14)) q_3_14 11 4) q_8 1 (some q_3_14)) q_8_14 12 4) q_8 2 (some q_8_14))) (q := q_16_14) (ho_34).1 hq_16_14).trans hr_44
  have hr_56 : gQ (pW (pQ (pW (pQ (pW (pQ (pW (pW (pQ (pW (pQ (pW S q_1 6 4) a 4 (some q_1)) q_3 21 5) a 5 (some q_3)) q_8 4 0) q_1_14 10 4) q_8 0 (some q_1_14)) q_3_14 11 4) q_8 1 (some q_3_14)) q_8_14 12 4) q_8 2 (some q_8_14)) q_16_14 20 4) a 5 = some q_3 := (gQ_new (S := (pQ (pW (pQ (pW (pQ (pW (pW (pQ (pW (pQ (pW S q_1 6 4) a 4 (some q_1)) q_3 21 5) a 5 (some q_3)) q_8 4 0) q_1_14 10 4) q_8 0 (some q_1_14)) q_3_14 11 4) q_8 1 (some q_3_14)) q_8_14 12 4) q_8 2 (some q_8_14))) (q := q_16_14) (ho_34).1 hq_16_14).trans hr_45
  have hr_57 : gQ (pW (pQ (pW (pQ (pW (pQ (pW (pW (pQ (pW (pQ (pW S q_1 6 4) a 4 (some q_1)) q_3 21 5) a 5 (some q_3)) q_8 4 0) q_1_14 10 4) q_8 0 (some q_1_14)) q_3_14 11 4) q_8 1 (some q_3_14)) q_8_14 12 4) q_8 2 (some q_8_14)) q_16_14 20 4) q_8 0 = some q_1_14 := (gQ_new (S := (pQ (pW (pQ (pW (pQ (pW (pW (pQ (pW (pQ (pW S q_1 6 4) a 4 (some q_1)) q_3 21 5) a 5 (some q_3)) q_8 4 0) q_1_14 10 4) q_8 0 (some q_1_14)) q_3_14 11 4) q_8 1 (some q_3_14)) q_8_14 12 4) q_8 2 (some q_8_14))) (q := q_16_14) (ho_35).1 hq_16_14).trans hr_46
  have hr_58 : gQ (pW (pQ (pW (pQ (pW (pQ (pW (pW (pQ (pW (pQ (pW S q_1 6 4) a 4 (some q_1)) q_3 21 5) a 5 (some q_3)) q_8 4 0) q_1_14 10 4) q_8 0 (some q_1_14)) q_3_14 11 4) q_8 1 (some q_3_14)) q_8_14 12 4) q_8 2 (some q_8_14)) q_16_14 20 4) q_8 1 = some q_3_14 := (gQ_new (S := (pQ (pW (pQ (pW (pQ (pW (pW (pQ (pW (pQ (pW S q_1 6 4) a 4 (some q_1)) q_3 21 5) a 5 (some q_3)) q_8 4 0) q_1_14 10 4) q_8 0 (some q_1_14)) q_3_14 11 4) q_8 1 (some q_3_14)) q_8_14 12 4) q_8 2 (some q_8_14))) (q := q_16_14) (ho_35).1 hq_16_14).trans hr_47
  have hr_59 : gQ (pW (pQ (pW (pQ (pW (pQ (pW (pW (pQ (pW (pQ (pW S q_1 6 4) a 4 (some q_1)) q_3 21 5) a 5 (some q_3)) q_8 4 0) q_1_14 10 4) q_8 0 (some q_1_14)) q_3_14 11 4) q_8 1 (some q_3_14)) q_8_14 12 4) q_8 2 (some q_8_14)) q_16_14 20 4) q_8 2 = some q_8_14 := (gQ_new (S := (pQ (pW (pQ (pW (pQ (pW (pW (pQ (pW (pQ (pW S q_1 6 4) a 4 (some q_1)) q_3 21 5) a 5 (some q_3)) q_8 4 0) q_1_14 10 4) q_8 0 (some q_1_14)) q_3_14 11 4) q_8 1 (some q_3_14)) q_8_14 12 4) q_8 2 (some q_8_14))) (q := q_16_14) (ho_35).1 hq_16_14).trans u2_s
  have hr_60 : gQ (pQ (pW (pQ (pW (pQ (pW (pQ (pW (pW (pQ (pW (pQ (pW S q_1 6 4) a 4 (some q_1)) q_3 21 5) a 5 (some q_3)) q_8 4 0) q_1_14 10 4) q_8 0 (some q_1_14)) q_3_14 11 4) q_8 1 (some q_3_14)) q_8_14 12 4) q_8 2 (some q_8_14)) q_16_14 20 4) q_8 3 (some q_16_14)) a 4 = some q_1 := (u2_a (ne_of_kind ho_48.2 ho_49.2 (by decide))).trans hr_55
  have hr_61 : gQ (pQ (pW (pQ (pW (pQ (pW (pQ (pW (pW (pQ (pW (pQ (pW S q_1 6 4) a 4 (some q_1)) q_3 21 5) a 5 (some q_3)) q_8 4 0) q_1_14 10 4) q_8 0 (some q_1_14)) q_3_14 11 4) q_8 1 (some q_3_14)) q_8_14 12 4) q_8 2 (some q_8_14)) q_16_14 20 4) q_8 3 (some q_16_14)) a 5 = some q_3 := (u2_a (ne_of_kind ho_48.2 ho_49.2 (by decide))).trans hr_56
  have hr_62 : gQ (pQ (pW (pQ (pW (pQ (pW (pQ (pW (pW (pQ (pW (pQ (pW S q_1 6 4) a 4 (some q_1)) q_3 21 5) a 5 (some q_3)) q_8 4 0) q_1_14 10 4) q_8 0 (some q_1_14)) q_3_14 11 4) q_8 1 (some q_3_14)) q_8_14 12 4) q_8 2 (some q_8_14)) q_16_14 20 4) q_8 3 (some q_16_14)) q_8 0 = some q_1_14 := (u2_k (by decide)).trans hr_57
  have hr_63 : gQ (pQ (pW (pQ (pW (pQ (pW (pQ (pW (pW (pQ (pW (pQ (pW S q_1 6 4) a 4 (some q_1)) q_3 21 5) a 5 (some q_3)) q_8 4 0) q_1_14 10 4) q_8 0 (some q_1_14)) q_3_14 11 4) q_8 1 (some q_3_14)) q_8_14 12 4) q_8 2 (some q_8_14)) q_16_14 20 4) q_8 3 (some q_16_14)) q_8 1 = some q_3_14 := (u2_k (by decide)).trans hr_58
  have hr_64 : gQ (pQ (pW (pQ (pW (pQ (pW (pQ (pW (pW (pQ (pW (pQ (pW S q_1 6 4) a 4 (some q_1)) q_3 21 5) a 5 (some q_3)) q_8 4 0) q_1_14 10 4) q_8 0 (some q_1_14)) q_3_14 11 4) q_8 1 (some q_3_14)) q_8_14 12 4) q_8 2 (some q_8_14)) q_16_14 20 4) q_8 3 (some q_16_14)) q_8 2 = some q_8_14 := (u2_k (by decide)).trans hr_59
  refine kx_putrF (ty := (.object "DaybreakFlags$Tally")) (r := (some q_8)) hx hb htT m_u_X3 tyX3 tyX3_ok nmX3 hown hK hP hD hS ho_48 (Nat.le_of_ble_eq_true rfl) rfl 6 (by decide) (by decide) rfl (htT _ m_fl_X3_24) rfl hin rfl (by decide +kernel) rfl rfl dX3_init_27 (fun H locs hP hD hS => ?_)
  have hr_65 : gQ (pQ (pQ (pW (pQ (pW (pQ (pW (pQ (pW (pW (pQ (pW (pQ (pW S q_1 6 4) a 4 (some q_1)) q_3 21 5) a 5 (some q_3)) q_8 4 0) q_1_14 10 4) q_8 0 (some q_1_14)) q_3_14 11 4) q_8 1 (some q_3_14)) q_8_14 12 4) q_8 2 (some q_8_14)) q_16_14 20 4) q_8 3 (some q_16_14)) a 6 (some q_8)) a 4 = some q_1 := (u2_k (by decide)).trans hr_60
  have hr_66 : gQ (pQ (pQ (pW (pQ (pW (pQ (pW (pQ (pW (pW (pQ (pW (pQ (pW S q_1 6 4) a 4 (some q_1)) q_3 21 5) a 5 (some q_3)) q_8 4 0) q_1_14 10 4) q_8 0 (some q_1_14)) q_3_14 11 4) q_8 1 (some q_3_14)) q_8_14 12 4) q_8 2 (some q_8_14)) q_16_14 20 4) q_8 3 (some q_16_14)) a 6 (some q_8)) a 5 = some q_3 := (u2_k (by decide)).trans hr_61
  have hr_67 : gQ (pQ (pQ (pW (pQ (pW (pQ (pW (pQ (pW (pW (pQ (pW (pQ (pW S q_1 6 4) a 4 (some q_1)) q_3 21 5) a 5 (some q_3)) q_8 4 0) q_1_14 10 4) q_8 0 (some q_1_14)) q_3_14 11 4) q_8 1 (some q_3_14)) q_8_14 12 4) q_8 2 (some q_8_14)) q_16_14 20 4) q_8 3 (some q_16_14)) a 6 (some q_8)) q_8 0 = some q_1_14 := (u2_a (ne_of_kind ho_49.2 ho_48.2 (by decide))).trans hr_62
  have hr_68 : gQ (pQ (pQ (pW (pQ (pW (pQ (pW (pQ (pW (pW (pQ (pW (pQ (pW S q_1 6 4) a 4 (some q_1)) q_3 21 5) a 5 (some q_3)) q_8 4 0) q_1_14 10 4) q_8 0 (some q_1_14)) q_3_14 11 4) q_8 1 (some q_3_14)) q_8_14 12 4) q_8 2 (some q_8_14)) q_16_14 20 4) q_8 3 (some q_16_14)) a 6 (some q_8)) q_8 1 = some q_3_14 := (u2_a (ne_of_kind ho_49.2 ho_48.2 (by decide))).trans hr_63
  have hr_69 : gQ (pQ (pQ (pW (pQ (pW (pQ (pW (pQ (pW (pW (pQ (pW (pQ (pW S q_1 6 4) a 4 (some q_1)) q_3 21 5) a 5 (some q_3)) q_8 4 0) q_1_14 10 4) q_8 0 (some q_1_14)) q_3_14 11 4) q_8 1 (some q_3_14)) q_8_14 12 4) q_8 2 (some q_8_14)) q_16_14 20 4) q_8 3 (some q_16_14)) a 6 (some q_8)) q_8 2 = some q_8_14 := (u2_a (ne_of_kind ho_49.2 ho_48.2 (by decide))).trans hr_64
  have hr_70 : gQ (pQ (pQ (pW (pQ (pW (pQ (pW (pQ (pW (pW (pQ (pW (pQ (pW S q_1 6 4) a 4 (some q_1)) q_3 21 5) a 5 (some q_3)) q_8 4 0) q_1_14 10 4) q_8 0 (some q_1_14)) q_3_14 11 4) q_8 1 (some q_3_14)) q_8_14 12 4) q_8 2 (some q_8_14)) q_16_14 20 4) q_8 3 (some q_16_14)) a 6 (some q_8)) q_8 3 = some q_16_14 := (u2_a (ne_of_kind ho_49.2 ho_48.2 (by decide))).trans u2_s
  refine lv_aload_n hx hb dX3_init_30 rfl (lv_at hl 0 rfl) ?_
  refine lv_sipush (v := 1000) hx hb dX3_init_31 (by decide) ?_
  refine kx_puti (ty := .int) hx hb htT m_u_X3 tyX3 tyX3_ok nmX3 hown hK hP hD hS ho_48 (Nat.le_of_ble_eq_true rfl) rfl 10 (by decide) (by decide) rfl (htT _ m_fl_X3_28) rfl (by decide +kernel) rfl rfl dX3_init_34 (fun H locs hP hD hS => ?_)
  refine lv_aload_n hx hb dX3_init_37 rfl (lv_at hl 0 rfl) ?_
  refine lv_iconst (v := (-1)) hx hb dX3_init_38 (by decide) ?_
  refine kx_puti (ty := .int) hx hb htT m_u_X3 tyX3 tyX3_ok nmX3 hown hK hP hD hS ho_48 (Nat.le_of_ble_eq_true rfl) rfl 13 (by decide) (by decide) rfl (htT _ m_fl_X3_32) rfl (by decide +kernel) rfl rfl dX3_init_39 (fun H locs hP hD hS => ?_)
  refine lv_aload_n hx hb dX3_init_42 rfl (lv_at hl 0 rfl) ?_
  refine lv_iconst (v := (-1)) hx hb dX3_init_43 (by decide) ?_
  refine kx_puti (ty := .int) hx hb htT m_u_X3 tyX3 tyX3_ok nmX3 hown hK hP hD hS ho_48 (Nat.le_of_ble_eq_true rfl) rfl 16 (by decide) (by decide) rfl (htT _ m_fl_X3_35) rfl (by decide +kernel) rfl rfl dX3_init_44 (fun H locs hP hD hS => ?_)
  refine lv_aload_n hx hb dX3_init_47 rfl (lv_at hl 0 rfl) ?_
  refine lv_iload_n hx hb dX3_init_48 rfl (lv_at hl 1 rfl) ?_
  refine kx_putiF (ty := .int) hx hb htT m_u_X3 tyX3 tyX3_ok nmX3 hown hK hP hD hS ho_48 (Nat.le_of_ble_eq_true rfl) rfl 0 (by decide) (by decide) rfl (htT _ m_fl_X3_38) rfl hin rfl (by decide +kernel) rfl rfl dX3_init_49 (fun H locs hP hD hS => ?_)
  refine lv_aload_n hx hb dX3_init_52 rfl (lv_at hl 0 rfl) ?_
  refine lv_iload_n hx hb dX3_init_53 rfl (lv_at hl 2 rfl) ?_
  refine kx_putiF (ty := .int) hx hb htT m_u_X3 tyX3 tyX3_ok nmX3 hown hK hP hD hS ho_48 (Nat.le_of_ble_eq_true rfl) rfl 1 (by decide) (by decide) rfl (htT _ m_fl_X3_41) rfl hin rfl (by decide +kernel) rfl rfl dX3_init_54 (fun H locs hP hD hS => ?_)
  refine lv_aload_n hx hb dX3_init_57 rfl (lv_at hl 0 rfl) ?_
  refine lv_iload_n hx hb dX3_init_58 rfl (lv_at hl 3 rfl) ?_
  refine kx_putiF (ty := .int) hx hb htT m_u_X3 tyX3 tyX3_ok nmX3 hown hK hP hD hS ho_48 (Nat.le_of_ble_eq_true rfl) rfl 2 (by decide) (by decide) rfl (htT _ m_fl_X3_44) rfl hin rfl (by decide +kernel) rfl rfl dX3_init_59 (fun H locs hP hD hS => ?_)
  refine lv_aload_n hx hb dX3_init_62 rfl (lv_at hl 0 rfl) ?_
  refine lv_iload hx hb dX3_init_63 (lv_at hl 4 rfl) ?_
  refine kx_putiF (ty := .boolean) hx hb htT m_u_X3 tyX3 tyX3_ok nmX3 hown hK hP hD hS ho_48 (Nat.le_of_ble_eq_true rfl) rfl 3 (by decide) (by decide) rfl (htT _ m_fl_X3_47) rfl hin rfl (by decide +kernel) (kz_b hz).1 (kz_b hz).2 dX3_init_65 (fun H locs hP hD hS => ?_)
  refine lv_aload_n hx hb dX3_init_68 rfl (lv_at hl 0 rfl) ?_
  refine kx_gets hx hb htT m_u_X3 hown hK hP ho_48 (Nat.le_of_ble_eq_true rfl) rfl 4 (by decide) (by decide) rfl hr_65 (htT _ m_fl_X3_9) dX3_init_69 ?_
  refine lv_iconst (v := 0) hx hb dX3_init_72 (by decide) ?_
  refine lv_sipush (v := 1000) hx hb dX3_init_73 (by decide) ?_
  refine kx_iast hx hb hK hP hD hS ha_50 (Nat.le_of_ble_eq_true rfl) (Nat.le_of_ble_eq_true rfl) (vp_in_iff.mpr (by decide)) dX3_init_76 (fun H locs hP hD hS => ?_)
  exact W.vret hx hb hr (fun t ht hW => ⟨⟨pR (pI (pI (pI (pI (pI (pI (pI (pQ (pQ (pW (pQ (pW (pQ (pW (pQ (pW (pW (pQ (pW (pQ (pW S q_1 6 4) a 4 (some q_1)) q_3 21 5) a 5 (some q_3)) q_8 4 0) q_1_14 10 4) q_8 0 (some q_1_14)) q_3_14 11 4) q_8 1 (some q_3_14)) q_8_14 12 4) q_8 2 (some q_8_14)) q_16_14 20 4) q_8 3 (some q_16_14)) a 6 (some q_8)) a 10 1000) a 13 (-1)) a 16 (-1)) a 0 p0) a 1 p1) a 2 p2) a 3 p3) q_1 (0 : Int32).toNatClampNeg 1000, rfl, ⟨q_1, q_3, q_8, q_1_14, q_3_14, q_8_14, q_16_14, hq_1, hq_3, hq_8, hq_1_14, hq_3_14, hq_8_14, hq_16_14, rfl⟩, by rw [ht]; exact hP, va_K.moved hW.alike hK, hD⟩, hS.F ht⟩) hS.2.2 dX3_init_77

set_option maxRecDepth 100000 in
set_option maxHeartbeats 4000000 in
/-- add, where there is room -/
theorem c_add (l : Launch) (D : va_G) (cA : Nat → ClassId) (sz : Nat) (S : Pool) (x : Nat) (ho : isO S x 5) (ar : Nat) (hq0 : gQ S x 0 = some ar) (har : isA S ar 22 8) (p0 p1 p2 : Int32) (hz : p2 = 0 ∨ p2 = 1) (h1 : kOut p0 0 498 = 0) (h2 : kOut p1 2 4 = 0) (hc0 : ¬ gI S x 2 < 0) (hc1 : gI S x 2 < 8) : Met l yX5_add (Cond.code yX5_add cX5_add 5 (some .int) :: TT) ({ frames := 3, cells := 8, slots := 48, locals := 56 }) (va_Pc [.ref x, .int p0, .int p1, .int p2] (kPre D cA (PW cA S) sz)) (va_Qi (fun (r_ : Int32) (x_ : Pool) => r_ = gI S x 2 ∧ ∃ q_7 q_1_11 q_3_11 q_8_11 q_1_14_11 q_3_14_11 q_8_14_11 q_16_14_11, q_7 ∉ gL S ∧ q_1_11 ∉ gL (pW S q_7 3 0) ∧ q_3_11 ∉ gL (pQ (pW (pW S q_7 3 0) q_1_11 6 4) q_7 4 (some q_1_11)) ∧ q_8_11 ∉ gL (pQ (pW (pQ (pW (pW S q_7 3 0) q_1_11 6 4) q_7 4 (some q_1_11)) q_3_11 21 5) q_7 5 (some q_3_11)) ∧ q_1_14_11 ∉ gL (pW (pQ (pW (pQ (pW (pW S q_7 3 0) q_1_11 6 4) q_7 4 (some q_1_11)) q_3_11 21 5) q_7 5 (some q_3_11)) q_8_11 4 0) ∧ q_3_14_11 ∉ gL (pQ (pW (pW (pQ (pW (pQ (pW (pW S q_7 3 0) q_1_11 6 4) q_7 4 (some q_1_11)) q_3_11 21 5) q_7 5 (some q_3_11)) q_8_11 4 0) q_1_14_11 10 4) q_8_11 0 (some q_1_14_11)) ∧ q_8_14_11 ∉ gL (pQ (pW (pQ (pW (pW (pQ (pW (pQ (pW (pW S q_7 3 0) q_1_11 6 4) q_7 4 (some q_1_11)) q_3_11 21 5) q_7 5 (some q_3_11)) q_8_11 4 0) q_1_14_11 10 4) q_8_11 0 (some q_1_14_11)) q_3_14_11 11 4) q_8_11 1 (some q_3_14_11)) ∧ q_16_14_11 ∉ gL (pQ (pW (pQ (pW (pQ (pW (pW (pQ (pW (pQ (pW (pW S q_7 3 0) q_1_11 6 4) q_7 4 (some q_1_11)) q_3_11 21 5) q_7 5 (some q_3_11)) q_8_11 4 0) q_1_14_11 10 4) q_8_11 0 (some q_1_14_11)) q_3_14_11 11 4) q_8_11 1 (some q_3_14_11)) q_8_14_11 12 4) q_8_11 2 (some q_8_14_11)) ∧ x_ = pI (pP (pR (pI (pI (pI (pI (pI (pI (pI (pQ (pQ (pW (pQ (pW (pQ (pW (pQ (pW (pW (pQ (pW (pQ (pW (pW S q_7 3 0) q_1_11 6 4) q_7 4 (some q_1_11)) q_3_11 21 5) q_7 5 (some q_3_11)) q_8_11 4 0) q_1_14_11 10 4) q_8_11 0 (some q_1_14_11)) q_3_14_11 11 4) q_8_11 1 (some q_3_14_11)) q_8_14_11 12 4) q_8_11 2 (some q_8_14_11)) q_16_14_11 20 4) q_8_11 3 (some q_16_14_11)) q_7 6 (some q_8_11)) q_7 10 1000) q_7 13 (-1)) q_7 16 (-1)) q_7 0 (gI S x 2)) q_7 1 p0) q_7 2 p1) q_7 3 p2) q_1_11 ((0 : Int32).toNatClampNeg) 1000) ar ((gI S x 2).toNatClampNeg) (some q_7)) x 2 ((gI S x 2) + 1)) (fun x_ => kB D cA (va_A (PW cA S) sz) (PW cA x_)) (va_A (PW cA S) sz)) 8 48 (va_A (PW cA S) sz) := by
  refine Met.ofW (cc := cX5_add) (maxL := 5) (ret := (some .int)) (by decide) rfl ?_
  intro p e s m args below meth c s₁ B hml hv
  obtain ⟨rfl, hsz, hP, hK, hD0, hTB⟩ := hv
  have hx := B.exec
  have hb := B.bytes
  have hr := B.returns
  have hts := atoms_spec (ws := Cond.code yX5_add cX5_add 5 (some .int) :: TT) B.pre
  have htT : ∀ w ∈ TT, w.before _ s = true := fun w h => hts w (List.mem_cons_of_mem _ h)
  have hown : s.vm.findClass RX5 = some m.cls := findClass_of_methodNamed B.named
  have hlocks := B.notSynchronized
  subst hsz
  have hD := hD0.self (sz := s.heap.size)
  generalize hAe : va_A (PW cA S) s.heap.size = A at hD ⊢
  have hA : ∀ q : Nat, s.heap.size ≤ q → A q := fun q h => by rw [← hAe]; exact Or.inr h
  have hS : va_S A s.heap s.heap [] := va_S.rf
  have hl := lv_entry ([.ref x, .int p0, .int p1, .int p2]) (n := 5) (Nat.le_of_ble_eq_true rfl)
  rw [lg_entry_eq]
  generalize (lg_sl ([.ref x, .int p0, .int p1, .int p2]) ++ List.replicate (5 - (lg_sl ([.ref x, .int p0, .int p1, .int p2])).length) Slot.unset).toArray = ls at hl ⊢
  have hl : lv_has ls 5 [(0, .ref x), (1, .int p0), (2, .int p1), (3, .int p2)] := hl
  refine lv_iload_n hx hb dX5_add_0 rfl (lv_at hl 1 rfl) ?_
  refine lv_iconst (v := 0) hx hb dX5_add_1 (by decide) ?_
  refine lv_sipush (v := 498) hx hb dX5_add_2 (by decide) ?_
  refine kc_i (va_runS (As := [.int p0, .int 0, .int 498]) (rest := []) ⟨hx, hb, hml, hown, htT⟩ (c_isOutside l D cA _ S p0 0 498) (cwS 3 htT (kg_S m_ml_X5_22 m_st_X5_isOutside m_in_X5 m_cd_X5_isOutside) rfl rfl rfl (by decide +kernel) ⟨Nat.le_of_ble_eq_true rfl, Nat.le_of_ble_eq_true rfl⟩) (kp_S hK hP hD hTB) rfl rfl hl.1 rfl (lv_room (Nat.le_of_ble_eq_true rfl)) dX5_add_5 ⟨Nat.le_of_ble_eq_true rfl, Nat.le_of_ble_eq_true rfl⟩) hD hS hA (fun r_1 x_1 H locs hq_1 hP hD hS => ?_)
  rw [hq_1.1]
  rw [hq_1.2] at hP hD
  rw [h1]
  refine lv_if_ne (tgt := 20) hx hb dX5_add_8 (by decide) (fun c_2 => absurd c_2 (by decide)) (fun _ => ?_)
  refine lv_iload_n hx hb dX5_add_11 rfl (lv_at hl 2 rfl) ?_
  refine lv_iconst (v := 2) hx hb dX5_add_12 (by decide) ?_
  refine lv_iconst (v := 4) hx hb dX5_add_13 (by decide) ?_
  refine kc_i (va_runS (As := [.int p1, .int 2, .int 4]) (rest := []) ⟨hx, hb, hml, hown, htT⟩ (c_isOutside l D cA _ S p1 2 4) (cwS 3 htT (kg_S m_ml_X5_22 m_st_X5_isOutside m_in_X5 m_cd_X5_isOutside) rfl rfl rfl (by decide +kernel) ⟨Nat.le_of_ble_eq_true rfl, Nat.le_of_ble_eq_true rfl⟩) (kp_S hK hP hD hTB) rfl rfl hl.1 rfl (lv_room (Nat.le_of_ble_eq_true rfl)) dX5_add_14 ⟨Nat.le_of_ble_eq_true rfl, Nat.le_of_ble_eq_true rfl⟩) hD hS hA (fun r_3 x_3 H locs hq_3 hP hD hS => ?_)
  rw [hq_3.1]
  rw [hq_3.2] at hP hD
  rw [h2]
  refine lv_if_eq (tgt := 30) hx hb dX5_add_17 (by decide) (fun _ => ?_) (fun c_4 => absurd c_4 (by decide))
  refine lv_aload_n hx hb dX5_add_30 rfl (lv_at hl 0 rfl) ?_
  refine kx_geti hx hb htT m_u_X5 hown hK hP ho (Nat.le_of_ble_eq_true rfl) rfl 2 (by decide) (by decide) rfl (htT _ m_fl_X5_33) dX5_add_31 ?_
  refine lv_istore (lv' := [(4, .int (gI S x 2)), (0, .ref x), (1, .int p0), (2, .int p1), (3, .int p2)]) hx hb dX5_add_34 hl (by decide) rfl (fun ls hl => ?_)
  refine lv_iload hx hb dX5_add_36 (lv_at hl 0 rfl) ?_
  refine lv_if_lt (tgt := 51) hx hb dX5_add_38 (by decide) (fun c_5 => ?_) (fun c_5 => ?_)
  · exact absurd c_5 hc0
  · refine lv_iload hx hb dX5_add_41 (lv_at hl 0 rfl) ?_
    refine lv_aload_n hx hb dX5_add_43 rfl (lv_at hl 1 rfl) ?_
    refine kx_gets hx hb htT m_u_X5 hown hK hP ho (Nat.le_of_ble_eq_true rfl) rfl 0 (by decide) (by decide) rfl hq0 (htT _ m_fl_X5_11) dX5_add_44 ?_
    refine kx_alen (v := 8) hx hb hK hP har (Nat.le_of_ble_eq_true rfl) (Nat.le_of_ble_eq_true rfl) rfl dX5_add_47 ?_
    refine lv_icmp_lt (tgt := 61) hx hb dX5_add_48 (by decide) (fun c_6 => ?_) (fun c_6 => ?_)
    · refine lv_aload_n hx hb dX5_add_61 rfl (lv_at hl 1 rfl) ?_
      refine kx_gets hx hb htT m_u_X5 hown hK hP ho (Nat.le_of_ble_eq_true rfl) rfl 0 (by decide) (by decide) rfl hq0 (htT _ m_fl_X5_11) dX5_add_62 ?_
      refine lv_iload hx hb dX5_add_65 (lv_at hl 0 rfl) ?_
      refine kx_new (ci := 3) hx hb htT m_u_X3 tyX3 tyX3_ok hown (htT _ m_cl_X5_9) (htT _ m_nw_X3) (htT _ m_in_X3) hK hP hD hS hA (Nat.le_of_ble_eq_true rfl) rfl rfl (by decide) (Nat.le_of_ble_eq_true rfl) (Nat.le_of_ble_eq_true rfl) dX5_add_67 (fun q_7 H hq_7 hP hD hS => ?_)
      have ho_8 : isO (pW S q_7 3 0) x 5 := isO_new ho hq_7
      have ha_9 : isA (pW S q_7 3 0) ar 22 8 := isA_new har hq_7
      have hr_10 : gQ (pW S q_7 3 0) x 0 = some ar := (gQ_new (S := S) (q := q_7) (ho).1 hq_7).trans hq0
      refine lv_dup hx hb dX5_add_70 rfl ?_
      refine lv_iload hx hb dX5_add_71 (lv_at hl 0 rfl) ?_
      refine lv_iload_n hx hb dX5_add_73 rfl (lv_at hl 2 rfl) ?_
      refine lv_iload_n hx hb dX5_add_74 rfl (lv_at hl 3 rfl) ?_
      refine lv_iload_n hx hb dX5_add_75 rfl (lv_at hl 4 rfl) ?_
      refine kc_v (va_runI (As := [.int (gI S x 2), .int p0, .int p1, .int p2]) (rest := [.ref q_7, .int (gI S x 2), .ref ar]) ⟨hx, hb, hml, hown, htT⟩ (c_Switch_init l D cA _ (pW S q_7 3 0) q_7 isO_q (gI S x 2) p0 p1 p2 hz) (cwI 4 htT (kg_I m_cd_X3_init) rfl rfl rfl (htT _ m_in_X3) (htT _ m_ml_X5_42) (htT _ m_im_X3_init) rfl (by decide +kernel) ⟨Nat.le_of_ble_eq_true rfl, Nat.le_of_ble_eq_true rfl⟩) (kp_S hK hP hD hTB) rfl rfl hl.1 rfl (lv_room (Nat.le_of_ble_eq_true rfl)) dX5_add_76 ⟨Nat.le_of_ble_eq_true rfl, Nat.le_of_ble_eq_true rfl⟩) hD hS hA (fun S_11 H locs hq_11 hP hD hS => ?_)
      obtain ⟨q_1_11, q_3_11, q_8_11, q_1_14_11, q_3_14_11, q_8_14_11, q_16_14_11, hq_1_11, hq_3_11, hq_8_11, hq_1_14_11, hq_3_14_11, hq_8_14_11, hq_16_14_11, e_11⟩ := hq_11
      rw [e_11] at hP hD
      have ho_12 : isO (pW (pW S q_7 3 0) q_1_11 6 4) x 5 := isO_new ho_8 hq_1_11
      have ho_13 : isO (pW (pW S q_7 3 0) q_1_11 6 4) q_7 3 := isO_new isO_q hq_1_11
      have ha_14 : isA (pW (pW S q_7 3 0) q_1_11 6 4) ar 22 8 := isA_new ha_9 hq_1_11
      have hr_15 : gQ (pW (pW S q_7 3 0) q_1_11 6 4) x 0 = some ar := (gQ_new (S := (pW S q_7 3 0)) (q := q_1_11) (ho_8).1 hq_1_11).trans hr_10
      have hr_16 : gQ (pQ (pW (pW S q_7 3 0) q_1_11 6 4) q_7 4 (some q_1_11)) x 0 = some ar := (u2_a (ne_of_kind ho_12.2 ho_13.2 (by decide))).trans hr_15
      have ho_17 : isO (pW (pQ (pW (pW S q_7 3 0) q_1_11 6 4) q_7 4 (some q_1_11)) q_3_11 21 5) x 5 := isO_new ho_12 hq_3_11
      have ho_18 : isO (pW (pQ (pW (pW S q_7 3 0) q_1_11 6 4) q_7 4 (some q_1_11)) q_3_11 21 5) q_7 3 := isO_new ho_13 hq_3_11
      have ha_19 : isA (pW (pQ (pW (pW S q_7 3 0) q_1_11 6 4) q_7 4 (some q_1_11)) q_3_11 21 5) ar 22 8 := isA_new ha_14 hq_3_11
      have ha_20 : isA (pW (pQ (pW (pW S q_7 3 0) q_1_11 6 4) q_7 4 (some q_1_11)) q_3_11 21 5) q_1_11 6 4 := isA_new isA_q hq_3_11
      have hr_21 : gQ (pW (pQ (pW (pW S q_7 3 0) q_1_11 6 4) q_7 4 (some q_1_11)) q_3_11 21 5) x 0 = some ar := (gQ_new (S := (pQ (pW (pW S q_7 3 0) q_1_11 6 4) q_7 4 (some q_1_11))) (q := q_3_11) (ho_12).1 hq_3_11).trans hr_16
      have hr_22 : gQ (pW (pQ (pW (pW S q_7 3 0) q_1_11 6 4) q_7 4 (some q_1_11)) q_3_11 21 5) q_7 4 = some q_1_11 := (gQ_new (S := (pQ (pW (pW S q_7 3 0) q_1_11 6 4) q_7 4 (some q_1_11))) (q := q_3_11) (ho_13).1 hq_3_11).trans u2_s
      have hr_23 : gQ (pQ (pW (pQ (pW (pW S q_7 3 0) q_1_11 6 4) q_7 4 (some q_1_11)) q_3_11 21 5) q_7 5 (some q_3_11)) x 0 = some ar := (u2_a (ne_of_kind ho_17.2 ho_18.2 (by decide))).trans hr_21
      have hr_24 : gQ (pQ (pW (pQ (pW (pW S q_7 3 0) q_1_11 6 4) q_7 4 (some q_1_11)) q_3_11 21 5) q_7 5 (some q_3_11)) q_7 4 = some q_1_11 := (u2_k (by decide)).trans hr_22
      have ho_25 : isO (pW (pQ (pW (pQ (pW (pW S q_7 3 0) q_1_11 6 4) q_7 4 (some q_1_11)) q_3_11 21 5) q_7 5 (some q_3_11)) q_8_11 4 0) x 5 := isO_new ho_17 hq_8_11
      have ho_26 : isO (pW (pQ (pW (pQ (pW (pW S q_7 3 0) q_1_11 6 4) q_7 4 (some q_1_11)) q_3_11 21 5) q_7 5 (some q_3_11)) q_8_11 4 0) q_7 3 := isO_new ho_18 hq_8_11
      have ha_27 : isA (pW (pQ (pW (pQ (pW (pW S q_7 3 0) q_1_11 6 4) q_7 4 (some q_1_11)) q_3_11 21 5) q_7 5 (some q_3_11)) q_8_11 4 0) ar 22 8 := isA_new ha_19 hq_8_11
      have ha_28 : isA (pW (pQ (pW (pQ (pW (pW S q_7 3 0) q_1_11 6 4) q_7 4 (some q_1_11)) q_3_11 21 5) q_7 5 (some q_3_11)) q_8_11 4 0) q_1_11 6 4 := isA_new ha_20 hq_8_11
      have ha_29 : isA (pW (pQ (pW (pQ (pW (pW S q_7 3 0) q_1_11 6 4) q_7 4 (some q_1_11)) q_3_11 21 5) q_7 5 (some q_3_11)) q_8_11 4 0) q_3_11 21 5 := isA_new isA_q hq_8_11
      have hr_30 : gQ (pW (pQ (pW (pQ (pW (pW S q_7 3 0) q_1_11 6 4) q_7 4 (some q_1_11)) q_3_11 21 5) q_7 5 (some q_3_11)) q_8_11 4 0) x 0 = some ar := (gQ_new (S := (pQ (pW (pQ (pW (pW S q_7 3 0) q_1_11 6 4) q_7 4 (some q_1_11)) q_3_11 21 5) q_7 5 (some q_3_11))) (q := q_8_11) (ho_17).1 hq_8_11).trans hr_23
      have hr_31 : gQ (pW (pQ (pW (pQ (pW (pW S q_7 3 0) q_1_11 6 4) q_7 4 (some q_1_11)) q_3_11 21 5) q_7 5 (some q_3_11)) q_8_11 4 0) q_7 4 = some q_1_11 := (gQ_new (S := (pQ (pW (pQ (pW (pW S q_7 3 0) q_1_11 6 4) q_7 4 (some q_1_11)) q_3_11 21 5) q_7 5 (some q_3_11))) (q := q_8_11) (ho_18).1 hq_8_11).trans hr_24
      have hr_32 : gQ (pW (pQ (pW (pQ (pW (pW S q_7 3 0) q_1_11 6 4) q_7 4 (some q_1_11)) q_3_11 21 5) q_7 5 (some q_3_11)) q_8_11 4 0) q_7 5 = some q_3_11 := (gQ_new (S := (pQ (pW (pQ (pW (pW S q_7 3 0) q_1_11 6 4) q_7 4 (some q_1_11)) q_3_11 21 5) q_7 5 (some q_3_11))) (q := q_8_11) (ho_18).1 hq_8_11).trans u2_s
      have ho_33 : isO (pW (pW (pQ (pW (pQ (pW (pW S q_7 3 0) q_1_11 6 4) q_7 4 (some q_1_11)) q_3_11 21 5) q_7 5 (some q_3_11)) q_8_11 4 0) q_1_14_11 10 4) x 5 := isO_new ho_25 hq_1_14_11
      have ho_34 : isO (pW (pW (pQ (pW (pQ (pW (pW S q_7 3 0) q_1_11 6 4) q_7 4 (some q_1_11)) q_3_11 21 5) q_7 5 (some q_3_11)) q_8_11 4 0) q_1_14_11 10 4) q_7 3 := isO_new ho_26 hq_1_14_11
      have ho_35 : isO (pW (pW (pQ (pW (pQ (pW (pW S q_7 3 0) q_1_11 6 4) q_7 4 (some q_1_11)) q_3_11 21 5) q_7 5 (some q_3_11)) q_8_11 4 0) q_1_14_11 10 4) q_8_11 4 := isO_new isO_q hq_1_14_11
      have ha_36 : isA (pW (pW (pQ (pW (pQ (pW (pW S q_7 3 0) q_1_11 6 4) q_7 4 (some q_1_11)) q_3_11 21 5) q_7 5 (some q_3_11)) q_8_11 4 0) q_1_14_11 10 4) ar 22 8 := isA_new ha_27 hq_1_14_11
      have ha_37 : isA (pW (pW (pQ (pW (pQ (pW (pW S q_7 3 0) q_1_11 6 4) q_7 4 (some q_1_11)) q_3_11 21 5) q_7 5 (some q_3_11)) q_8_11 4 0) q_1_14_11 10 4) q_1_11 6 4 := isA_new ha_28 hq_1_14_11
      have ha_38 : isA (pW (pW (pQ (pW (pQ (pW (pW S q_7 3 0) q_1_11 6 4) q_7 4 (some q_1_11)) q_3_11 21 5) q_7 5 (some q_3_11)) q_8_11 4 0) q_1_14_11 10 4) q_3_11 21 5 := isA_new ha_29 hq_1_14_11
      have hr_39 : gQ (pW (pW (pQ (pW (pQ (pW (pW S q_7 3 0) q_1_11 6 4) q_7 4 (some q_1_11)) q_3_11 21 5) q_7 5 (some q_3_11)) q_8_11 4 0) q_1_14_11 10 4) x 0 = some ar := (gQ_new (S := (pW (pQ (pW (pQ (pW (pW S q_7 3 0) q_1_11 6 4) q_7 4 (some q_1_11)) q_3_11 21 5) q_7 5 (some q_3_11)) q_8_11 4 0)) (q := q_1_14_11) (ho_25).1 hq_1_14_11).trans hr_30
      have hr_40 : gQ (pW (pW (pQ (pW (pQ (pW (pW S q_7 3 0) q_1_11 6 4) q_7 4 (some q_1_11)) q_3_11 21 5) q_7 5 (some q_3_11)) q_8_11 4 0) q_1_14_11 10 4) q_7 4 = some q_1_11 := (gQ_new (S := (pW (pQ (pW (pQ (pW (pW S q_7 3 0) q_1_11 6 4) q_7 4 (some q_1_11)) q_3_11 21 5) q_7 5 (some q_3_11)) q_8_11 4 0)) (q := q_1_14_11) (ho_26).1 hq_1_14_11).trans hr_31
      have hr_41 : gQ (pW (pW (pQ (pW (pQ (pW (pW S q_7 3 0) q_1_11 6 4) q_7 4 (some q_1_11)) q_3_11 21 5) q_7 5 (some q_3_11)) q_8_11 4 0) q_1_14_11 10 4) q_7 5 = some q_3_11 := (gQ_new (S := (pW (pQ (pW (pQ (pW (pW S q_7 3 0) q_1_11 6 4) q_7 4 (some q_1_11)) q_3_11 21 5) q_7 5 (some q_3_11)) q_8_11 4 0)) (q := q_1_14_11) (ho_26).1 hq_1_14_11).trans hr_32
      have hr_42 : gQ (pQ (pW (pW (pQ (pW (pQ (pW (pW S q_7 3 0) q_1_11 6 4) q_7 4 (some q_1_11)) q_3_11 21 5) q_7 5 (some q_3_11)) q_8_11 4 0) q_1_14_11 10 4) q_8_11 0 (some q_1_14_11)) x 0 = some ar := (u2_a (ne_of_kind ho_33.2 ho_35.2 (by decide))).trans hr_39
      have hr_43 : gQ (pQ (pW (pW (pQ (pW (pQ (pW (pW S q_7 3 0) q_1_11 6 4) q_7 4 (some q_1_11)) q_3_11 21 5) q_7 5 (some q_3_11)) q_8_11 4 0) q_1_14_11 10 4) q_8_11 0 (some q_1_14_11)) q_7 4 = some q_1_11 := (u2_a (ne_of_kind ho_34.2 ho_35.2 (by decide))).trans hr_40
      have hr_44 : gQ (pQ (pW (pW (pQ (pW (pQ (pW (pW S q_7 3 0) q_1_11 6 4) q_7 4 (some q_1_11)) q_3_11 21 5) q_7 5 (some q_3_11)) q_8_11 4 0) q_1_14_11 10 4) q_8_11 0 (some q_1_14_11)) q_7 5 = some q_3_11 := (u2_a (ne_of_kind ho_34.2 ho_35.2 (by decide))).trans hr_41
      have ho_45 : isO (pW (pQ (pW (pW (pQ (pW (pQ (pW (pW S q_7 3 0) q_1_11 6 4) q_7 4 (some q_1_11)) q_3_11 21 5) q_7 5 (some q_3_11)) q_8_11 4 0) q_1_14_11 10 4) q_8_11 0 (some q_1_14_11)) q_3_14_11 11 4) x 5 := isO_new ho_33 hq_3_14_11
      have ho_46 : isO (pW (pQ (pW (pW (pQ (pW (pQ (pW (pW S q_7 3 0) q_1_11 6 4) q_7 4 (some q_1_11)) q_3_11 21 5) q_7 5 (some q_3_11)) q_8_11 4 0) q_1_14_11 10 4) q_8_11 0 (some q_1_14_11)) q_3_14_11 11 4) q_7 3 := isO_new ho_34 hq_3_14_11
      have ho_47 : isO (pW (pQ (pW (pW (pQ (pW (pQ (pW (pW S q_7 3 0) q_1_11 6 4) q_7 4 (some q_1_11)) q_3_11 21 5) q_7 5 (some q_3_11)) q_8_11 4 0) q_1_14_11 10 4) q_8_11 0 (some q_1_14_11)) q_3_14_11 11 4) q_8_11 4 := isO_new ho_35 hq_3_14_11
      have ha_48 : isA (pW (pQ (pW (pW (pQ (pW (pQ (pW (pW S q_7 3 0) q_1_11 6 4) q_7 4 (some q_1_11)) q_3_11 21 5) q_7 5 (some q_3_11)) q_8_11 4 0) q_1_14_11 10 4) q_8_11 0 (some q_1_14_11)) q_3_14_11 11 4) ar 22 8 := isA_new ha_36 hq_3_14_11
      have ha_49 : isA (pW (pQ (pW (pW (pQ (pW (pQ (pW (pW S q_7 3 0) q_1_11 6 4) q_7 4 (some q_1_11)) q_3_11 21 5) q_7 5 (some q_3_11)) q_8_11 4 0) q_1_14_11 10 4) q_8_11 0 (some q_1_14_11)) q_3_14_11 11 4) q_1_11 6 4 := isA_new ha_37 hq_3_14_11
      have ha_50 : isA (pW (pQ (pW (pW (pQ (pW (pQ (pW (pW S q_7 3 0) q_1_11 6 4) q_7 4 (some q_1_11)) q_3_11 21 5) q_7 5 (some q_3_11)) q_8_11 4 0) q_1_14_11 10 4) q_8_11 0 (some q_1_14_11)) q_3_14_11 11 4) q_3_11 21 5 := isA_new ha_38 hq_3_14_11
      have ha_51 : isA (pW (pQ (pW (pW (pQ (pW (pQ (pW (pW S q_7 3 0) q_1_11 6 4) q_7 4 (some q_1_11)) q_3_11 21 5) q_7 5 (some q_3_11)) q_8_11 4 0) q_1_14_11 10 4) q_8_11 0 (some q_1_14_11)) q_3_14_11 11 4) q_1_14_11 10 4 := isA_new isA_q hq_3_14_11
      have hr_52 : gQ (pW (pQ (pW (pW (pQ (pW (pQ (pW (pW S q_7 3 0) q_1_11 6 4) q_7 4 (some q_1_11)) q_3_11 21 5) q_7 5 (some q_3_11)) q_8_11 4 0) q_1_14_11 10 4) q_8_11 0 (some q_1_14_11)) q_3_14_11 11 4) x 0 = some ar := (gQ_new (S := (pQ (pW (pW (pQ (pW (pQ (pW (pW S q_7 3 0) q_1_11 6 4) q_7 4 (some q_1_11)) q_3_11 21 5) q_7 5 (some q_3_11)) q_8_11 4 0) q_1_14_11 10 4) q_8_11 0 (some q_1_14_11))) (q := q_3_14_11) (ho_33).1 hq_3_14_11).trans hr_42
      have hr_53 : gQ (pW (pQ (pW (pW (pQ (pW (pQ (pW (pW S q_7 3 0) q_1_11 6 4) q_7 4 (some q_1_11)) q_3_11 21 5) q_7 5 (some q_3_11)) q_8_11 4 0) q_1_14_11 10 4) q_8_11 0 (some q_1_14_11)) q_3_14_11 11 4) q_7 4 = some q_1_11 := (gQ_new (S := (pQ (pW (pW (pQ (pW (pQ (pW (pW S q_7 3 0) q_1_11 6 4) q_7 4 (some q_1_11)) q_3_11 21 5) q_7 5 (some q_3_11)) q_8_11 4 0) q_1_14_11 10 4) q_8_11 0 (some q_1_14_11))) (q := q_3_14_11) (ho_34).1 hq_3_14_11).trans hr_43
      have hr_54 : gQ (pW (pQ (pW (pW (pQ (pW (pQ (pW (pW S q_7 3 0) q_1_11 6 4) q_7 4 (some q_1_11)) q_3_11 21 5) q_7 5 (some q_3_11)) q_8_11 4 0) q_1_14_11 10 4) q_8_11 0 (some q_1_14_11)) q_3_14_11 11 4) q_7 5 = some q_3_11 := (gQ_new (S := (pQ (pW (pW (pQ (pW (pQ (pW (pW S q_7 3 0) q_1_11 6 4) q_7 4 (some q_1_11)) q_3_11 21 5) q_7 5 (some q_3_11)) q_8_11 4 0) q_1_14_11 10 4) q_8_11 0 (some q_1_14_11))) (q := q_3_14_11) (ho_34).1 hq_3_14_11).trans hr_44
      have hr_55 : gQ (pW (pQ (pW (pW (pQ (pW (pQ (pW (pW S q_7 3 0) q_1_11 6 4) q_7 4 (some q_1_11)) q_3_11 21 5) q_7 5 (some q_3_11)) q_8_11 4 0) q_1_14_11 10 4) q_8_11 0 (some q_1_14_11)) q_3_14_11 11 4) q_8_11 0 = some q_1_14_11 := (gQ_new (S := (pQ (pW (pW (pQ (pW (pQ (pW (pW S q_7 3 0) q_1_11 6 4) q_7 4 (some q_1_11)) q_3_11 21 5) q_7 5 (some q_3_11)) q_8_11 4 0) q_1_14_11 10 4) q_8_11 0 (some q_1_14_11))) (q := q_3_14_11) (ho_35).1 hq_3_14_11).trans u2_s
      have hr_56 : gQ (pQ (pW (pQ (pW (pW (pQ (pW (pQ (pW (pW S q_7 3 0) q_1_11 6 4) q_7 4 (some q_1_11)) q_3_11 21 5) q_7 5 (some q_3_11)) q_8_11 4 0) q_1_14_11 10 4) q_8_11 0 (some q_1_14_11)) q_3_14_11 11 4) q_8_11 1 (some q_3_14_11)) x 0 = some ar := (u2_a (ne_of_kind ho_45.2 ho_47.2 (by decide))).trans hr_52
      have hr_57 : gQ (pQ (pW (pQ (pW (pW (pQ (pW (pQ (pW (pW S q_7 3 0) q_1_11 6 4) q_7 4 (some q_1_11)) q_3_11 21 5) q_7 5 (some q_3_11)) q_8_11 4 0) q_1_14_11 10 4) q_8_11 0 (some q_1_14_11)) q_3_14_11 11 4) q_8_11 1 (some q_3_14_11)) q_7 4 = some q_1_11 := (u2_a (ne_of_kind ho_46.2 ho_47.2 (by decide))).trans hr_53
      have hr_58 : gQ (pQ (pW (pQ (pW (pW (pQ (pW (pQ (pW (pW S q_7 3 0) q_1_11 6 4) q_7 4 (some q_1_11)) q_3_11 21 5) q_7 5 (some q_3_11)) q_8_11 4 0) q_1_14_11 10 4) q_8_11 0 (some q_1_14_11)) q_3_14_11 11 4) q_8_11 1 (some q_3_14_11)) q_7 5 = some q_3_11 := (u2_a (ne_of_kind ho_46.2 ho_47.2 (by decide))).trans hr_54
      have hr_59 : gQ (pQ (pW (pQ (pW (pW (pQ (pW (pQ (pW (pW S q_7 3 0) q_1_11 6 4) q_7 4 (some q_1_11)) q_3_11 21 5) q_7 5 (some q_3_11)) q_8_11 4 0) q_1_14_11 10 4) q_8_11 0 (some q_1_14_11)) q_3_14_11 11 4) q_8_11 1 (some q_3_14_11)) q_8_11 0 = some q_1_14_11 := (u2_k (by decide)).trans hr_55
      have ho_60 : isO (pW (pQ (pW (pQ (pW (pW (pQ (pW (pQ (pW (pW S q_7 3 0) q_1_11 6 4) q_7 4 (some q_1_11)) q_3_11 21 5) q_7 5 (some q_3_11)) q_8_11 4 0) q_1_14_11 10 4) q_8_11 0 (some q_1_14_11)) q_3_14_11 11 4) q_8_11 1 (some q_3_14_11)) q_8_14_11 12 4) x 5 := isO_new ho_45 hq_8_14_11
      have ho_61 : isO (pW (pQ (pW (pQ (pW (pW (pQ (pW (pQ (pW (pW S q_7 3 0) q_1_11 6 4) q_7 4 (some q_1_11)) q_3_11 21 5) q_7 5 (some q_3_11)) q_8_11 4 0) q_1_14_11 10 4) q_8_11 0 (some q_1_14_11)) q_3_14_11 11 4) q_8_11 1 (some q_3_14_11)) q_8_14_11 12 4) q_7 3 := isO_new ho_46 hq_8_14_11
      have ho_62 : isO (pW (pQ (pW (pQ (pW (pW (pQ (pW (pQ (pW (pW S q_7 3 0) q_1_11 6 4) q_7 4 (some q_1_11)) q_3_11 21 5) q_7 5 (some q_3_11)) q_8_11 4 0) q_1_14_11 10 4) q_8_11 0 (some q_1_14_11)) q_3_14_11 11 4) q_8_11 1 (some q_3_14_11)) q_8_14_11 12 4) q_8_11 4 := isO_new ho_47 hq_8_14_11
      have ha_63 : isA (pW (pQ (pW (pQ (pW (pW (pQ (pW (pQ (pW (pW S q_7 3 0) q_1_11 6 4) q_7 4 (some q_1_11)) q_3_11 21 5) q_7 5 (some q_3_11)) q_8_11 4 0) q_1_14_11 10 4) q_8_11 0 (some q_1_14_11)) q_3_14_11 11 4) q_8_11 1 (some q_3_14_11)) q_8_14_11 12 4) ar 22 8 := isA_new ha_48 hq_8_14_11
      have ha_64 : isA (pW (pQ (pW (pQ (pW (pW (pQ (pW (pQ (pW (pW S q_7 3 0) q_1_11 6 4) q_7 4 (some q_1_11)) q_3_11 21 5) q_7 5 (some q_3_11)) q_8_11 4 0) q_1_14_11 10 4) q_8_11 0 (some q_1_14_11)) q_3_14_11 11 4) q_8_11 1 (some q_3_14_11)) q_8_14_11 12 4) q_1_11 6 4 := isA_new ha_49 hq_8_14_11
      have ha_65 : isA (pW (pQ (pW (pQ (pW (pW (pQ (pW (pQ (pW (pW S q_7 3 0) q_1_11 6 4) q_7 4 (some q_1_11)) q_3_11 21 5) q_7 5 (some q_3_11)) q_8_11 4 0) q_1_14_11 10 4) q_8_11 0 (some q_1_14_11)) q_3_14_11 11 4) q_8_11 1 (some q_3_14_11)) q_8_14_11 12 4) q_3_11 21 5 := isA_new ha_50 hq_8_14_11
      have ha_66 : isA (pW (pQ (pW (pQ (pW (pW (pQ (pW (pQ (pW (pW S q_7 3 0) q_1_11 6 4) q_7 4 (some q_1_11)) q_3_11 21 5) q_7 5 (some q_3_11)) q_8_11 4 0) q_1_14_11 10 4) q_8_11 0 (some q_1_14_11)) q_3_14_11 11 4) q_8_11 1 (some q_3_14_11)) q_8_14_11 12 4) q_1_14_11 10 4 := isA_new ha_51 hq_8_14_11
      have ha_67 : isA (pW (pQ (pW (pQ (pW (pW (pQ (pW (pQ (pW (pW S q_7 3 0) q_1_11 6 4) q_7 4 (some q_1_11)) q_3_11 21 5) q_7 5 (some q_3_11)) q_8_11 4 0) q_1_14_11 10 4) q_8_11 0 (some q_1_14_11)) q_3_14_11 11 4) q_8_11 1 (some q_3_14_11)) q_8_14_11 12 4) q_3_14_11 11 4 := isA_new isA_q hq_8_14_11
      have hr_68 : gQ (pW (pQ (pW (pQ (pW (pW (pQ (pW (pQ (pW (pW S q_7 3 0) q_1_11 6 4) q_7 4 (some q_1_11)) q_3_11 21 5) q_7 5 (some q_3_11)) q_8_11 4 0) q_1_14_11 10 4) q_8_11 0 (some q_1_14_11)) q_3_14_11 11 4) q_8_11 1 (some q_3_14_11)) q_8_14_11 12 4) x 0 = some ar := (gQ_new (S := (pQ (pW (pQ (pW (pW (pQ (pW (pQ (pW (pW S q_7 3 0) q_1_11 6 4) q_7 4 (some q_1_11)) q_3_11 21 5) q_7 5 (some q_3_11)) q_8_11 4 0) q_1_14_11 10 4) q_8_11 0 (some q_1_14_11)) q_3_14_11 11 4) q_8_11 1 (some q_3_14_11))) (q := q_8_14_11) (ho_45).1 hq_8_14_11).trans hr_56
      have hr_69 : gQ (pW (pQ (pW (pQ (pW (pW (pQ (pW (pQ (pW (pW S q_7 3 0) q_1_11 6 4) q_7 4 (some q_1_11)) q_3_11 21 5) q_7 5 (some q_3_11)) q_8_11 4 0) q_1_14_11 10 4) q_8_11 0 (some q_1_14_11)) q_3_14_11 11 4) q_8_11 1 (some q_3_14_11)) q_8_14_11 12 4) q_7 4 = some q_1_11 := (gQ_new (S := (pQ (pW (pQ (pW (pW (pQ (pW (pQ (pW (pW S q_7 3 0) q_1_11 6 4) q_7 4 (some q_1_11)) q_3_11 21 5) q_7 5 (some q_3_11)) q_8_11 4 0) q_1_14_11 10 4) q_8_11 0 (some q_1_14_11)) q_3_14_11 11 4) q_8_11 1 (some q_3_14_11))) (q := q_8_14_11) (ho_46).1 hq_8_14_11).trans hr_57
      have hr_70 : gQ (pW (pQ (pW (pQ (pW (pW (pQ (pW (pQ (pW (pW S q_7 3 0) q_1_11 6 4) q_7 4 (some q_1_11)) q_3_11 21 5) q_7 5 (some q_3_11)) q_8_11 4 0) q_1_14_11 10 4) q_8_11 0 (some q_1_14_11)) q_3_14_11 11 4) q_8_11 1 (some q_3_14_11)) q_8_14_11 12 4) q_7 5 = some q_3_11 := (gQ_new (S := (pQ (pW (pQ (pW (pW (pQ (pW (pQ (pW (pW S q_7 3 0) q_1_11 6 4) q_7 4 (some q_1_11)) q_3_11 21 5) q_7 5 (some q_3_11)) q_8_11 4 0) q_1_14_11 10 4) q_8_11 0 (some q_1_14_11)) q_3_14_11 11 4) q_8_11 1 (some q_3_14_11))) (q := q_8_14_11) (ho_46).1 hq_8_14_11).trans hr_58
      have hr_71 : gQ (pW (pQ (pW (pQ (pW (pW (pQ (pW (pQ (pW (pW S q_7 3 0) q_1_11 6 4) q_7 4 (some q_1_11)) q_3_11 21 5) q_7 5 (some q_3_11)) q_8_11 4 0) q_1_14_11 10 4) q_8_11 0 (some q_1_14_11)) q_3_14_11 11 4) q_8_11 1 (some q_3_14_11)) q_8_14_11 12 4) q_8_11 0 = some q_1_14_11 := (gQ_new (S := (pQ (pW (pQ (pW (pW (pQ (pW (pQ (pW (pW S q_7 3 0) q_1_11 6 4) q_7 4 (some q_1_11)) q_3_11 21 5) q_7 5 (some q_3_11)) q_8_11 4 0) q_1_14_11 10 4) q_8_11 0 (some q_1_14_11)) q_3_14_11 11 4) q_8_11 1 (some q_3_14_11))) (q := q_8_14_11) (ho_47).1 hq_8_14_11).trans hr_59
      have hr_72 : gQ (pW (pQ (pW (pQ (pW (pW (pQ (pW (pQ (pW (pW S q_7 3 0) q_1_11 6 4) q_7 4 (some q_1_11)) q_3_11 21 5) q_7 5 (some q_3_11)) q_8_11 4 0) q_1_14_11 10 4) q_8_11 0 (some q_1_14_11)) q_3_14_11 11 4) q_8_11 1 (some q_3_14_11)) q_8_14_11 12 4) q_8_11 1 = some q_3_14_11 := (gQ_new (S := (pQ (pW (pQ (pW (pW (pQ (pW (pQ (pW (pW S q_7 3 0) q_1_11 6 4) q_7 4 (some q_1_11)) q_3_11 21 5) q_7 5 (some q_3_11)) q_8_11 4 0) q_1_14_11 10 4) q_8_11 0 (some q_1_14_11)) q_3_14_11 11 4) q_8_11 1 (some q_3_14_11))) (q := q_8_14_11) (ho_47).1 hq_8_14_11).trans u2_s
      have hr_73 : gQ (pQ (pW (pQ (pW (pQ (pW (pW (pQ (pW (pQ (pW (pW S q_7 3 0) q_1_11 6 4) q_7 4 (some q_1_11)) q_3_11 21 5) q_7 5 (some q_3_11)) q_8_11 4 0) q_1_14_11 10 4) q_8_11 0 (some q_1_14_11)) q_3_14_11 11 4) q_8_11 1 (some q_3_14_11)) q_8_14_11 12 4) q_8_11 2 (some q_8_14_11)) x 0 = some ar := (u2_a (ne_of_kind ho_60.2 ho_62.2 (by decide))).trans hr_68
      have hr_74 : gQ (pQ (pW (pQ (pW (pQ (pW (pW (pQ (pW (pQ (pW (pW S q_7 3 0) q_1_11 6 4) q_7 4 (some q_1_11)) q_3_11 21 5) q_7 5 (some q_3_11)) q_8_11 4 0) q_1_14_11 10 4) q_8_11 0 (some q_1_14_11)) q_3_14_11 11 4) q_8_11 1 (some q_3_14_11)) q_8_14_11 12 4) q_8_11 2 (some q_8_14_11)) q_7 4 = some q_1_11 := (u2_a (ne_of_kind ho_61.2 ho_62.2 (by decide))).trans hr_69
      have hr_75 : gQ (pQ (pW (pQ (pW (pQ (pW (pW (pQ (pW (pQ (pW (pW S q_7 3 0) q_1_11 6 4) q_7 4 (some q_1_11)) q_3_11 21 5) q_7 5 (some q_3_11)) q_8_11 4 0) q_1_14_11 10 4) q_8_11 0 (some q_1_14_11)) q_3_14_11 11 4) q_8_11 1 (some q_3_14_11)) q_8_14_11 12 4) q_8_11 2 (some q_8_14_11)) q_7 5 = some q_3_11 := (u2_a (ne_of_kind ho_61.2 ho_62.2 (by decide))).trans hr_70
      have hr_76 : gQ (pQ (pW (pQ (pW (pQ (pW (pW (pQ (pW (pQ (pW (pW S q_7 3 0) q_1_11 6 4) q_7 4 (some q_1_11)) q_3_11 21 5) q_7 5 (some q_3_11)) q_8_11 4 0) q_1_14_11 10 4) q_8_11 0 (some q_1_14_11)) q_3_14_11 11 4) q_8_11 1 (some q_3_14_11)) q_8_14_11 12 4) q_8_11 2 (some q_8_14_11)) q_8_11 0 = some q_1_14_11 := (u2_k (by decide)).trans hr_71
      have hr_77 : gQ (pQ (pW (pQ (pW (pQ (pW (pW (pQ (pW (pQ (pW (pW S q_7 3 0) q_1_11 6 4) q_7 4 (some q_1_11)) q_3_11 21 5) q_7 5 (some q_3_11)) q_8_11 4 0) q_1_14_11 10 4) q_8_11 0 (some q_1_14_11)) q_3_14_11 11 4) q_8_11 1 (some q_3_14_11)) q_8_14_11 12 4) q_8_11 2 (some q_8_14_11)) q_8_11 1 = some q_3_14_11 := (u2_k (by decide)).trans hr_72
      have ho_78 : isO (pW (pQ (pW (pQ (pW (pQ (pW (pW (pQ (pW (pQ (pW (pW S q_7 3 0) q_1_11 6 4) q_7 4 (some q_1_11)) q_3_11 21 5) q_7 5 (some q_3_11)) q_8_11 4 0) q_1_14_11 10 4) q_8_11 0 (some q_1_14_11)) q_3_14_11 11 4) q_8_11 1 (some q_3_14_11)) q_8_14_11 12 4) q_8_11 2 (some q_8_14_11)) q_16_14_11 20 4) x 5 := isO_new ho_60 hq_16_14_11
      have ho_79 : isO (pW (pQ (pW (pQ (pW (pQ (pW (pW (pQ (pW (pQ (pW (pW S q_7 3 0) q_1_11 6 4) q_7 4 (some q_1_11)) q_3_11 21 5) q_7 5 (some q_3_11)) q_8_11 4 0) q_1_14_11 10 4) q_8_11 0 (some q_1_14_11)) q_3_14_11 11 4) q_8_11 1 (some q_3_14_11)) q_8_14_11 12 4) q_8_11 2 (some q_8_14_11)) q_16_14_11 20 4) q_7 3 := isO_new ho_61 hq_16_14_11
      have ho_80 : isO (pW (pQ (pW (pQ (pW (pQ (pW (pW (pQ (pW (pQ (pW (pW S q_7 3 0) q_1_11 6 4) q_7 4 (some q_1_11)) q_3_11 21 5) q_7 5 (some q_3_11)) q_8_11 4 0) q_1_14_11 10 4) q_8_11 0 (some q_1_14_11)) q_3_14_11 11 4) q_8_11 1 (some q_3_14_11)) q_8_14_11 12 4) q_8_11 2 (some q_8_14_11)) q_16_14_11 20 4) q_8_11 4 := isO_new ho_62 hq_16_14_11
      have ha_81 : isA (pW (pQ (pW (pQ (pW (pQ (pW (pW (pQ (pW (pQ (pW (pW S q_7 3 0) q_1_11 6 4) q_7 4 (some q_1_11)) q_3_11 21 5) q_7 5 (some q_3_11)) q_8_11 4 0) q_1_14_11 10 4) q_8_11 0 (some q_1_14_11)) q_3_14_11 11 4) q_8_11 1 (some q_3_14_11)) q_8_14_11 12 4) q_8_11 2 (some q_8_14_11)) q_16_14_11 20 4) ar 22 8 := isA_new ha_63 hq_16_14_11
      have ha_82 : isA (pW (pQ (pW (pQ (pW (pQ (pW (pW (pQ (pW (pQ (pW (pW S q_7 3 0) q_1_11 6 4) q_7 4 (some q_1_11)) q_3_11 21 5) q_7 5 (some q_3_11)) q_8_11 4 0) q_1_14_11 10 4) q_8_11 0 (some q_1_14_11)) q_3_14_11 11 4) q_8_11 1 (some q_3_14_11)) q_8_14_11 12 4) q_8_11 2 (some q_8_14_11)) q_16_14_11 20 4) q_1_11 6 4 := isA_new ha_64 hq_16_14_11
      have ha_83 : isA (pW (pQ (pW (pQ (pW (pQ (pW (pW (pQ (pW (pQ (pW (pW S q_7 3 0) q_1_11 6 4) q_7 4 (some q_1_11)) q_3_11 21 5) q_7 5 (some q_3_11)) q_8_11 4 0) q_1_14_11 10 4) q_8_11 0 (some q_1_14_11)) q_3_14_11 11 4) q_8_11 1 (some q_3_14_11)) q_8_14_11 12 4) q_8_11 2 (some q_8_14_11)) q_16_14_11 20 4) q_3_11 21 5 := isA_new ha_65 hq_16_14_11
      have ha_84 : isA (pW (pQ (pW (pQ (pW (pQ (pW (pW (pQ (pW (pQ (pW (pW S q_7 3 0) q_1_11 6 4) q_7 4 (some q_1_11)) q_3_11 21 5) q_7 5 (some q_3_11)) q_8_11 4 0) q_1_14_11 10 4) q_8_11 0 (some q_1_14_11)) q_3_14_11 11 4) q_8_11 1 (some q_3_14_11)) q_8_14_11 12 4) q_8_11 2 (some q_8_14_11)) q_16_14_11 20 4) q_1_14_11 10 4 := isA_new ha_66 hq_16_14_11
      have ha_85 : isA (pW (pQ (pW (pQ (pW (pQ (pW (pW (pQ (pW (pQ (pW (pW S q_7 3 0) q_1_11 6 4) q_7 4 (some q_1_11)) q_3_11 21 5) q_7 5 (some q_3_11)) q_8_11 4 0) q_1_14_11 10 4) q_8_11 0 (some q_1_14_11)) q_3_14_11 11 4) q_8_11 1 (some q_3_14_11)) q_8_14_11 12 4) q_8_11 2 (some q_8_14_11)) q_16_14_11 20 4) q_3_14_11 11 4 := isA_new ha_67 hq_16_14_11
      have ha_86 : isA (pW (pQ (pW (pQ (pW (pQ (pW (pW (pQ (pW (pQ (pW (pW S q_7 3 0) q_1_11 6 4) q_7 4 (some q_1_11)) q_3_11 21 5) q_7 5 (some q_3_11)) q_8_11 4 0) q_1_14_11 10 4) q_8_11 0 (some q_1_14_11)) q_3_14_11 11 4) q_8_11 1 (some q_3_14_11)) q_8_14_11 12 4) q_8_11 2 (some q_8_14_11)) q_16_14_11 20 4) q_8_14_11 12 4 := isA_new isA_q hq_16_14_11
      have hr_87 : gQ (pW (pQ (pW (pQ (pW (pQ (pW (pW (pQ (pW (pQ (pW (pW S q_7 3 0) q_1_11 6 4) q_7 4 (some q_1_11)) q_3_11 21 5) q_7 5 (some q_3_11)) q_8_11 4 0) q_1_14_11 10 4) q_8_11 0 (some q_1_14_11)) q_3_14_11 11 4) q_8_11 1 (some q_3_14_11)) q_8_14_11 12 4) q_8_11 2 (some q_8_14_11)) q_16_14_11 20 4) x 0 = some ar := (gQ_new (S := (pQ (pW (pQ (pW (pQ (pW (pW (pQ (pW (pQ (pW (pW S q_7 3 0) q_1_11 6 4) q_7 4 (some q_1_11)) q_3_11 21 5) q_7 5 (some q_3_11)) q_8_11 4 0) q_1_14_11 10 4) q_8_11 0 (some q_1_14_11)) q_3_14_11 11 4) q_8_11 1 (some q_3_14_11)) q_8_14_11 12 4) q_8_11 2 (some q_8_14_11))) (q := q_16_14_11) (ho_60).1 hq_16_14_11).trans hr_73
      have hr_88 : gQ (pW (pQ (pW (pQ (pW (pQ (pW (pW (pQ (pW (pQ (pW (pW S q_7 3 0) q_1_11 6 4) q_7 4 (some q_1_11)) q_3_11 21 5) q_7 5 (some q_3_11)) q_8_11 4 0) q_1_14_11 10 4) q_8_11 0 (some q_1_14_11)) q_3_14_11 11 4) q_8_11 1 (some q_3_14_11)) q_8_14_11 12 4) q_8_11 2 (some q_8_14_11)) q_16_14_11 20 4) q_7 4 = some q_1_11 := (gQ_new (S := (pQ (pW (pQ (pW (pQ (pW (pW (pQ (pW (pQ (pW (pW S q_7 3 0) q_1_11 6 4) q_7 4 (some q_1_11)) q_3_11 21 5) q_7 5 (some q_3_11)) q_8_11 4 0) q_1_14_11 10 4) q_8_11 0 (some q_1_14_11)) q_3_14_11 11 4) q_8_11 1 (some q_3_14_11)) q_8_14_11 12 4) q_8_11 2 (some q_8_14_11))) (q := q_16_14_11) (ho_61).1 hq_16_14_11).trans hr_74
      have hr_89 : gQ (pW (pQ (pW (pQ (pW (pQ (pW (pW (pQ (pW (pQ (pW (pW S q_7 3 0) q_1_11 6 4) q_7 4 (some q_1_11)) q_3_11 21 5) q_7 5 (some q_3_11)) q_8_11 4 0) q_1_14_11 10 4) q_8_11 0 (some q_1_14_11)) q_3_14_11 11 4) q_8_11 1 (some q_3_14_11)) q_8_14_11 12 4) q_8_11 2 (some q_8_14_11)) q_16_14_11 20 4) q_7 5 = some q_3_11 := (gQ_new (S := (pQ (pW (pQ (pW (pQ (pW (pW (pQ (pW (pQ (pW (pW S q_7 3 0) q_1_11 6 4) q_7 4 (some q_1_11)) q_3_11 21 5) q_7 5 (some q_3_11)) q_8_11 4 0) q_1_14_11 10 4) q_8_11 0 (some q_1_14_11)) q_3_14_11 11 4) q_8_11 1 (some q_3_14_11)) q_8_14_11 12 4) q_8_11 2 (some q_8_14_11))) (q := q_16_14_11) (ho_61).1 hq_16_14_11).trans hr_75
      have hr_90 : gQ (pW (pQ (pW (pQ (pW (pQ (pW (pW (pQ (pW (pQ (pW (pW S q_7 3 0) q_1_11 6 4) q_7 4 (some q_1_11)) q_3_11 21 5) q_7 5 (some q_3_11)) q_8_11 4 0) q_1_14_11 10 4) q_8_11 0 (some q_1_14_11)) q_3_14_11 11 4) q_8_11 1 (some q_3_14_11)) q_8_14_11 12 4) q_8_11 2 (some q_8_14_11)) q_16_14_11 20 4) q_8_11 0 = some q_1_14_11 := (gQ_new (S := (pQ (pW (pQ (pW (pQ (pW (pW (pQ (pW (pQ (pW (pW S q_7 3 0) q_1_11 6 4) q_7 4 (some q_1_11)) q_3_11 21 5) q_7 5 (some q_3_11)) q_8_11 4 0) q_1_14_11 10 4) q_8_11 0 (some q_1_14_11)) q_3_14_11 11 4) q_8_11 1 (some q_3_14_11)) q_8_14_11 12 4) q_8_11 2 (some q_8_14_11))) (q := q_16_14_11) (ho_62).1 hq_16_14_11).trans hr_76
      have hr_91 : gQ (pW (pQ (pW (pQ (pW (pQ (pW (pW (pQ (pW (pQ (pW (pW S q_7 3 0) q_1_11 6 4) q_7 4 (some q_1_11)) q_3_11 21 5) q_7 5 (some q_3_11)) q_8_11 4 0) q_1_14_11 10 4) q_8_11 0 (some q_1_14_11)) q_3_14_11 11 4) q_8_11 1 (some q_3_14_11)) q_8_14_11 12 4) q_8_11 2 (some q_8_14_11)) q_16_14_11 20 4) q_8_11 1 = some q_3_14_11 := (gQ_new (S := (pQ (pW (pQ (pW (pQ (pW (pW (pQ (pW (pQ (pW (pW S q_7 3 0) q_1_11 6 4) q_7 4 (some q_1_11)) q_3_11 21 5) q_7 5 (some q_3_11)) q_8_11 4 0) q_1_14_11 10 4) q_8_11 0 (some q_1_14_11)) q_3_14_11 11 4) q_8_11 1 (some q_3_14_11)) q_8_14_11 12 4) q_8_11 2 (some q_8_14_11))) (q := q_16_14_11) (ho_62).1 hq_16_14_11).trans hr_77
      have hr_92 : gQ (pW (pQ (pW (pQ (pW (pQ (pW (pW (pQ (pW (pQ (pW (pW S q_7 3 0) q_1_11 6 4) q_7 4 (some q_1_11)) q_3_11 21 5) q_7 5 (some q_3_11)) q_8_11 4 0) q_1_14_11 10 4) q_8_11 0 (some q_1_14_11)) q_3_14_11 11 4) q_8_11 1 (some q_3_14_11)) q_8_14_11 12 4) q_8_11 2 (some q_8_14_11)) q_16_14_11 20 4) q_8_11 2 = some q_8_14_11 := (gQ_new (S := (pQ (pW (pQ (pW (pQ (pW (pW (pQ (pW (pQ (pW (pW S q_7 3 0) q_1_11 6 4) q_7 4 (some q_1_11)) q_3_11 21 5) q_7 5 (some q_3_11)) q_8_11 4 0) q_1_14_11 10 4) q_8_11 0 (some q_1_14_11)) q_3_14_11 11 4) q_8_11 1 (some q_3_14_11)) q_8_14_11 12 4) q_8_11 2 (some q_8_14_11))) (q := q_16_14_11) (ho_62).1 hq_16_14_11).trans u2_s
      have hr_93 : gQ (pQ (pW (pQ (pW (pQ (pW (pQ (pW (pW (pQ (pW (pQ (pW (pW S q_7 3 0) q_1_11 6 4) q_7 4 (some q_1_11)) q_3_11 21 5) q_7 5 (some q_3_11)) q_8_11 4 0) q_1_14_11 10 4) q_8_11 0 (some q_1_14_11)) q_3_14_11 11 4) q_8_11 1 (some q_3_14_11)) q_8_14_11 12 4) q_8_11 2 (some q_8_14_11)) q_16_14_11 20 4) q_8_11 3 (some q_16_14_11)) x 0 = some ar := (u2_a (ne_of_kind ho_78.2 ho_80.2 (by decide))).trans hr_87
      have hr_94 : gQ (pQ (pW (pQ (pW (pQ (pW (pQ (pW (pW (pQ (pW (pQ (pW (pW S q_7 3 0) q_1_11 6 4) q_7 4 (some q_1_11)) q_3_11 21 5) q_7 5 (some q_3_11)) q_8_11 4 0) q_1_14_11 10 4) q_8_11 0 (some q_1_14_11)) q_3_14_11 11 4) q_8_11 1 (some q_3_14_11)) q_8_14_11 12 4) q_8_11 2 (some q_8_14_11)) q_16_14_11 20 4) q_8_11 3 (some q_16_14_11)) q_7 4 = some q_1_11 := (u2_a (ne_of_kind ho_79.2 ho_80.2 (by decide))).trans hr_88
      have hr_95 : gQ (pQ (pW (pQ (pW (pQ (pW (pQ (pW (pW (pQ (pW (pQ (pW (pW S q_7 3 0) q_1_11 6 4) q_7 4 (some q_1_11)) q_3_11 21 5) q_7 5 (some q_3_11)) q_8_11 4 0) q_1_14_11 10 4) q_8_11 0 (some q_1_14_11)) q_3_14_11 11 4) q_8_11 1 (some q_3_14_11)) q_8_14_11 12 4) q_8_11 2 (some q_8_14_11)) q_16_14_11 20 4) q_8_11 3 (some q_16_14_11)) q_7 5 = some q_3_11 := (u2_a (ne_of_kind ho_79.2 ho_80.2 (by decide))).trans hr_89
      have hr_96 : gQ (pQ (pW (pQ (pW (pQ (pW (pQ (pW (pW (pQ (pW (pQ (pW (pW S q_7 3 0) q_1_11 6 4) q_7 4 (some q_1_11)) q_3_11 21 5) q_7 5 (some q_3_11)) q_8_11 4 0) q_1_14_11 10 4) q_8_11 0 (some q_1_14_11)) q_3_14_11 11 4) q_8_11 1 (some q_3_14_11)) q_8_14_11 12 4) q_8_11 2 (some q_8_14_11)) q_16_14_11 20 4) q_8_11 3 (some q_16_14_11)) q_8_11 0 = some q_1_14_11 := (u2_k (by decide)).trans hr_90
      have hr_97 : gQ (pQ (pW (pQ (pW (pQ (pW (pQ (pW (pW (pQ (pW (pQ (pW (pW S q_7 3 0) q_1_11 6 4) q_7 4 (some q_1_11)) q_3_11 21 5) q_7 5 (some q_3_11)) q_8_11 4 0) q_1_14_11 10 4) q_8_11 0 (some q_1_14_11)) q_3_14_11 11 4) q_8_11 1 (some q_3_14_11)) q_8_14_11 12 4) q_8_11 2 (some q_8_14_11)) q_16_14_11 20 4) q_8_11 3 (some q_16_14_11)) q_8_11 1 = some q_3_14_11 := (u2_k (by decide)).trans hr_91
      have hr_98 : gQ (pQ (pW (pQ (pW (pQ (pW (pQ (pW (pW (pQ (pW (pQ (pW (pW S q_7 3 0) q_1_11 6 4) q_7 4 (some q_1_11)) q_3_11 21 5) q_7 5 (some q_3_11)) q_8_11 4 0) q_1_14_11 10 4) q_8_11 0 (some q_1_14_11)) q_3_14_11 11 4) q_8_11 1 (some q_3_14_11)) q_8_14_11 12 4) q_8_11 2 (some q_8_14_11)) q_16_14_11 20 4) q_8_11 3 (some q_16_14_11)) q_8_11 2 = some q_8_14_11 := (u2_k (by decide)).trans hr_92
      have hr_99 : gQ (pQ (pQ (pW (pQ (pW (pQ (pW (pQ (pW (pW (pQ (pW (pQ (pW (pW S q_7 3 0) q_1_11 6 4) q_7 4 (some q_1_11)) q_3_11 21 5) q_7 5 (some q_3_11)) q_8_11 4 0) q_1_14_11 10 4) q_8_11 0 (some q_1_14_11)) q_3_14_11 11 4) q_8_11 1 (some q_3_14_11)) q_8_14_11 12 4) q_8_11 2 (some q_8_14_11)) q_16_14_11 20 4) q_8_11 3 (some q_16_14_11)) q_7 6 (some q_8_11)) x 0 = some ar := (u2_a (ne_of_kind ho_78.2 ho_79.2 (by decide))).trans hr_93
      have hr_100 : gQ (pQ (pQ (pW (pQ (pW (pQ (pW (pQ (pW (pW (pQ (pW (pQ (pW (pW S q_7 3 0) q_1_11 6 4) q_7 4 (some q_1_11)) q_3_11 21 5) q_7 5 (some q_3_11)) q_8_11 4 0) q_1_14_11 10 4) q_8_11 0 (some q_1_14_11)) q_3_14_11 11 4) q_8_11 1 (some q_3_14_11)) q_8_14_11 12 4) q_8_11 2 (some q_8_14_11)) q_16_14_11 20 4) q_8_11 3 (some q_16_14_11)) q_7 6 (some q_8_11)) q_7 4 = some q_1_11 := (u2_k (by decide)).trans hr_94
      have hr_101 : gQ (pQ (pQ (pW (pQ (pW (pQ (pW (pQ (pW (pW (pQ (pW (pQ (pW (pW S q_7 3 0) q_1_11 6 4) q_7 4 (some q_1_11)) q_3_11 21 5) q_7 5 (some q_3_11)) q_8_11 4 0) q_1_14_11 10 4) q_8_11 0 (some q_1_14_11)) q_3_14_11 11 4) q_8_11 1 (some q_3_14_11)) q_8_14_11 12 4) q_8_11 2 (some q_8_14_11)) q_16_14_11 20 4) q_8_11 3 (some q_16_14_11)) q_7 6 (some q_8_11)) q_7 5 = some q_3_11 := (u2_k (by decide)).trans hr_95
      have hr_102 : gQ (pQ (pQ (pW (pQ (pW (pQ (pW (pQ (pW (pW (pQ (pW (pQ (pW (pW S q_7 3 0) q_1_11 6 4) q_7 4 (some q_1_11)) q_3_11 21 5) q_7 5 (some q_3_11)) q_8_11 4 0) q_1_14_11 10 4) q_8_11 0 (some q_1_14_11)) q_3_14_11 11 4) q_8_11 1 (some q_3_14_11)) q_8_14_11 12 4) q_8_11 2 (some q_8_14_11)) q_16_14_11 20 4) q_8_11 3 (some q_16_14_11)) q_7 6 (some q_8_11)) q_8_11 0 = some q_1_14_11 := (u2_a (ne_of_kind ho_80.2 ho_79.2 (by decide))).trans hr_96
      have hr_103 : gQ (pQ (pQ (pW (pQ (pW (pQ (pW (pQ (pW (pW (pQ (pW (pQ (pW (pW S q_7 3 0) q_1_11 6 4) q_7 4 (some q_1_11)) q_3_11 21 5) q_7 5 (some q_3_11)) q_8_11 4 0) q_1_14_11 10 4) q_8_11 0 (some q_1_14_11)) q_3_14_11 11 4) q_8_11 1 (some q_3_14_11)) q_8_14_11 12 4) q_8_11 2 (some q_8_14_11)) q_16_14_11 20 4) q_8_11 3 (some q_16_14_11)) q_7 6 (some q_8_11)) q_8_11 1 = some q_3_14_11 := (u2_a (ne_of_kind ho_80.2 ho_79.2 (by decide))).trans hr_97
      have hr_104 : gQ (pQ (pQ (pW (pQ (pW (pQ (pW (pQ (pW (pW (pQ (pW (pQ (pW (pW S q_7 3 0) q_1_11 6 4) q_7 4 (some q_1_11)) q_3_11 21 5) q_7 5 (some q_3_11)) q_8_11 4 0) q_1_14_11 10 4) q_8_11 0 (some q_1_14_11)) q_3_14_11 11 4) q_8_11 1 (some q_3_14_11)) q_8_14_11 12 4) q_8_11 2 (some q_8_14_11)) q_16_14_11 20 4) q_8_11 3 (some q_16_14_11)) q_7 6 (some q_8_11)) q_8_11 2 = some q_8_14_11 := (u2_a (ne_of_kind ho_80.2 ho_79.2 (by decide))).trans hr_98
      have hr_105 : gQ (pQ (pQ (pW (pQ (pW (pQ (pW (pQ (pW (pW (pQ (pW (pQ (pW (pW S q_7 3 0) q_1_11 6 4) q_7 4 (some q_1_11)) q_3_11 21 5) q_7 5 (some q_3_11)) q_8_11 4 0) q_1_14_11 10 4) q_8_11 0 (some q_1_14_11)) q_3_14_11 11 4) q_8_11 1 (some q_3_14_11)) q_8_14_11 12 4) q_8_11 2 (some q_8_14_11)) q_16_14_11 20 4) q_8_11 3 (some q_16_14_11)) q_7 6 (some q_8_11)) q_8_11 3 = some q_16_14_11 := (u2_a (ne_of_kind ho_80.2 ho_79.2 (by decide))).trans u2_s
      refine kx_asts hx hb hK hP hD hS ha_81 ho_79 (kz_in (by decide) hc0 hc1) dX5_add_79 (fun H locs hP hD hS => ?_)
      refine lv_aload_n hx hb dX5_add_80 rfl (lv_at hl 1 rfl) ?_
      refine lv_iload hx hb dX5_add_81 (lv_at hl 0 rfl) ?_
      refine lv_iconst (v := 1) hx hb dX5_add_83 (by decide) ?_
      refine lv_iadd hx hb dX5_add_84 ?_
      refine kx_puti (ty := .int) hx hb htT m_u_X5 tyX5 tyX5_ok nmX5 hown hK hP hD hS ho_78 (Nat.le_of_ble_eq_true rfl) rfl 2 (by decide) (by decide) rfl (htT _ m_fl_X5_33) rfl (by decide +kernel) rfl rfl dX5_add_85 (fun H locs hP hD hS => ?_)
      refine lv_iload hx hb dX5_add_88 (lv_at hl 0 rfl) ?_
      exact W.iret (v := gI S x 2) hx hb hr (fun t ht hW => ⟨⟨gI S x 2, pI (pP (pR (pI (pI (pI (pI (pI (pI (pI (pQ (pQ (pW (pQ (pW (pQ (pW (pQ (pW (pW (pQ (pW (pQ (pW (pW S q_7 3 0) q_1_11 6 4) q_7 4 (some q_1_11)) q_3_11 21 5) q_7 5 (some q_3_11)) q_8_11 4 0) q_1_14_11 10 4) q_8_11 0 (some q_1_14_11)) q_3_14_11 11 4) q_8_11 1 (some q_3_14_11)) q_8_14_11 12 4) q_8_11 2 (some q_8_14_11)) q_16_14_11 20 4) q_8_11 3 (some q_16_14_11)) q_7 6 (some q_8_11)) q_7 10 1000) q_7 13 (-1)) q_7 16 (-1)) q_7 0 (gI S x 2)) q_7 1 p0) q_7 2 p1) q_7 3 p2) q_1_11 ((0 : Int32).toNatClampNeg) 1000) ar (gI S x 2).toNatClampNeg (some q_7)) x 2 ((gI S x 2) + 1), rfl, ⟨rfl, q_7, q_1_11, q_3_11, q_8_11, q_1_14_11, q_3_14_11, q_8_14_11, q_16_14_11, hq_7, hq_1_11, hq_3_11, hq_8_11, hq_1_14_11, hq_3_14_11, hq_8_14_11, hq_16_14_11, rfl⟩, by rw [ht]; exact hP, va_K.moved hW.alike hK, hD⟩, hS.F ht⟩) hS.2.2 dX5_add_90
    · exact absurd hc1 c_6

set_option maxRecDepth 100000 in
set_option maxHeartbeats 4000000 in
theorem c_add_t1 (l : Launch) (hst : l.stackTraces = false) (D : va_G) (cA : Nat → ClassId) (sz : Nat) (S : Pool) (x : Nat) (ho : isO S x 5) (p0 p1 p2 : Int32) (h1 : kOut p0 0 498 = 1) : vx_Met l yX5_add (Cond.code yX5_add cX5_add 5 (some .int) :: TT) ({ frames := 6, cells := 1, slots := 6, locals := 82 }) (va_Pc [.ref x, .int p0, .int p1, .int p2] (kPreX D cA (PW cA S) sz)) kNo (kXC D cA (PW cA S) "java/lang/IllegalArgumentException" (va_A (PW cA S) sz)) 1 6 (va_A (PW cA S) sz) := by
  refine vx_ofW (cc := cX5_add) (maxL := 5) (ret := (some .int)) (by decide) rfl ?_
  intro p e s m args below meth c s₁ B hml hTab hv
  obtain ⟨rfl, ⟨hsz, hP, hK, hD0, hTB⟩, hTX⟩ := hv
  have hx := B.exec
  have hb := B.bytes
  have hr := B.returns
  have hts := atoms_spec (ws := Cond.code yX5_add cX5_add 5 (some .int) :: TT) B.pre
  have htT : ∀ w ∈ TT, w.before _ s = true := fun w h => hts w (List.mem_cons_of_mem _ h)
  have hown : s.vm.findClass RX5 = some m.cls := findClass_of_methodNamed B.named
  have hlocks := B.notSynchronized
  subst hsz
  have hD := hD0.self (sz := s.heap.size)
  generalize hAe : va_A (PW cA S) s.heap.size = A at hD hTX ⊢
  have hA : ∀ q : Nat, s.heap.size ≤ q → A q := fun q h => by rw [← hAe]; exact Or.inr h
  have hS : va_S A s.heap s.heap [] := va_S.rf
  have hl := lv_entry ([.ref x, .int p0, .int p1, .int p2]) (n := 5) (Nat.le_of_ble_eq_true rfl)
  rw [lg_entry_eq]
  generalize (lg_sl ([.ref x, .int p0, .int p1, .int p2]) ++ List.replicate (5 - (lg_sl ([.ref x, .int p0, .int p1, .int p2])).length) Slot.unset).toArray = ls at hl ⊢
  have hl : lv_has ls 5 [(0, .ref x), (1, .int p0), (2, .int p1), (3, .int p2)] := hl
  refine lv_iload_n hx hb dX5_add_0 rfl (lv_at hl 1 rfl) ?_
  refine lv_iconst (v := 0) hx hb dX5_add_1 (by decide) ?_
  refine lv_sipush (v := 498) hx hb dX5_add_2 (by decide) ?_
  refine kc_i (va_runS (As := [.int p0, .int 0, .int 498]) (rest := []) ⟨hx, hb, hml, hown, htT⟩ (c_isOutside l D cA _ S p0 0 498) (cwS 3 htT (kg_S m_ml_X5_22 m_st_X5_isOutside m_in_X5 m_cd_X5_isOutside) rfl rfl rfl (by decide +kernel) ⟨Nat.le_of_ble_eq_true rfl, Nat.le_of_ble_eq_true rfl⟩) (kp_S hK hP hD hTB) rfl rfl hl.1 rfl (lv_room (Nat.le_of_ble_eq_true rfl)) dX5_add_5 ⟨Nat.le_of_ble_eq_true rfl, Nat.le_of_ble_eq_true rfl⟩) hD hS hA (fun r_1 x_1 H locs hq_1 hP hD hS => ?_)
  rw [hq_1.1]
  rw [hq_1.2] at hP hD
  rw [h1]
  refine lv_if_ne (tgt := 20) hx hb dX5_add_8 (by decide) (fun _ => ?_) (fun c_2 => absurd c_2 (by decide))
  exact kt_new (text := "salt or variants out of range") hx hb hst hown (Or.inl rfl) (htT _ m_cl_X5_26) (htT _ m_in_IllegalArgumentException) (by decide +kernel) (fun w h => htT w (at_IAE w h)) an_IAE (ag_IAE 26) hTB hTX hK hP hD hS (hl.1.trans hml.symm) dX5_add_20 dX5_add_23 dX5_add_24 dX5_add_26 dX5_add_29 hTab (Nat.le_of_ble_eq_true rfl) (Nat.le_of_ble_eq_true rfl) (Nat.le_of_ble_eq_true rfl) (Nat.le_of_ble_eq_true rfl) hlocks (Nat.le_of_ble_eq_true rfl) (Nat.le_of_ble_eq_true rfl)

set_option maxRecDepth 100000 in
set_option maxHeartbeats 4000000 in
theorem c_add_t2 (l : Launch) (hst : l.stackTraces = false) (D : va_G) (cA : Nat → ClassId) (sz : Nat) (S : Pool) (x : Nat) (ho : isO S x 5) (p0 p1 p2 : Int32) (h1 : kOut p0 0 498 = 0) (h2 : kOut p1 2 4 = 1) : vx_Met l yX5_add (Cond.code yX5_add cX5_add 5 (some .int) :: TT) ({ frames := 6, cells := 1, slots := 6, locals := 82 }) (va_Pc [.ref x, .int p0, .int p1, .int p2] (kPreX D cA (PW cA S) sz)) kNo (kXC D cA (PW cA S) "java/lang/IllegalArgumentException" (va_A (PW cA S) sz)) 1 6 (va_A (PW cA S) sz) := by
  refine vx_ofW (cc := cX5_add) (maxL := 5) (ret := (some .int)) (by decide) rfl ?_
  intro p e s m args below meth c s₁ B hml hTab hv
  obtain ⟨rfl, ⟨hsz, hP, hK, hD0, hTB⟩, hTX⟩ := hv
  have hx := B.exec
  have hb := B.bytes
  have hr := B.returns
  have hts := atoms_spec (ws := Cond.code yX5_add cX5_add 5 (some .int) :: TT) B.pre
  have htT : ∀ w ∈ TT, w.before _ s = true := fun w h => hts w (List.mem_cons_of_mem _ h)
  have hown : s.vm.findClass RX5 = some m.cls := findClass_of_methodNamed B.named
  have hlocks := B.notSynchronized
  subst hsz
  have hD := hD0.self (sz := s.heap.size)
  generalize hAe : va_A (PW cA S) s.heap.size = A at hD hTX ⊢
  have hA : ∀ q : Nat, s.heap.size ≤ q → A q := fun q h => by rw [← hAe]; exact Or.inr h
  have hS : va_S A s.heap s.heap [] := va_S.rf
  have hl := lv_entry ([.ref x, .int p0, .int p1, .int p2]) (n := 5) (Nat.le_of_ble_eq_true rfl)
  rw [lg_entry_eq]
  generalize (lg_sl ([.ref x, .int p0, .int p1, .int p2]) ++ List.replicate (5 - (lg_sl ([.ref x, .int p0, .int p1, .int p2])).length) Slot.unset).toArray = ls at hl ⊢
  have hl : lv_has ls 5 [(0, .ref x), (1, .int p0), (2, .int p1), (3, .int p2)] := hl
  refine lv_iload_n hx hb dX5_add_0 rfl (lv_at hl 1 rfl) ?_
  refine lv_iconst (v := 0) hx hb dX5_add_1 (by decide) ?_
  refine lv_sipush (v := 498) hx hb dX5_add_2 (by decide) ?_
  refine kc_i (va_runS (As := [.int p0, .int 0, .int 498]) (rest := []) ⟨hx, hb, hml, hown, htT⟩ (c_isOutside l D cA _ S p0 0 498) (cwS 3 htT (kg_S m_ml_X5_22 m_st_X5_isOutside m_in_X5 m_cd_X5_isOutside) rfl rfl rfl (by decide +kernel) ⟨Nat.le_of_ble_eq_true rfl, Nat.le_of_ble_eq_true rfl⟩) (kp_S hK hP hD hTB) rfl rfl hl.1 rfl (lv_room (Nat.le_of_ble_eq_true rfl)) dX5_add_5 ⟨Nat.le_of_ble_eq_true rfl, Nat.le_of_ble_eq_true rfl⟩) hD hS hA (fun r_1 x_1 H locs hq_1 hP hD hS => ?_)
  rw [hq_1.1]
  rw [hq_1.2] at hP hD
  rw [h1]
  refine lv_if_ne (tgt := 20) hx hb dX5_add_8 (by decide) (fun c_2 => absurd c_2 (by decide)) (fun _ => ?_)
  refine lv_iload_n hx hb dX5_add_11 rfl (lv_at hl 2 rfl) ?_
  refine lv_iconst (v := 2) hx hb dX5_add_12 (by decide) ?_
  refine lv_iconst (v := 4) hx hb dX5_add_13 (by decide) ?_
  refine kc_i (va_runS (As := [.int p1, .int 2, .int 4]) (rest := []) ⟨hx, hb, hml, hown, htT⟩ (c_isOutside l D cA _ S p1 2 4) (cwS 3 htT (kg_S m_ml_X5_22 m_st_X5_isOutside m_in_X5 m_cd_X5_isOutside) rfl rfl rfl (by decide +kernel) ⟨Nat.le_of_ble_eq_true rfl, Nat.le_of_ble_eq_true rfl⟩) (kp_S hK hP hD hTB) rfl rfl hl.1 rfl (lv_room (Nat.le_of_ble_eq_true rfl)) dX5_add_14 ⟨Nat.le_of_ble_eq_true rfl, Nat.le_of_ble_eq_true rfl⟩) hD hS hA (fun r_3 x_3 H locs hq_3 hP hD hS => ?_)
  rw [hq_3.1]
  rw [hq_3.2] at hP hD
  rw [h2]
  refine lv_if_eq (tgt := 30) hx hb dX5_add_17 (by decide) (fun c_4 => absurd c_4 (by decide)) (fun _ => ?_)
  exact kt_new (text := "salt or variants out of range") hx hb hst hown (Or.inl rfl) (htT _ m_cl_X5_26) (htT _ m_in_IllegalArgumentException) (by decide +kernel) (fun w h => htT w (at_IAE w h)) an_IAE (ag_IAE 26) hTB hTX hK hP hD hS (hl.1.trans hml.symm) dX5_add_20 dX5_add_23 dX5_add_24 dX5_add_26 dX5_add_29 hTab (Nat.le_of_ble_eq_true rfl) (Nat.le_of_ble_eq_true rfl) (Nat.le_of_ble_eq_true rfl) (Nat.le_of_ble_eq_true rfl) hlocks (Nat.le_of_ble_eq_true rfl) (Nat.le_of_ble_eq_true rfl)

set_option maxRecDepth 100000 in
set_option maxHeartbeats 4000000 in
theorem c_withNext (l : Launch) (D : va_G) (cA : Nat → ClassId) (sz : Nat) (S : Pool) (p0 p1 : Int64) : Met l yX5_withNext (Cond.code yX5_withNext cX5_withNext 4 (some .long) :: TT) ({ frames := 0, cells := 0, slots := 0, locals := 0 }) (va_Pc [.long p0, .long p1] (kPre D cA (PW cA S) sz)) (va_Ql (fun (r_ : Int64) (x_ : Pool) => r_ = p0 * 31 + p1 ∧ x_ = S) (fun x_ => kB D cA (va_A (PW cA S) sz) (PW cA x_)) (va_A (PW cA S) sz)) 0 0 (va_A (PW cA S) sz) := by
  refine Met.ofW (cc := cX5_withNext) (maxL := 4) (ret := (some .long)) (by decide) rfl ?_
  intro p e s m args below meth c s₁ B hml hv
  obtain ⟨rfl, hsz, hP, hK, hD0, hTB⟩ := hv
  have hx := B.exec
  have hb := B.bytes
  have hr := B.returns
  have hts := atoms_spec (ws := Cond.code yX5_withNext cX5_withNext 4 (some .long) :: TT) B.pre
  have htT : ∀ w ∈ TT, w.before _ s = true := fun w h => hts w (List.mem_cons_of_mem _ h)
  have hown : s.vm.findClass RX5 = some m.cls := findClass_of_methodNamed B.named
  have hlocks := B.notSynchronized
  subst hsz
  have hD := hD0.self (sz := s.heap.size)
  generalize hAe : va_A (PW cA S) s.heap.size = A at hD ⊢
  have hA : ∀ q : Nat, s.heap.size ≤ q → A q := fun q h => by rw [← hAe]; exact Or.inr h
  have hS : va_S A s.heap s.heap [] := va_S.rf
  have hl := lv_entry ([.long p0, .long p1]) (n := 4) (Nat.le_of_ble_eq_true rfl)
  rw [lg_entry_eq]
  generalize (lg_sl ([.long p0, .long p1]) ++ List.replicate (4 - (lg_sl ([.long p0, .long p1])).length) Slot.unset).toArray = ls at hl ⊢
  have hl : lv_has ls 4 [(0, .long p0), (2, .long p1)] := hl
  refine lv_lload_n hx hb dX5_withNext_0 rfl (lv_at hl 0 rfl) ?_
  refine lv_ldc2 (v := 31) hx hb hown (htT _ m_lc_X5_299) dX5_withNext_1 ?_
  refine lv_lmul hx hb dX5_withNext_4 ?_
  refine lv_lload_n hx hb dX5_withNext_5 rfl (lv_at hl 1 rfl) ?_
  refine lv_ladd hx hb dX5_withNext_6 ?_
  exact W.lret (v := (p0 * 31) + p1) hx hb hr (fun t ht hW => ⟨⟨(p0 * 31) + p1, S, rfl, ⟨rfl, rfl⟩, by rw [ht]; exact hP, va_K.moved hW.alike hK, hD⟩, hS.F ht⟩) hS.2.2 dX5_withNext_7

set_option maxRecDepth 100000 in
set_option maxHeartbeats 4000000 in
/-- digest of a new object -/
theorem c_digest_0 (l : Launch) (D : va_G) (cA : Nat → ClassId) (sz : Nat) (S : Pool) (x : Nat) (ho : isO S x 5) (ar : Nat) (hq0 : gQ S x 0 = some ar) (har : isA S ar 22 8) (hn : ∀ j, j < 8 → gP S ar j = none) (hsc : gI S x 2 = 0) (hac : gI S x 3 = 0) : Met l yX5_digest (Cond.code yX5_digest cX5_digest 5 (some .long) :: TT) ({ frames := 2, cells := 0, slots := 0, locals := 48 }) (va_Pc [.ref x] (kPre D cA (PW cA S) sz)) (va_Ql (fun (r_ : Int64) (x_ : Pool) => r_ = 76927521737 ∧ x_ = S) (fun x_ => kB D cA (va_A (PW cA S) sz) (PW cA x_)) (va_A (PW cA S) sz)) 0 0 (va_A (PW cA S) sz) := by
  refine Met.ofW (cc := cX5_digest) (maxL := 5) (ret := (some .long)) (by decide) rfl ?_
  intro p e s m args below meth c s₁ B hml hv
  obtain ⟨rfl, hsz, hP, hK, hD0, hTB⟩ := hv
  have hx := B.exec
  have hb := B.bytes
  have hr := B.returns
  have hts := atoms_spec (ws := Cond.code yX5_digest cX5_digest 5 (some .long) :: TT) B.pre
  have htT : ∀ w ∈ TT, w.before _ s = true := fun w h => hts w (List.mem_cons_of_mem _ h)
  have hown : s.vm.findClass RX5 = some m.cls := findClass_of_methodNamed B.named
  have hlocks := B.notSynchronized
  subst hsz
  have hD := hD0.self (sz := s.heap.size)
  generalize hAe : va_A (PW cA S) s.heap.size = A at hD ⊢
  have hA : ∀ q : Nat, s.heap.size ≤ q → A q := fun q h => by rw [← hAe]; exact Or.inr h
  have hS : va_S A s.heap s.heap [] := va_S.rf
  have hl := lv_entry ([.ref x]) (n := 5) (Nat.le_of_ble_eq_true rfl)
  rw [lg_entry_eq]
  generalize (lg_sl ([.ref x]) ++ List.replicate (5 - (lg_sl ([.ref x])).length) Slot.unset).toArray = ls at hl ⊢
  have hl : lv_has ls 5 [(0, .ref x)] := hl
  refine lv_ldc2 (v := 2687) hx hb hown (htT _ m_lc_X5_244) dX5_digest_0 ?_
  refine lv_aload_n hx hb dX5_digest_3 rfl (lv_at hl 0 rfl) ?_
  refine kc_i (va_runV (As := []) (rest := [.long 2687]) ⟨hx, hb, hml, hown, htT⟩ (c_switches l D cA _ S x ho) (cwV 0 htT (kg_V m_ml_X5_246 m_im_X5_switches m_sl_X5_switches m_in_X5 m_cd_X5_switches) rfl rfl rfl (by decide +kernel) ⟨Nat.le_of_ble_eq_true rfl, Nat.le_of_ble_eq_true rfl⟩) (kp_V hK hP hD hTB (kp_rc hK hP ho (Nat.le_of_ble_eq_true rfl) rfl)) rfl rfl hl.1 rfl (lv_room (Nat.le_of_ble_eq_true rfl)) dX5_digest_4 ⟨Nat.le_of_ble_eq_true rfl, Nat.le_of_ble_eq_true rfl⟩) hD hS hA (fun r_1 x_1 H locs hq_1 hP hD hS => ?_)
  rw [hq_1.1]
  rw [hq_1.2] at hP hD
  rw [hsc]
  refine lv_i2l (v := 0) hx hb dX5_digest_7 (by decide) ?_
  refine kc_l (va_runS (As := [.long 2687, .long 0]) (rest := []) ⟨hx, hb, hml, hown, htT⟩ (c_withNext l D cA _ S 2687 0) (cwS 2 htT (kg_S m_ml_X5_249 m_st_X5_withNext m_in_X5 m_cd_X5_withNext) rfl rfl rfl (by decide +kernel) ⟨Nat.le_of_ble_eq_true rfl, Nat.le_of_ble_eq_true rfl⟩) (kp_S hK hP hD hTB) rfl rfl hl.1 rfl (lv_room (Nat.le_of_ble_eq_true rfl)) dX5_digest_8 ⟨Nat.le_of_ble_eq_true rfl, Nat.le_of_ble_eq_true rfl⟩) hD hS hA (fun r_2 x_2 H locs hq_2 hP hD hS => ?_)
  rw [hq_2.1]
  rw [hq_2.2] at hP hD
  rw [show ((2687 : Int64) * 31 + 0) = 83297 from by decide]
  refine lv_lstore_n (lv' := [(1, .long 83297), (0, .ref x)]) hx hb dX5_digest_11 rfl hl (by decide) rfl (fun ls hl => ?_)
  refine lv_lload_n hx hb dX5_digest_12 rfl (lv_at hl 0 rfl) ?_
  refine lv_aload_n hx hb dX5_digest_13 rfl (lv_at hl 1 rfl) ?_
  refine kc_i (va_runV (As := []) (rest := [.long 83297]) ⟨hx, hb, hml, hown, htT⟩ (c_arms l D cA _ S x ho) (cwV 0 htT (kg_V m_ml_X5_253 m_im_X5_arms m_sl_X5_arms m_in_X5 m_cd_X5_arms) rfl rfl rfl (by decide +kernel) ⟨Nat.le_of_ble_eq_true rfl, Nat.le_of_ble_eq_true rfl⟩) (kp_V hK hP hD hTB (kp_rc hK hP ho (Nat.le_of_ble_eq_true rfl) rfl)) rfl rfl hl.1 rfl (lv_room (Nat.le_of_ble_eq_true rfl)) dX5_digest_14 ⟨Nat.le_of_ble_eq_true rfl, Nat.le_of_ble_eq_true rfl⟩) hD hS hA (fun r_3 x_3 H locs hq_3 hP hD hS => ?_)
  rw [hq_3.1]
  rw [hq_3.2] at hP hD
  rw [hac]
  refine lv_i2l (v := 0) hx hb dX5_digest_17 (by decide) ?_
  refine kc_l (va_runS (As := [.long 83297, .long 0]) (rest := []) ⟨hx, hb, hml, hown, htT⟩ (c_withNext l D cA _ S 83297 0) (cwS 2 htT (kg_S m_ml_X5_249 m_st_X5_withNext m_in_X5 m_cd_X5_withNext) rfl rfl rfl (by decide +kernel) ⟨Nat.le_of_ble_eq_true rfl, Nat.le_of_ble_eq_true rfl⟩) (kp_S hK hP hD hTB) rfl rfl hl.1 rfl (lv_room (Nat.le_of_ble_eq_true rfl)) dX5_digest_18 ⟨Nat.le_of_ble_eq_true rfl, Nat.le_of_ble_eq_true rfl⟩) hD hS hA (fun r_4 x_4 H locs hq_4 hP hD hS => ?_)
  rw [hq_4.1]
  rw [hq_4.2] at hP hD
  rw [show ((83297 : Int64) * 31 + 0) = 2582207 from by decide]
  refine lv_lstore_n (lv' := [(1, .long 2582207), (0, .ref x)]) hx hb dX5_digest_21 rfl hl (by decide) rfl (fun ls hl => ?_)
  refine lv_iconst (v := 0) hx hb dX5_digest_22 (by decide) ?_
  refine lv_istore_n (lv' := [(3, .int 0), (1, .long 2582207), (0, .ref x)]) hx hb dX5_digest_23 rfl hl (by decide) rfl (fun ls hl => ?_)
  refine lv_iload_n hx hb dX5_digest_24 rfl (lv_at hl 0 rfl) ?_
  refine lv_iconst (v := 3) hx hb dX5_digest_25 (by decide) ?_
  refine lv_icmp_ge (tgt := 46) hx hb dX5_digest_26 (by decide) (fun c_5 => absurd c_5 (by decide)) (fun _ => ?_)
  refine lv_lload_n hx hb dX5_digest_29 rfl (lv_at hl 1 rfl) ?_
  refine lv_aload_n hx hb dX5_digest_30 rfl (lv_at hl 2 rfl) ?_
  refine lv_iload_n hx hb dX5_digest_31 rfl (lv_at hl 0 rfl) ?_
  refine kc_i (va_runV (As := [.int 0]) (rest := [.long 2582207]) ⟨hx, hb, hml, hown, htT⟩ (c_left_0 l D cA _ S x ho ar hq0 har hn 0 (by decide)) (cwV 1 htT (kg_V m_ml_X5_256 m_im_X5_left m_sl_X5_left m_in_X5 m_cd_X5_left) rfl rfl rfl (by decide +kernel) ⟨Nat.le_of_ble_eq_true rfl, Nat.le_of_ble_eq_true rfl⟩) (kp_V hK hP hD hTB (kp_rc hK hP ho (Nat.le_of_ble_eq_true rfl) rfl)) rfl rfl hl.1 rfl (lv_room (Nat.le_of_ble_eq_true rfl)) dX5_digest_32 ⟨Nat.le_of_ble_eq_true rfl, Nat.le_of_ble_eq_true rfl⟩) hD hS hA (fun r_6 x_6 H locs hq_6 hP hD hS => ?_)
  rw [hq_6.1]
  rw [hq_6.2] at hP hD
  refine lv_i2l (v := 1000) hx hb dX5_digest_35 (by decide) ?_
  refine kc_l (va_runS (As := [.long 2582207, .long 1000]) (rest := []) ⟨hx, hb, hml, hown, htT⟩ (c_withNext l D cA _ S 2582207 1000) (cwS 2 htT (kg_S m_ml_X5_249 m_st_X5_withNext m_in_X5 m_cd_X5_withNext) rfl rfl rfl (by decide +kernel) ⟨Nat.le_of_ble_eq_true rfl, Nat.le_of_ble_eq_true rfl⟩) (kp_S hK hP hD hTB) rfl rfl hl.1 rfl (lv_room (Nat.le_of_ble_eq_true rfl)) dX5_digest_36 ⟨Nat.le_of_ble_eq_true rfl, Nat.le_of_ble_eq_true rfl⟩) hD hS hA (fun r_7 x_7 H locs hq_7 hP hD hS => ?_)
  rw [hq_7.1]
  rw [hq_7.2] at hP hD
  rw [show ((2582207 : Int64) * 31 + 1000) = 80049417 from by decide]
  refine lv_lstore_n (lv' := [(1, .long 80049417), (3, .int 0), (0, .ref x)]) hx hb dX5_digest_39 rfl hl (by decide) rfl (fun ls hl => ?_)
  refine lv_iinc (v := 1) (lv' := [(3, .int 1), (1, .long 80049417), (0, .ref x)]) hx hb dX5_digest_40 hl (k := 1) rfl (by decide) (by decide) rfl (fun ls hl => ?_)
  refine lv_goto (tgt := 24) hx hb dX5_digest_43 (by decide) ?_
  refine lv_iload_n hx hb dX5_digest_24 rfl (lv_at hl 0 rfl) ?_
  refine lv_iconst (v := 3) hx hb dX5_digest_25 (by decide) ?_
  refine lv_icmp_ge (tgt := 46) hx hb dX5_digest_26 (by decide) (fun c_8 => absurd c_8 (by decide)) (fun _ => ?_)
  refine lv_lload_n hx hb dX5_digest_29 rfl (lv_at hl 1 rfl) ?_
  refine lv_aload_n hx hb dX5_digest_30 rfl (lv_at hl 2 rfl) ?_
  refine lv_iload_n hx hb dX5_digest_31 rfl (lv_at hl 0 rfl) ?_
  refine kc_i (va_runV (As := [.int 1]) (rest := [.long 80049417]) ⟨hx, hb, hml, hown, htT⟩ (c_left_0 l D cA _ S x ho ar hq0 har hn 1 (by decide)) (cwV 1 htT (kg_V m_ml_X5_256 m_im_X5_left m_sl_X5_left m_in_X5 m_cd_X5_left) rfl rfl rfl (by decide +kernel) ⟨Nat.le_of_ble_eq_true rfl, Nat.le_of_ble_eq_true rfl⟩) (kp_V hK hP hD hTB (kp_rc hK hP ho (Nat.le_of_ble_eq_true rfl) rfl)) rfl rfl hl.1 rfl (lv_room (Nat.le_of_ble_eq_true rfl)) dX5_digest_32 ⟨Nat.le_of_ble_eq_true rfl, Nat.le_of_ble_eq_true rfl⟩) hD hS hA (fun r_9 x_9 H locs hq_9 hP hD hS => ?_)
  rw [hq_9.1]
  rw [hq_9.2] at hP hD
  refine lv_i2l (v := 1000) hx hb dX5_digest_35 (by decide) ?_
  refine kc_l (va_runS (As := [.long 80049417, .long 1000]) (rest := []) ⟨hx, hb, hml, hown, htT⟩ (c_withNext l D cA _ S 80049417 1000) (cwS 2 htT (kg_S m_ml_X5_249 m_st_X5_withNext m_in_X5 m_cd_X5_withNext) rfl rfl rfl (by decide +kernel) ⟨Nat.le_of_ble_eq_true rfl, Nat.le_of_ble_eq_true rfl⟩) (kp_S hK hP hD hTB) rfl rfl hl.1 rfl (lv_room (Nat.le_of_ble_eq_true rfl)) dX5_digest_36 ⟨Nat.le_of_ble_eq_true rfl, Nat.le_of_ble_eq_true rfl⟩) hD hS hA (fun r_10 x_10 H locs hq_10 hP hD hS => ?_)
  rw [hq_10.1]
  rw [hq_10.2] at hP hD
  rw [show ((80049417 : Int64) * 31 + 1000) = 2481532927 from by decide]
  refine lv_lstore_n (lv' := [(1, .long 2481532927), (3, .int 1), (0, .ref x)]) hx hb dX5_digest_39 rfl hl (by decide) rfl (fun ls hl => ?_)
  refine lv_iinc (v := 2) (lv' := [(3, .int 2), (1, .long 2481532927), (0, .ref x)]) hx hb dX5_digest_40 hl (k := 1) rfl (by decide) (by decide) rfl (fun ls hl => ?_)
  refine lv_goto (tgt := 24) hx hb dX5_digest_43 (by decide) ?_
  refine lv_iload_n hx hb dX5_digest_24 rfl (lv_at hl 0 rfl) ?_
  refine lv_iconst (v := 3) hx hb dX5_digest_25 (by decide) ?_
  refine lv_icmp_ge (tgt := 46) hx hb dX5_digest_26 (by decide) (fun c_11 => absurd c_11 (by decide)) (fun _ => ?_)
  refine lv_lload_n hx hb dX5_digest_29 rfl (lv_at hl 1 rfl) ?_
  refine lv_aload_n hx hb dX5_digest_30 rfl (lv_at hl 2 rfl) ?_
  refine lv_iload_n hx hb dX5_digest_31 rfl (lv_at hl 0 rfl) ?_
  refine kc_i (va_runV (As := [.int 2]) (rest := [.long 2481532927]) ⟨hx, hb, hml, hown, htT⟩ (c_left_0 l D cA _ S x ho ar hq0 har hn 2 (by decide)) (cwV 1 htT (kg_V m_ml_X5_256 m_im_X5_left m_sl_X5_left m_in_X5 m_cd_X5_left) rfl rfl rfl (by decide +kernel) ⟨Nat.le_of_ble_eq_true rfl, Nat.le_of_ble_eq_true rfl⟩) (kp_V hK hP hD hTB (kp_rc hK hP ho (Nat.le_of_ble_eq_true rfl) rfl)) rfl rfl hl.1 rfl (lv_room (Nat.le_of_ble_eq_true rfl)) dX5_digest_32 ⟨Nat.le_of_ble_eq_true rfl, Nat.le_of_ble_eq_true rfl⟩) hD hS hA (fun r_12 x_12 H locs hq_12 hP hD hS => ?_)
  rw [hq_12.1]
  rw [hq_12.2] at hP hD
  refine lv_i2l (v := 1000) hx hb dX5_digest_35 (by decide) ?_
  refine kc_l (va_runS (As := [.long 2481532927, .long 1000]) (rest := []) ⟨hx, hb, hml, hown, htT⟩ (c_withNext l D cA _ S 2481532927 1000) (cwS 2 htT (kg_S m_ml_X5_249 m_st_X5_withNext m_in_X5 m_cd_X5_withNext) rfl rfl rfl (by decide +kernel) ⟨Nat.le_of_ble_eq_true rfl, Nat.le_of_ble_eq_true rfl⟩) (kp_S hK hP hD hTB) rfl rfl hl.1 rfl (lv_room (Nat.le_of_ble_eq_true rfl)) dX5_digest_36 ⟨Nat.le_of_ble_eq_true rfl, Nat.le_of_ble_eq_true rfl⟩) hD hS hA (fun r_13 x_13 H locs hq_13 hP hD hS => ?_)
  rw [hq_13.1]
  rw [hq_13.2] at hP hD
  rw [show ((2481532927 : Int64) * 31 + 1000) = 76927521737 from by decide]
  refine lv_lstore_n (lv' := [(1, .long 76927521737), (3, .int 2), (0, .ref x)]) hx hb dX5_digest_39 rfl hl (by decide) rfl (fun ls hl => ?_)
  refine lv_iinc (v := 3) (lv' := [(3, .int 3), (1, .long 76927521737), (0, .ref x)]) hx hb dX5_digest_40 hl (k := 1) rfl (by decide) (by decide) rfl (fun ls hl => ?_)
  refine lv_goto (tgt := 24) hx hb dX5_digest_43 (by decide) ?_
  refine lv_iload_n hx hb dX5_digest_24 rfl (lv_at hl 0 rfl) ?_
  refine lv_iconst (v := 3) hx hb dX5_digest_25 (by decide) ?_
  refine lv_icmp_ge (tgt := 46) hx hb dX5_digest_26 (by decide) (fun _ => ?_) (fun c_14 => absurd c_14 (by decide))
  refine lv_iconst (v := 0) hx hb dX5_digest_46 (by decide) ?_
  refine lv_istore_n (lv' := [(3, .int 0), (1, .long 76927521737), (0, .ref x)]) hx hb dX5_digest_47 rfl hl (by decide) rfl (fun ls hl => ?_)
  refine lv_iload_n hx hb dX5_digest_48 rfl (lv_at hl 0 rfl) ?_
  refine lv_aload_n hx hb dX5_digest_49 rfl (lv_at hl 2 rfl) ?_
  refine kx_getiv hx hb htT m_u_X5 hown hK hP ho (Nat.le_of_ble_eq_true rfl) rfl 2 (by decide) (by decide) rfl (htT _ m_fl_X5_33) hsc dX5_digest_50 ?_
  refine lv_icmp_ge (tgt := 69) hx hb dX5_digest_53 (by decide) (fun _ => ?_) (fun c_15 => absurd c_15 (by decide))
  refine lv_iconst (v := 0) hx hb dX5_digest_69 (by decide) ?_
  refine lv_istore_n (lv' := [(3, .int 0), (1, .long 76927521737), (0, .ref x)]) hx hb dX5_digest_70 rfl hl (by decide) rfl (fun ls hl => ?_)
  refine lv_iload_n hx hb dX5_digest_71 rfl (lv_at hl 0 rfl) ?_
  refine lv_bipush (v := 10) hx hb dX5_digest_72 (by decide) ?_
  refine lv_icmp_ge (tgt := 150) hx hb dX5_digest_74 (by decide) (fun c_16 => absurd c_16 (by decide)) (fun _ => ?_)
  refine lv_iconst (v := 0) hx hb dX5_digest_77 (by decide) ?_
  refine lv_istore (lv' := [(4, .int 0), (3, .int 0), (1, .long 76927521737), (0, .ref x)]) hx hb dX5_digest_78 hl (by decide) rfl (fun ls hl => ?_)
  refine lv_iload hx hb dX5_digest_80 (lv_at hl 0 rfl) ?_
  refine lv_aload_n hx hb dX5_digest_82 rfl (lv_at hl 3 rfl) ?_
  refine kx_getiv hx hb htT m_u_X5 hown hK hP ho (Nat.le_of_ble_eq_true rfl) rfl 2 (by decide) (by decide) rfl (htT _ m_fl_X5_33) hsc dX5_digest_83 ?_
  refine lv_icmp_ge (tgt := 144) hx hb dX5_digest_86 (by decide) (fun _ => ?_) (fun c_17 => absurd c_17 (by decide))
  refine lv_iinc (v := 1) (lv' := [(3, .int 1), (4, .int 0), (1, .long 76927521737), (0, .ref x)]) hx hb dX5_digest_144 hl (k := 1) rfl (by decide) (by decide) rfl (fun ls hl => ?_)
  refine lv_goto (tgt := 71) hx hb dX5_digest_147 (by decide) ?_
  refine lv_iload_n hx hb dX5_digest_71 rfl (lv_at hl 0 rfl) ?_
  refine lv_bipush (v := 10) hx hb dX5_digest_72 (by decide) ?_
  refine lv_icmp_ge (tgt := 150) hx hb dX5_digest_74 (by decide) (fun c_18 => absurd c_18 (by decide)) (fun _ => ?_)
  refine lv_iconst (v := 0) hx hb dX5_digest_77 (by decide) ?_
  refine lv_istore (lv' := [(4, .int 0), (3, .int 1), (1, .long 76927521737), (0, .ref x)]) hx hb dX5_digest_78 hl (by decide) rfl (fun ls hl => ?_)
  refine lv_iload hx hb dX5_digest_80 (lv_at hl 0 rfl) ?_
  refine lv_aload_n hx hb dX5_digest_82 rfl (lv_at hl 3 rfl) ?_
  refine kx_getiv hx hb htT m_u_X5 hown hK hP ho (Nat.le_of_ble_eq_true rfl) rfl 2 (by decide) (by decide) rfl (htT _ m_fl_X5_33) hsc dX5_digest_83 ?_
  refine lv_icmp_ge (tgt := 144) hx hb dX5_digest_86 (by decide) (fun _ => ?_) (fun c_19 => absurd c_19 (by decide))
  refine lv_iinc (v := 2) (lv' := [(3, .int 2), (4, .int 0), (1, .long 76927521737), (0, .ref x)]) hx hb dX5_digest_144 hl (k := 1) rfl (by decide) (by decide) rfl (fun ls hl => ?_)
  refine lv_goto (tgt := 71) hx hb dX5_digest_147 (by decide) ?_
  refine lv_iload_n hx hb dX5_digest_71 rfl (lv_at hl 0 rfl) ?_
  refine lv_bipush (v := 10) hx hb dX5_digest_72 (by decide) ?_
  refine lv_icmp_ge (tgt := 150) hx hb dX5_digest_74 (by decide) (fun c_20 => absurd c_20 (by decide)) (fun _ => ?_)
  refine lv_iconst (v := 0) hx hb dX5_digest_77 (by decide) ?_
  refine lv_istore (lv' := [(4, .int 0), (3, .int 2), (1, .long 76927521737), (0, .ref x)]) hx hb dX5_digest_78 hl (by decide) rfl (fun ls hl => ?_)
  refine lv_iload hx hb dX5_digest_80 (lv_at hl 0 rfl) ?_
  refine lv_aload_n hx hb dX5_digest_82 rfl (lv_at hl 3 rfl) ?_
  refine kx_getiv hx hb htT m_u_X5 hown hK hP ho (Nat.le_of_ble_eq_true rfl) rfl 2 (by decide) (by decide) rfl (htT _ m_fl_X5_33) hsc dX5_digest_83 ?_
  refine lv_icmp_ge (tgt := 144) hx hb dX5_digest_86 (by decide) (fun _ => ?_) (fun c_21 => absurd c_21 (by decide))
  refine lv_iinc (v := 3) (lv' := [(3, .int 3), (4, .int 0), (1, .long 76927521737), (0, .ref x)]) hx hb dX5_digest_144 hl (k := 1) rfl (by decide) (by decide) rfl (fun ls hl => ?_)
  refine lv_goto (tgt := 71) hx hb dX5_digest_147 (by decide) ?_
  refine lv_iload_n hx hb dX5_digest_71 rfl (lv_at hl 0 rfl) ?_
  refine lv_bipush (v := 10) hx hb dX5_digest_72 (by decide) ?_
  refine lv_icmp_ge (tgt := 150) hx hb dX5_digest_74 (by decide) (fun c_22 => absurd c_22 (by decide)) (fun _ => ?_)
  refine lv_iconst (v := 0) hx hb dX5_digest_77 (by decide) ?_
  refine lv_istore (lv' := [(4, .int 0), (3, .int 3), (1, .long 76927521737), (0, .ref x)]) hx hb dX5_digest_78 hl (by decide) rfl (fun ls hl => ?_)
  refine lv_iload hx hb dX5_digest_80 (lv_at hl 0 rfl) ?_
  refine lv_aload_n hx hb dX5_digest_82 rfl (lv_at hl 3 rfl) ?_
  refine kx_getiv hx hb htT m_u_X5 hown hK hP ho (Nat.le_of_ble_eq_true rfl) rfl 2 (by decide) (by decide) rfl (htT _ m_fl_X5_33) hsc dX5_digest_83 ?_
  refine lv_icmp_ge (tgt := 144) hx hb dX5_digest_86 (by decide) (fun _ => ?_) (fun c_23 => absurd c_23 (by decide))
  refine lv_iinc (v := 4) (lv' := [(3, .int 4), (4, .int 0), (1, .long 76927521737), (0, .ref x)]) hx hb dX5_digest_144 hl (k := 1) rfl (by decide) (by decide) rfl (fun ls hl => ?_)
  refine lv_goto (tgt := 71) hx hb dX5_digest_147 (by decide) ?_
  refine lv_iload_n hx hb dX5_digest_71 rfl (lv_at hl 0 rfl) ?_
  refine lv_bipush (v := 10) hx hb dX5_digest_72 (by decide) ?_
  refine lv_icmp_ge (tgt := 150) hx hb dX5_digest_74 (by decide) (fun c_24 => absurd c_24 (by decide)) (fun _ => ?_)
  refine lv_iconst (v := 0) hx hb dX5_digest_77 (by decide) ?_
  refine lv_istore (lv' := [(4, .int 0), (3, .int 4), (1, .long 76927521737), (0, .ref x)]) hx hb dX5_digest_78 hl (by decide) rfl (fun ls hl => ?_)
  refine lv_iload hx hb dX5_digest_80 (lv_at hl 0 rfl) ?_
  refine lv_aload_n hx hb dX5_digest_82 rfl (lv_at hl 3 rfl) ?_
  refine kx_getiv hx hb htT m_u_X5 hown hK hP ho (Nat.le_of_ble_eq_true rfl) rfl 2 (by decide) (by decide) rfl (htT _ m_fl_X5_33) hsc dX5_digest_83 ?_
  refine lv_icmp_ge (tgt := 144) hx hb dX5_digest_86 (by decide) (fun _ => ?_) (fun c_25 => absurd c_25 (by decide))
  refine lv_iinc (v := 5) (lv' := [(3, .int 5), (4, .int 0), (1, .long 76927521737), (0, .ref x)]) hx hb dX5_digest_144 hl (k := 1) rfl (by decide) (by decide) rfl (fun ls hl => ?_)
  refine lv_goto (tgt := 71) hx hb dX5_digest_147 (by decide) ?_
  refine lv_iload_n hx hb dX5_digest_71 rfl (lv_at hl 0 rfl) ?_
  refine lv_bipush (v := 10) hx hb dX5_digest_72 (by decide) ?_
  refine lv_icmp_ge (tgt := 150) hx hb dX5_digest_74 (by decide) (fun c_26 => absurd c_26 (by decide)) (fun _ => ?_)
  refine lv_iconst (v := 0) hx hb dX5_digest_77 (by decide) ?_
  refine lv_istore (lv' := [(4, .int 0), (3, .int 5), (1, .long 76927521737), (0, .ref x)]) hx hb dX5_digest_78 hl (by decide) rfl (fun ls hl => ?_)
  refine lv_iload hx hb dX5_digest_80 (lv_at hl 0 rfl) ?_
  refine lv_aload_n hx hb dX5_digest_82 rfl (lv_at hl 3 rfl) ?_
  refine kx_getiv hx hb htT m_u_X5 hown hK hP ho (Nat.le_of_ble_eq_true rfl) rfl 2 (by decide) (by decide) rfl (htT _ m_fl_X5_33) hsc dX5_digest_83 ?_
  refine lv_icmp_ge (tgt := 144) hx hb dX5_digest_86 (by decide) (fun _ => ?_) (fun c_27 => absurd c_27 (by decide))
  refine lv_iinc (v := 6) (lv' := [(3, .int 6), (4, .int 0), (1, .long 76927521737), (0, .ref x)]) hx hb dX5_digest_144 hl (k := 1) rfl (by decide) (by decide) rfl (fun ls hl => ?_)
  refine lv_goto (tgt := 71) hx hb dX5_digest_147 (by decide) ?_
  refine lv_iload_n hx hb dX5_digest_71 rfl (lv_at hl 0 rfl) ?_
  refine lv_bipush (v := 10) hx hb dX5_digest_72 (by decide) ?_
  refine lv_icmp_ge (tgt := 150) hx hb dX5_digest_74 (by decide) (fun c_28 => absurd c_28 (by decide)) (fun _ => ?_)
  refine lv_iconst (v := 0) hx hb dX5_digest_77 (by decide) ?_
  refine lv_istore (lv' := [(4, .int 0), (3, .int 6), (1, .long 76927521737), (0, .ref x)]) hx hb dX5_digest_78 hl (by decide) rfl (fun ls hl => ?_)
  refine lv_iload hx hb dX5_digest_80 (lv_at hl 0 rfl) ?_
  refine lv_aload_n hx hb dX5_digest_82 rfl (lv_at hl 3 rfl) ?_
  refine kx_getiv hx hb htT m_u_X5 hown hK hP ho (Nat.le_of_ble_eq_true rfl) rfl 2 (by decide) (by decide) rfl (htT _ m_fl_X5_33) hsc dX5_digest_83 ?_
  refine lv_icmp_ge (tgt := 144) hx hb dX5_digest_86 (by decide) (fun _ => ?_) (fun c_29 => absurd c_29 (by decide))
  refine lv_iinc (v := 7) (lv' := [(3, .int 7), (4, .int 0), (1, .long 76927521737), (0, .ref x)]) hx hb dX5_digest_144 hl (k := 1) rfl (by decide) (by decide) rfl (fun ls hl => ?_)
  refine lv_goto (tgt := 71) hx hb dX5_digest_147 (by decide) ?_
  refine lv_iload_n hx hb dX5_digest_71 rfl (lv_at hl 0 rfl) ?_
  refine lv_bipush (v := 10) hx hb dX5_digest_72 (by decide) ?_
  refine lv_icmp_ge (tgt := 150) hx hb dX5_digest_74 (by decide) (fun c_30 => absurd c_30 (by decide)) (fun _ => ?_)
  refine lv_iconst (v := 0) hx hb dX5_digest_77 (by decide) ?_
  refine lv_istore (lv' := [(4, .int 0), (3, .int 7), (1, .long 76927521737), (0, .ref x)]) hx hb dX5_digest_78 hl (by decide) rfl (fun ls hl => ?_)
  refine lv_iload hx hb dX5_digest_80 (lv_at hl 0 rfl) ?_
  refine lv_aload_n hx hb dX5_digest_82 rfl (lv_at hl 3 rfl) ?_
  refine kx_getiv hx hb htT m_u_X5 hown hK hP ho (Nat.le_of_ble_eq_true rfl) rfl 2 (by decide) (by decide) rfl (htT _ m_fl_X5_33) hsc dX5_digest_83 ?_
  refine lv_icmp_ge (tgt := 144) hx hb dX5_digest_86 (by decide) (fun _ => ?_) (fun c_31 => absurd c_31 (by decide))
  refine lv_iinc (v := 8) (lv' := [(3, .int 8), (4, .int 0), (1, .long 76927521737), (0, .ref x)]) hx hb dX5_digest_144 hl (k := 1) rfl (by decide) (by decide) rfl (fun ls hl => ?_)
  refine lv_goto (tgt := 71) hx hb dX5_digest_147 (by decide) ?_
  refine lv_iload_n hx hb dX5_digest_71 rfl (lv_at hl 0 rfl) ?_
  refine lv_bipush (v := 10) hx hb dX5_digest_72 (by decide) ?_
  refine lv_icmp_ge (tgt := 150) hx hb dX5_digest_74 (by decide) (fun c_32 => absurd c_32 (by decide)) (fun _ => ?_)
  refine lv_iconst (v := 0) hx hb dX5_digest_77 (by decide) ?_
  refine lv_istore (lv' := [(4, .int 0), (3, .int 8), (1, .long 76927521737), (0, .ref x)]) hx hb dX5_digest_78 hl (by decide) rfl (fun ls hl => ?_)
  refine lv_iload hx hb dX5_digest_80 (lv_at hl 0 rfl) ?_
  refine lv_aload_n hx hb dX5_digest_82 rfl (lv_at hl 3 rfl) ?_
  refine kx_getiv hx hb htT m_u_X5 hown hK hP ho (Nat.le_of_ble_eq_true rfl) rfl 2 (by decide) (by decide) rfl (htT _ m_fl_X5_33) hsc dX5_digest_83 ?_
  refine lv_icmp_ge (tgt := 144) hx hb dX5_digest_86 (by decide) (fun _ => ?_) (fun c_33 => absurd c_33 (by decide))
  refine lv_iinc (v := 9) (lv' := [(3, .int 9), (4, .int 0), (1, .long 76927521737), (0, .ref x)]) hx hb dX5_digest_144 hl (k := 1) rfl (by decide) (by decide) rfl (fun ls hl => ?_)
  refine lv_goto (tgt := 71) hx hb dX5_digest_147 (by decide) ?_
  refine lv_iload_n hx hb dX5_digest_71 rfl (lv_at hl 0 rfl) ?_
  refine lv_bipush (v := 10) hx hb dX5_digest_72 (by decide) ?_
  refine lv_icmp_ge (tgt := 150) hx hb dX5_digest_74 (by decide) (fun c_34 => absurd c_34 (by decide)) (fun _ => ?_)
  refine lv_iconst (v := 0) hx hb dX5_digest_77 (by decide) ?_
  refine lv_istore (lv' := [(4, .int 0), (3, .int 9), (1, .long 76927521737), (0, .ref x)]) hx hb dX5_digest_78 hl (by decide) rfl (fun ls hl => ?_)
  refine lv_iload hx hb dX5_digest_80 (lv_at hl 0 rfl) ?_
  refine lv_aload_n hx hb dX5_digest_82 rfl (lv_at hl 3 rfl) ?_
  refine kx_getiv hx hb htT m_u_X5 hown hK hP ho (Nat.le_of_ble_eq_true rfl) rfl 2 (by decide) (by decide) rfl (htT _ m_fl_X5_33) hsc dX5_digest_83 ?_
  refine lv_icmp_ge (tgt := 144) hx hb dX5_digest_86 (by decide) (fun _ => ?_) (fun c_35 => absurd c_35 (by decide))
  refine lv_iinc (v := 10) (lv' := [(3, .int 10), (4, .int 0), (1, .long 76927521737), (0, .ref x)]) hx hb dX5_digest_144 hl (k := 1) rfl (by decide) (by decide) rfl (fun ls hl => ?_)
  refine lv_goto (tgt := 71) hx hb dX5_digest_147 (by decide) ?_
  refine lv_iload_n hx hb dX5_digest_71 rfl (lv_at hl 0 rfl) ?_
  refine lv_bipush (v := 10) hx hb dX5_digest_72 (by decide) ?_
  refine lv_icmp_ge (tgt := 150) hx hb dX5_digest_74 (by decide) (fun _ => ?_) (fun c_36 => absurd c_36 (by decide))
  refine lv_lload_n hx hb dX5_digest_150 rfl (lv_at hl 2 rfl) ?_
  exact W.lret (v := 76927521737) hx hb hr (fun t ht hW => ⟨⟨76927521737, S, rfl, ⟨rfl, rfl⟩, by rw [ht]; exact hP, va_K.moved hW.alike hK, hD⟩, hS.F ht⟩) hS.2.2 dX5_digest_151

