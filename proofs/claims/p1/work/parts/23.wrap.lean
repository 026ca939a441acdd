set_option maxRecDepth 100000 in
set_option maxHeartbeats 4000000 in
theorem w_weigh_t (l : Launch) (hst : l.stackTraces = false) (D : va_G) (cA : Nat → ClassId) (sz : Nat) (S : Pool) (x qo : Nat) (fo : Nat → Int64) (ho : isO S x 5) (ar : Nat) (hq0 : gQ S x 0 = some ar) (har : isA S ar 22 8) (p0 p1 p2 : Int32) (hsw : kSw S ar p0 = none) : Met l yL_weigh (Cond.codeWith yL_weigh cL_weigh 6 (some .int) [(0, 12, 15, 21), (0, 12, 19, 13)] :: TT) ({ frames := 8, cells := 1, slots := 6, locals := 129 }) (va_Pc [.ref x, .int p0, .int p1, .int p2, .ref qo] (kPreX D cA (PW cA S ++ [oJ cA qo fo]) sz)) (va_Qi (fun (r_ : Int32) (x_ : Pool × (Nat → Int64)) => r_ = 1 ∧ x_.1 = S ∧ x_.2 = fo) (fun x_ => kB D cA (va_A (PW cA S ++ [oJ cA qo fo]) sz) (PW cA x_.1 ++ [oJ cA qo x_.2])) (va_A (PW cA S ++ [oJ cA qo fo]) sz)) 1 6 (va_A (PW cA S ++ [oJ cA qo fo]) sz) := by
  refine kt_ofWH (cc := cL_weigh) (maxL := 6) (ret := (some .int)) (by decide) rfl ?_
  intro p e s m args below meth c s₁ B hml hTab hv
  obtain ⟨rfl, ⟨hsz, hP, hK, hD0, hTB⟩, hTX⟩ := hv
  have hx := B.exec
  have hb := B.bytes
  have hr := B.returns
  have hts := atoms_spec (ws := Cond.codeWith yL_weigh cL_weigh 6 (some .int) [(0, 12, 15, 21), (0, 12, 19, 13)] :: TT) B.pre
  have htT : ∀ w ∈ TT, w.before _ s = true := fun w h => hts w (List.mem_cons_of_mem _ h)
  have hown : s.vm.findClass RL = some m.cls := findClass_of_methodNamed B.named
  have hlocks := B.notSynchronized
  subst hsz
  have hD := hD0.self (sz := s.heap.size)
  generalize hAe : va_A (PW cA S ++ [oJ cA qo fo]) s.heap.size = A at hD hTX ⊢
  have hA : ∀ q : Nat, s.heap.size ≤ q → A q := fun q h => by rw [← hAe]; exact Or.inr h
  have hS : va_S A s.heap s.heap [] := va_S.rf
  have hl := lv_entry ([.ref x, .int p0, .int p1, .int p2, .ref qo]) (n := 6) (Nat.le_of_ble_eq_true rfl)
  rw [lg_entry_eq]
  generalize (lg_sl ([.ref x, .int p0, .int p1, .int p2, .ref qo]) ++ List.replicate (6 - (lg_sl ([.ref x, .int p0, .int p1, .int p2, .ref qo])).length) Slot.unset).toArray = ls at hl ⊢
  have hl : lv_has ls 6 [(0, .ref x), (1, .int p0), (2, .int p1), (3, .int p2), (4, .ref qo)] := hl
  refine lv_aload hx hb dL_weigh_0 (lv_at hl 4 rfl) ?_
  refine lv_iconst (v := 0) hx hb dL_weigh_2 (by decide) ?_
  refine lv_aload_n hx hb dL_weigh_3 rfl (lv_at hl 0 rfl) ?_
  refine lv_iload_n hx hb dL_weigh_4 rfl (lv_at hl 1 rfl) ?_
  refine lv_iload_n hx hb dL_weigh_5 rfl (lv_at hl 2 rfl) ?_
  refine lv_iload_n hx hb dL_weigh_6 rfl (lv_at hl 3 rfl) ?_
  refine kj_t (List.Perm.refl _) (vx_runV (As := [.int p0, .int p1, .int p2]) (rest := [.int 0, .ref qo]) ⟨hx, hb, hml, hown, htT⟩ (c_weigh_t l hst D cA _ S x ho ar hq0 har p0 p1 p2 hsw) (cwV 3 htT (kg_V m_ml_L_17 m_im_X5_weigh m_sl_X5_weigh m_in_X5 m_cd_X5_weigh) rfl rfl rfl (by decide +kernel) ⟨Nat.le_of_ble_eq_true rfl, Nat.le_of_ble_eq_true rfl⟩) (kj_VX (List.Perm.refl _) hK hP hD hTB hTX hS hA (kj_rc (List.Perm.refl _) hK hP ho (Nat.le_of_ble_eq_true rfl) rfl)) rfl rfl hl.1 rfl (lv_room (Nat.le_of_ble_eq_true rfl)) dL_weigh_7 ⟨Nat.le_of_ble_eq_true rfl, Nat.le_of_ble_eq_true rfl⟩) hP hD hS hA (fun ce q9 H locs hP hD hS hce hcv hcl => ?_)
  refine vx_catch hown [] ⟨0, 12, 15, 21⟩ [⟨0, 12, 19, 13⟩] (hTab.trans rfl) (fun z hz => nomatch hz) rfl (by decide) (htT _ m_cl_L_21) (hTB.use (n_ca _ (by decide))) hce hcv hcl ?_
  refine lv_astore (lv' := [(5, .ref q9), (0, .ref x), (1, .int p0), (2, .int p1), (3, .int p2), (4, .ref qo)]) hx hb dL_weigh_15 hl (by decide) rfl (fun ls hl => ?_)
  refine lv_iconst (v := 1) hx hb dL_weigh_17 (by decide) ?_
  exact W.iret (v := 1) hx hb hr (fun t ht hW => ⟨⟨1, (S, fo), rfl, ⟨rfl, rfl, rfl⟩, by rw [ht]; exact hP, va_K.moved hW.alike hK, hD⟩, hS.F ht⟩) hS.2.2 dL_weigh_18

set_option maxRecDepth 100000 in
set_option maxHeartbeats 4000000 in
theorem w_turn_t (l : Launch) (hst : l.stackTraces = false) (D : va_G) (cA : Nat → ClassId) (sz : Nat) (S : Pool) (x qo : Nat) (fo : Nat → Int64) (ho : isO S x 5) (ar : Nat) (hq0 : gQ S x 0 = some ar) (har : isA S ar 22 8) (p0 p1 : Int32) (hsw : kSw S ar p0 = none) : Met l yL_turn (Cond.codeWith yL_turn cL_turn 5 (some .int) [(0, 17, 20, 21)] :: TT) ({ frames := 8, cells := 1, slots := 6, locals := 128 }) (va_Pc [.ref x, .int p0, .int p1, .ref qo] (kPreX D cA (PW cA S ++ [oJ cA qo fo]) sz)) (va_Qi (fun (r_ : Int32) (x_ : Pool × (Nat → Int64)) => r_ = 1 ∧ x_.1 = S ∧ x_.2 = fo) (fun x_ => kB D cA (va_A (PW cA S ++ [oJ cA qo fo]) sz) (PW cA x_.1 ++ [oJ cA qo x_.2])) (va_A (PW cA S ++ [oJ cA qo fo]) sz)) 1 6 (va_A (PW cA S ++ [oJ cA qo fo]) sz) := by
  refine kt_ofWH (cc := cL_turn) (maxL := 5) (ret := (some .int)) (by decide) rfl ?_
  intro p e s m args below meth c s₁ B hml hTab hv
  obtain ⟨rfl, ⟨hsz, hP, hK, hD0, hTB⟩, hTX⟩ := hv
  have hx := B.exec
  have hb := B.bytes
  have hr := B.returns
  have hts := atoms_spec (ws := Cond.codeWith yL_turn cL_turn 5 (some .int) [(0, 17, 20, 21)] :: TT) B.pre
  have htT : ∀ w ∈ TT, w.before _ s = true := fun w h => hts w (List.mem_cons_of_mem _ h)
  have hown : s.vm.findClass RL = some m.cls := findClass_of_methodNamed B.named
  have hlocks := B.notSynchronized
  subst hsz
  have hD := hD0.self (sz := s.heap.size)
  generalize hAe : va_A (PW cA S ++ [oJ cA qo fo]) s.heap.size = A at hD hTX ⊢
  have hA : ∀ q : Nat, s.heap.size ≤ q → A q := fun q h => by rw [← hAe]; exact Or.inr h
  have hS : va_S A s.heap s.heap [] := va_S.rf
  have hl := lv_entry ([.ref x, .int p0, .int p1, .ref qo]) (n := 5) (Nat.le_of_ble_eq_true rfl)
  rw [lg_entry_eq]
  generalize (lg_sl ([.ref x, .int p0, .int p1, .ref qo]) ++ List.replicate (5 - (lg_sl ([.ref x, .int p0, .int p1, .ref qo])).length) Slot.unset).toArray = ls at hl ⊢
  have hl : lv_has ls 5 [(0, .ref x), (1, .int p0), (2, .int p1), (3, .ref qo)] := hl
  refine lv_aload_n hx hb dL_turn_0 rfl (lv_at hl 3 rfl) ?_
  refine lv_iconst (v := 0) hx hb dL_turn_1 (by decide) ?_
  refine lv_aload_n hx hb dL_turn_2 rfl (lv_at hl 0 rfl) ?_
  refine lv_iload_n hx hb dL_turn_3 rfl (lv_at hl 1 rfl) ?_
  refine lv_iload_n hx hb dL_turn_4 rfl (lv_at hl 2 rfl) ?_
  refine kj_t (List.Perm.refl _) (vx_runV (As := [.int p0, .int p1]) (rest := [.int 0, .ref qo]) ⟨hx, hb, hml, hown, htT⟩ (c_turn_t l hst D cA _ S x ho ar hq0 har p0 p1 hsw) (cwV 2 htT (kg_V m_ml_L_23 m_im_X5_turn m_sl_X5_turn m_in_X5 m_cd_X5_turn) rfl rfl rfl (by decide +kernel) ⟨Nat.le_of_ble_eq_true rfl, Nat.le_of_ble_eq_true rfl⟩) (kj_VX (List.Perm.refl _) hK hP hD hTB hTX hS hA (kj_rc (List.Perm.refl _) hK hP ho (Nat.le_of_ble_eq_true rfl) rfl)) rfl rfl hl.1 rfl (lv_room (Nat.le_of_ble_eq_true rfl)) dL_turn_5 ⟨Nat.le_of_ble_eq_true rfl, Nat.le_of_ble_eq_true rfl⟩) hP hD hS hA (fun ce q9 H locs hP hD hS hce hcv hcl => ?_)
  refine vx_catch hown [] ⟨0, 17, 20, 21⟩ [] (hTab.trans rfl) (fun z hz => nomatch hz) rfl (by decide) (htT _ m_cl_L_21) (hTB.use (n_ca _ (by decide))) hce hcv hcl ?_
  refine lv_astore (lv' := [(4, .ref q9), (0, .ref x), (1, .int p0), (2, .int p1), (3, .ref qo)]) hx hb dL_turn_20 hl (by decide) rfl (fun ls hl => ?_)
  refine lv_iconst (v := 1) hx hb dL_turn_22 (by decide) ?_
  exact W.iret (v := 1) hx hb hr (fun t ht hW => ⟨⟨1, (S, fo), rfl, ⟨rfl, rfl, rfl⟩, by rw [ht]; exact hP, va_K.moved hW.alike hK, hD⟩, hS.F ht⟩) hS.2.2 dL_turn_23

set_option maxRecDepth 100000 in
set_option maxHeartbeats 4000000 in
theorem w_ramp_t (l : Launch) (hst : l.stackTraces = false) (D : va_G) (cA : Nat → ClassId) (sz : Nat) (S : Pool) (x qo : Nat) (fo : Nat → Int64) (ho : isO S x 5) (ar : Nat) (hq0 : gQ S x 0 = some ar) (har : isA S ar 22 8) (p0 p1 p2 : Int32) (hsw : kSw S ar p0 = none) : Met l yL_ramp (Cond.codeWith yL_ramp cL_ramp 6 (some .int) [(0, 12, 15, 21), (0, 12, 19, 13)] :: TT) ({ frames := 8, cells := 1, slots := 6, locals := 129 }) (va_Pc [.ref x, .int p0, .int p1, .int p2, .ref qo] (kPreX D cA (PW cA S ++ [oJ cA qo fo]) sz)) (va_Qi (fun (r_ : Int32) (x_ : Pool × (Nat → Int64)) => r_ = 1 ∧ x_.1 = S ∧ x_.2 = fo) (fun x_ => kB D cA (va_A (PW cA S ++ [oJ cA qo fo]) sz) (PW cA x_.1 ++ [oJ cA qo x_.2])) (va_A (PW cA S ++ [oJ cA qo fo]) sz)) 1 6 (va_A (PW cA S ++ [oJ cA qo fo]) sz) := by
  refine kt_ofWH (cc := cL_ramp) (maxL := 6) (ret := (some .int)) (by decide) rfl ?_
  intro p e s m args below meth c s₁ B hml hTab hv
  obtain ⟨rfl, ⟨hsz, hP, hK, hD0, hTB⟩, hTX⟩ := hv
  have hx := B.exec
  have hb := B.bytes
  have hr := B.returns
  have hts := atoms_spec (ws := Cond.codeWith yL_ramp cL_ramp 6 (some .int) [(0, 12, 15, 21), (0, 12, 19, 13)] :: TT) B.pre
  have htT : ∀ w ∈ TT, w.before _ s = true := fun w h => hts w (List.mem_cons_of_mem _ h)
  have hown : s.vm.findClass RL = some m.cls := findClass_of_methodNamed B.named
  have hlocks := B.notSynchronized
  subst hsz
  have hD := hD0.self (sz := s.heap.size)
  generalize hAe : va_A (PW cA S ++ [oJ cA qo fo]) s.heap.size = A at hD hTX ⊢
  have hA : ∀ q : Nat, s.heap.size ≤ q → A q := fun q h => by rw [← hAe]; exact Or.inr h
  have hS : va_S A s.heap s.heap [] := va_S.rf
  have hl := lv_entry ([.ref x, .int p0, .int p1, .int p2, .ref qo]) (n := 6) (Nat.le_of_ble_eq_true rfl)
  rw [lg_entry_eq]
  generalize (lg_sl ([.ref x, .int p0, .int p1, .int p2, .ref qo]) ++ List.replicate (6 - (lg_sl ([.ref x, .int p0, .int p1, .int p2, .ref qo])).length) Slot.unset).toArray = ls at hl ⊢
  have hl : lv_has ls 6 [(0, .ref x), (1, .int p0), (2, .int p1), (3, .int p2), (4, .ref qo)] := hl
  refine lv_aload hx hb dL_ramp_0 (lv_at hl 4 rfl) ?_
  refine lv_iconst (v := 0) hx hb dL_ramp_2 (by decide) ?_
  refine lv_aload_n hx hb dL_ramp_3 rfl (lv_at hl 0 rfl) ?_
  refine lv_iload_n hx hb dL_ramp_4 rfl (lv_at hl 1 rfl) ?_
  refine lv_iload_n hx hb dL_ramp_5 rfl (lv_at hl 2 rfl) ?_
  refine lv_iload_n hx hb dL_ramp_6 rfl (lv_at hl 3 rfl) ?_
  refine kj_t (List.Perm.refl _) (vx_runV (As := [.int p0, .int p1, .int p2]) (rest := [.int 0, .ref qo]) ⟨hx, hb, hml, hown, htT⟩ (c_ramp_t l hst D cA _ S x ho ar hq0 har p0 p1 p2 hsw) (cwV 3 htT (kg_V m_ml_L_27 m_im_X5_ramp m_sl_X5_ramp m_in_X5 m_cd_X5_ramp) rfl rfl rfl (by decide +kernel) ⟨Nat.le_of_ble_eq_true rfl, Nat.le_of_ble_eq_true rfl⟩) (kj_VX (List.Perm.refl _) hK hP hD hTB hTX hS hA (kj_rc (List.Perm.refl _) hK hP ho (Nat.le_of_ble_eq_true rfl) rfl)) rfl rfl hl.1 rfl (lv_room (Nat.le_of_ble_eq_true rfl)) dL_ramp_7 ⟨Nat.le_of_ble_eq_true rfl, Nat.le_of_ble_eq_true rfl⟩) hP hD hS hA (fun ce q9 H locs hP hD hS hce hcv hcl => ?_)
  refine vx_catch hown [] ⟨0, 12, 15, 21⟩ [⟨0, 12, 19, 13⟩] (hTab.trans rfl) (fun z hz => nomatch hz) rfl (by decide) (htT _ m_cl_L_21) (hTB.use (n_ca _ (by decide))) hce hcv hcl ?_
  refine lv_astore (lv' := [(5, .ref q9), (0, .ref x), (1, .int p0), (2, .int p1), (3, .int p2), (4, .ref qo)]) hx hb dL_ramp_15 hl (by decide) rfl (fun ls hl => ?_)
  refine lv_iconst (v := 1) hx hb dL_ramp_17 (by decide) ?_
  exact W.iret (v := 1) hx hb hr (fun t ht hW => ⟨⟨1, (S, fo), rfl, ⟨rfl, rfl, rfl⟩, by rw [ht]; exact hP, va_K.moved hW.alike hK, hD⟩, hS.F ht⟩) hS.2.2 dL_ramp_18

set_option maxRecDepth 100000 in
set_option maxHeartbeats 4000000 in
theorem w_place_t (l : Launch) (hst : l.stackTraces = false) (D : va_G) (cA : Nat → ClassId) (sz : Nat) (S : Pool) (x qo : Nat) (fo : Nat → Int64) (ho : isO S x 5) (ar : Nat) (hq0 : gQ S x 0 = some ar) (har : isA S ar 22 8) (p0 p1 p2 p3 : Int32) (hsw : kSw S ar p0 = none) : Met l yL_place (Cond.codeWith yL_place cL_place 7 (some .int) [(0, 14, 17, 21), (0, 14, 21, 13), (0, 14, 25, 15)] :: TT) ({ frames := 8, cells := 1, slots := 6, locals := 130 }) (va_Pc [.ref x, .int p0, .int p1, .int p2, .int p3, .ref qo] (kPreX D cA (PW cA S ++ [oJ cA qo fo]) sz)) (va_Qi (fun (r_ : Int32) (x_ : Pool × (Nat → Int64)) => r_ = 1 ∧ x_.1 = S ∧ x_.2 = fo) (fun x_ => kB D cA (va_A (PW cA S ++ [oJ cA qo fo]) sz) (PW cA x_.1 ++ [oJ cA qo x_.2])) (va_A (PW cA S ++ [oJ cA qo fo]) sz)) 1 6 (va_A (PW cA S ++ [oJ cA qo fo]) sz) := by
  refine kt_ofWH (cc := cL_place) (maxL := 7) (ret := (some .int)) (by decide) rfl ?_
  intro p e s m args below meth c s₁ B hml hTab hv
  obtain ⟨rfl, ⟨hsz, hP, hK, hD0, hTB⟩, hTX⟩ := hv
  have hx := B.exec
  have hb := B.bytes
  have hr := B.returns
  have hts := atoms_spec (ws := Cond.codeWith yL_place cL_place 7 (some .int) [(0, 14, 17, 21), (0, 14, 21, 13), (0, 14, 25, 15)] :: TT) B.pre
  have htT : ∀ w ∈ TT, w.before _ s = true := fun w h => hts w (List.mem_cons_of_mem _ h)
  have hown : s.vm.findClass RL = some m.cls := findClass_of_methodNamed B.named
  have hlocks := B.notSynchronized
  subst hsz
  have hD := hD0.self (sz := s.heap.size)
  generalize hAe : va_A (PW cA S ++ [oJ cA qo fo]) s.heap.size = A at hD hTX ⊢
  have hA : ∀ q : Nat, s.heap.size ≤ q → A q := fun q h => by rw [← hAe]; exact Or.inr h
  have hS : va_S A s.heap s.heap [] := va_S.rf
  have hl := lv_entry ([.ref x, .int p0, .int p1, .int p2, .int p3, .ref qo]) (n := 7) (Nat.le_of_ble_eq_true rfl)
  rw [lg_entry_eq]
  generalize (lg_sl ([.ref x, .int p0, .int p1, .int p2, .int p3, .ref qo]) ++ List.replicate (7 - (lg_sl ([.ref x, .int p0, .int p1, .int p2, .int p3, .ref qo])).length) Slot.unset).toArray = ls at hl ⊢
  have hl : lv_has ls 7 [(0, .ref x), (1, .int p0), (2, .int p1), (3, .int p2), (4, .int p3), (5, .ref qo)] := hl
  refine lv_aload hx hb dL_place_0 (lv_at hl 5 rfl) ?_
  refine lv_iconst (v := 0) hx hb dL_place_2 (by decide) ?_
  refine lv_aload_n hx hb dL_place_3 rfl (lv_at hl 0 rfl) ?_
  refine lv_iload_n hx hb dL_place_4 rfl (lv_at hl 1 rfl) ?_
  refine lv_iload_n hx hb dL_place_5 rfl (lv_at hl 2 rfl) ?_
  refine lv_iload_n hx hb dL_place_6 rfl (lv_at hl 3 rfl) ?_
  refine lv_iload hx hb dL_place_7 (lv_at hl 4 rfl) ?_
  refine kj_t (List.Perm.refl _) (vx_runV (As := [.int p0, .int p1, .int p2, .int p3]) (rest := [.int 0, .ref qo]) ⟨hx, hb, hml, hown, htT⟩ (c_place_t l hst D cA _ S x ho ar hq0 har p0 p1 p2 p3 hsw) (cwV 4 htT (kg_V m_ml_L_30 m_im_X5_place m_sl_X5_place m_in_X5 m_cd_X5_place) rfl rfl rfl (by decide +kernel) ⟨Nat.le_of_ble_eq_true rfl, Nat.le_of_ble_eq_true rfl⟩) (kj_VX (List.Perm.refl _) hK hP hD hTB hTX hS hA (kj_rc (List.Perm.refl _) hK hP ho (Nat.le_of_ble_eq_true rfl) rfl)) rfl rfl hl.1 rfl (lv_room (Nat.le_of_ble_eq_true rfl)) dL_place_9 ⟨Nat.le_of_ble_eq_true rfl, Nat.le_of_ble_eq_true rfl⟩) hP hD hS hA (fun ce q9 H locs hP hD hS hce hcv hcl => ?_)
  refine vx_catch hown [] ⟨0, 14, 17, 21⟩ [⟨0, 14, 21, 13⟩, ⟨0, 14, 25, 15⟩] (hTab.trans rfl) (fun z hz => nomatch hz) rfl (by decide) (htT _ m_cl_L_21) (hTB.use (n_ca _ (by decide))) hce hcv hcl ?_
  refine lv_astore (lv' := [(6, .ref q9), (0, .ref x), (1, .int p0), (2, .int p1), (3, .int p2), (4, .int p3), (5, .ref qo)]) hx hb dL_place_17 hl (by decide) rfl (fun ls hl => ?_)
  refine lv_iconst (v := 1) hx hb dL_place_19 (by decide) ?_
  exact W.iret (v := 1) hx hb hr (fun t ht hW => ⟨⟨1, (S, fo), rfl, ⟨rfl, rfl, rfl⟩, by rw [ht]; exact hP, va_K.moved hW.alike hK, hD⟩, hS.F ht⟩) hS.2.2 dL_place_20

set_option maxRecDepth 100000 in
set_option maxHeartbeats 4000000 in
theorem w_need_t (l : Launch) (hst : l.stackTraces = false) (D : va_G) (cA : Nat → ClassId) (sz : Nat) (S : Pool) (x qo : Nat) (fo : Nat → Int64) (ho : isO S x 5) (ar : Nat) (hq0 : gQ S x 0 = some ar) (har : isA S ar 22 8) (p0 p1 p2 : Int32) (hsw : kSw S ar p0 = none) : Met l yL_need (Cond.codeWith yL_need cL_need 6 (some .int) [(0, 12, 15, 21), (0, 12, 19, 13)] :: TT) ({ frames := 8, cells := 1, slots := 6, locals := 129 }) (va_Pc [.ref x, .int p0, .int p1, .int p2, .ref qo] (kPreX D cA (PW cA S ++ [oJ cA qo fo]) sz)) (va_Qi (fun (r_ : Int32) (x_ : Pool × (Nat → Int64)) => r_ = 1 ∧ x_.1 = S ∧ x_.2 = fo) (fun x_ => kB D cA (va_A (PW cA S ++ [oJ cA qo fo]) sz) (PW cA x_.1 ++ [oJ cA qo x_.2])) (va_A (PW cA S ++ [oJ cA qo fo]) sz)) 1 6 (va_A (PW cA S ++ [oJ cA qo fo]) sz) := by
  refine kt_ofWH (cc := cL_need) (maxL := 6) (ret := (some .int)) (by decide) rfl ?_
  intro p e s m args below meth c s₁ B hml hTab hv
  obtain ⟨rfl, ⟨hsz, hP, hK, hD0, hTB⟩, hTX⟩ := hv
  have hx := B.exec
  have hb := B.bytes
  have hr := B.returns
  have hts := atoms_spec (ws := Cond.codeWith yL_need cL_need 6 (some .int) [(0, 12, 15, 21), (0, 12, 19, 13)] :: TT) B.pre
  have htT : ∀ w ∈ TT, w.before _ s = true := fun w h => hts w (List.mem_cons_of_mem _ h)
  have hown : s.vm.findClass RL = some m.cls := findClass_of_methodNamed B.named
  have hlocks := B.notSynchronized
  subst hsz
  have hD := hD0.self (sz := s.heap.size)
  generalize hAe : va_A (PW cA S ++ [oJ cA qo fo]) s.heap.size = A at hD hTX ⊢
  have hA : ∀ q : Nat, s.heap.size ≤ q → A q := fun q h => by rw [← hAe]; exact Or.inr h
  have hS : va_S A s.heap s.heap [] := va_S.rf
  have hl := lv_entry ([.ref x, .int p0, .int p1, .int p2, .ref qo]) (n := 6) (Nat.le_of_ble_eq_true rfl)
  rw [lg_entry_eq]
  generalize (lg_sl ([.ref x, .int p0, .int p1, .int p2, .ref qo]) ++ List.replicate (6 - (lg_sl ([.ref x, .int p0, .int p1, .int p2, .ref qo])).length) Slot.unset).toArray = ls at hl ⊢
  have hl : lv_has ls 6 [(0, .ref x), (1, .int p0), (2, .int p1), (3, .int p2), (4, .ref qo)] := hl
  refine lv_aload hx hb dL_need_0 (lv_at hl 4 rfl) ?_
  refine lv_iconst (v := 0) hx hb dL_need_2 (by decide) ?_
  refine lv_aload_n hx hb dL_need_3 rfl (lv_at hl 0 rfl) ?_
  refine lv_iload_n hx hb dL_need_4 rfl (lv_at hl 1 rfl) ?_
  refine lv_iload_n hx hb dL_need_5 rfl (lv_at hl 2 rfl) ?_
  refine lv_iload_n hx hb dL_need_6 rfl (lv_at hl 3 rfl) ?_
  refine kj_t (List.Perm.refl _) (vx_runV (As := [.int p0, .int p1, .int p2]) (rest := [.int 0, .ref qo]) ⟨hx, hb, hml, hown, htT⟩ (c_need_t l hst D cA _ S x ho ar hq0 har p0 p1 p2 hsw) (cwV 3 htT (kg_V m_ml_L_34 m_im_X5_need m_sl_X5_need m_in_X5 m_cd_X5_need) rfl rfl rfl (by decide +kernel) ⟨Nat.le_of_ble_eq_true rfl, Nat.le_of_ble_eq_true rfl⟩) (kj_VX (List.Perm.refl _) hK hP hD hTB hTX hS hA (kj_rc (List.Perm.refl _) hK hP ho (Nat.le_of_ble_eq_true rfl) rfl)) rfl rfl hl.1 rfl (lv_room (Nat.le_of_ble_eq_true rfl)) dL_need_7 ⟨Nat.le_of_ble_eq_true rfl, Nat.le_of_ble_eq_true rfl⟩) hP hD hS hA (fun ce q9 H locs hP hD hS hce hcv hcl => ?_)
  refine vx_catch hown [] ⟨0, 12, 15, 21⟩ [⟨0, 12, 19, 13⟩] (hTab.trans rfl) (fun z hz => nomatch hz) rfl (by decide) (htT _ m_cl_L_21) (hTB.use (n_ca _ (by decide))) hce hcv hcl ?_
  refine lv_astore (lv' := [(5, .ref q9), (0, .ref x), (1, .int p0), (2, .int p1), (3, .int p2), (4, .ref qo)]) hx hb dL_need_15 hl (by decide) rfl (fun ls hl => ?_)
  refine lv_iconst (v := 1) hx hb dL_need_17 (by decide) ?_
  exact W.iret (v := 1) hx hb hr (fun t ht hW => ⟨⟨1, (S, fo), rfl, ⟨rfl, rfl, rfl⟩, by rw [ht]; exact hP, va_K.moved hW.alike hK, hD⟩, hS.F ht⟩) hS.2.2 dL_need_18

set_option maxRecDepth 100000 in
set_option maxHeartbeats 4000000 in
theorem w_rule_t (l : Launch) (hst : l.stackTraces = false) (D : va_G) (cA : Nat → ClassId) (sz : Nat) (S : Pool) (x qo : Nat) (fo : Nat → Int64) (ho : isO S x 5) (ar : Nat) (hq0 : gQ S x 0 = some ar) (har : isA S ar 22 8) (p0 p1 p2 p3 p4 : Int32) (hsw : kSw S ar p0 = none) : Met l yL_rule (Cond.codeWith yL_rule cL_rule 8 (some .int) [(0, 16, 19, 21), (0, 16, 23, 13), (0, 16, 27, 15)] :: TT) ({ frames := 8, cells := 1, slots := 6, locals := 130 }) (va_Pc [.ref x, .int p0, .int p1, .int p2, .int p3, .int p4, .ref qo] (kPreX D cA (PW cA S ++ [oJ cA qo fo]) sz)) (va_Qi (fun (r_ : Int32) (x_ : Pool × (Nat → Int64)) => r_ = 1 ∧ x_.1 = S ∧ x_.2 = fo) (fun x_ => kB D cA (va_A (PW cA S ++ [oJ cA qo fo]) sz) (PW cA x_.1 ++ [oJ cA qo x_.2])) (va_A (PW cA S ++ [oJ cA qo fo]) sz)) 1 6 (va_A (PW cA S ++ [oJ cA qo fo]) sz) := by
  refine kt_ofWH (cc := cL_rule) (maxL := 8) (ret := (some .int)) (by decide) rfl ?_
  intro p e s m args below meth c s₁ B hml hTab hv
  obtain ⟨rfl, ⟨hsz, hP, hK, hD0, hTB⟩, hTX⟩ := hv
  have hx := B.exec
  have hb := B.bytes
  have hr := B.returns
  have hts := atoms_spec (ws := Cond.codeWith yL_rule cL_rule 8 (some .int) [(0, 16, 19, 21), (0, 16, 23, 13), (0, 16, 27, 15)] :: TT) B.pre
  have htT : ∀ w ∈ TT, w.before _ s = true := fun w h => hts w (List.mem_cons_of_mem _ h)
  have hown : s.vm.findClass RL = some m.cls := findClass_of_methodNamed B.named
  have hlocks := B.notSynchronized
  subst hsz
  have hD := hD0.self (sz := s.heap.size)
  generalize hAe : va_A (PW cA S ++ [oJ cA qo fo]) s.heap.size = A at hD hTX ⊢
  have hA : ∀ q : Nat, s.heap.size ≤ q → A q := fun q h => by rw [← hAe]; exact Or.inr h
  have hS : va_S A s.heap s.heap [] := va_S.rf
  have hl := lv_entry ([.ref x, .int p0, .int p1, .int p2, .int p3, .int p4, .ref qo]) (n := 8) (Nat.le_of_ble_eq_true rfl)
  rw [lg_entry_eq]
  generalize (lg_sl ([.ref x, .int p0, .int p1, .int p2, .int p3, .int p4, .ref qo]) ++ List.replicate (8 - (lg_sl ([.ref x, .int p0, .int p1, .int p2, .int p3, .int p4, .ref qo])).length) Slot.unset).toArray = ls at hl ⊢
  have hl : lv_has ls 8 [(0, .ref x), (1, .int p0), (2, .int p1), (3, .int p2), (4, .int p3), (5, .int p4), (6, .ref qo)] := hl
  refine lv_aload hx hb dL_rule_0 (lv_at hl 6 rfl) ?_
  refine lv_iconst (v := 0) hx hb dL_rule_2 (by decide) ?_
  refine lv_aload_n hx hb dL_rule_3 rfl (lv_at hl 0 rfl) ?_
  refine lv_iload_n hx hb dL_rule_4 rfl (lv_at hl 1 rfl) ?_
  refine lv_iload_n hx hb dL_rule_5 rfl (lv_at hl 2 rfl) ?_
  refine lv_iload_n hx hb dL_rule_6 rfl (lv_at hl 3 rfl) ?_
  refine lv_iload hx hb dL_rule_7 (lv_at hl 4 rfl) ?_
  refine lv_iload hx hb dL_rule_9 (lv_at hl 5 rfl) ?_
  refine kj_t (List.Perm.refl _) (vx_runV (As := [.int p0, .int p1, .int p2, .int p3, .int p4]) (rest := [.int 0, .ref qo]) ⟨hx, hb, hml, hown, htT⟩ (c_rule_t l hst D cA _ S x ho ar hq0 har p0 p1 p2 p3 p4 hsw) (cwV 5 htT (kg_V m_ml_L_37 m_im_X5_rule m_sl_X5_rule m_in_X5 m_cd_X5_rule) rfl rfl rfl (by decide +kernel) ⟨Nat.le_of_ble_eq_true rfl, Nat.le_of_ble_eq_true rfl⟩) (kj_VX (List.Perm.refl _) hK hP hD hTB hTX hS hA (kj_rc (List.Perm.refl _) hK hP ho (Nat.le_of_ble_eq_true rfl) rfl)) rfl rfl hl.1 rfl (lv_room (Nat.le_of_ble_eq_true rfl)) dL_rule_11 ⟨Nat.le_of_ble_eq_true rfl, Nat.le_of_ble_eq_true rfl⟩) hP hD hS hA (fun ce q9 H locs hP hD hS hce hcv hcl => ?_)
  refine vx_catch hown [] ⟨0, 16, 19, 21⟩ [⟨0, 16, 23, 13⟩, ⟨0, 16, 27, 15⟩] (hTab.trans rfl) (fun z hz => nomatch hz) rfl (by decide) (htT _ m_cl_L_21) (hTB.use (n_ca _ (by decide))) hce hcv hcl ?_
  refine lv_astore (lv' := [(7, .ref q9), (0, .ref x), (1, .int p0), (2, .int p1), (3, .int p2), (4, .int p3), (5, .int p4), (6, .ref qo)]) hx hb dL_rule_19 hl (by decide) rfl (fun ls hl => ?_)
  refine lv_iconst (v := 1) hx hb dL_rule_21 (by decide) ?_
  exact W.iret (v := 1) hx hb hr (fun t ht hW => ⟨⟨1, (S, fo), rfl, ⟨rfl, rfl, rfl⟩, by rw [ht]; exact hP, va_K.moved hW.alike hK, hD⟩, hS.F ht⟩) hS.2.2 dL_rule_22

set_option maxRecDepth 100000 in
set_option maxHeartbeats 4000000 in
theorem w_unrule_t (l : Launch) (hst : l.stackTraces = false) (D : va_G) (cA : Nat → ClassId) (sz : Nat) (S : Pool) (x qo : Nat) (fo : Nat → Int64) (ho : isO S x 5) (ar : Nat) (hq0 : gQ S x 0 = some ar) (har : isA S ar 22 8) (p0 p1 : Int32) (hsw : kSw S ar p0 = none) : Met l yL_unrule (Cond.codeWith yL_unrule cL_unrule 5 (some .int) [(0, 10, 13, 21)] :: TT) ({ frames := 8, cells := 1, slots := 6, locals := 127 }) (va_Pc [.ref x, .int p0, .int p1, .ref qo] (kPreX D cA (PW cA S ++ [oJ cA qo fo]) sz)) (va_Qi (fun (r_ : Int32) (x_ : Pool × (Nat → Int64)) => r_ = 1 ∧ x_.1 = S ∧ x_.2 = fo) (fun x_ => kB D cA (va_A (PW cA S ++ [oJ cA qo fo]) sz) (PW cA x_.1 ++ [oJ cA qo x_.2])) (va_A (PW cA S ++ [oJ cA qo fo]) sz)) 1 6 (va_A (PW cA S ++ [oJ cA qo fo]) sz) := by
  refine kt_ofWH (cc := cL_unrule) (maxL := 5) (ret := (some .int)) (by decide) rfl ?_
  intro p e s m args below meth c s₁ B hml hTab hv
  obtain ⟨rfl, ⟨hsz, hP, hK, hD0, hTB⟩, hTX⟩ := hv
  have hx := B.exec
  have hb := B.bytes
  have hr := B.returns
  have hts := atoms_spec (ws := Cond.codeWith yL_unrule cL_unrule 5 (some .int) [(0, 10, 13, 21)] :: TT) B.pre
  have htT : ∀ w ∈ TT, w.before _ s = true := fun w h => hts w (List.mem_cons_of_mem _ h)
  have hown : s.vm.findClass RL = some m.cls := findClass_of_methodNamed B.named
  have hlocks := B.notSynchronized
  subst hsz
  have hD := hD0.self (sz := s.heap.size)
  generalize hAe : va_A (PW cA S ++ [oJ cA qo fo]) s.heap.size = A at hD hTX ⊢
  have hA : ∀ q : Nat, s.heap.size ≤ q → A q := fun q h => by rw [← hAe]; exact Or.inr h
  have hS : va_S A s.heap s.heap [] := va_S.rf
  have hl := lv_entry ([.ref x, .int p0, .int p1, .ref qo]) (n := 5) (Nat.le_of_ble_eq_true rfl)
  rw [lg_entry_eq]
  generalize (lg_sl ([.ref x, .int p0, .int p1, .ref qo]) ++ List.replicate (5 - (lg_sl ([.ref x, .int p0, .int p1, .ref qo])).length) Slot.unset).toArray = ls at hl ⊢
  have hl : lv_has ls 5 [(0, .ref x), (1, .int p0), (2, .int p1), (3, .ref qo)] := hl
  refine lv_aload_n hx hb dL_unrule_0 rfl (lv_at hl 3 rfl) ?_
  refine lv_iconst (v := 0) hx hb dL_unrule_1 (by decide) ?_
  refine lv_aload_n hx hb dL_unrule_2 rfl (lv_at hl 0 rfl) ?_
  refine lv_iload_n hx hb dL_unrule_3 rfl (lv_at hl 1 rfl) ?_
  refine lv_iload_n hx hb dL_unrule_4 rfl (lv_at hl 2 rfl) ?_
  refine kj_t (List.Perm.refl _) (vx_runV (As := [.int p0, .int p1]) (rest := [.int 0, .ref qo]) ⟨hx, hb, hml, hown, htT⟩ (c_unrule_t l hst D cA _ S x ho ar hq0 har p0 p1 hsw) (cwV 2 htT (kg_V m_ml_L_41 m_im_X5_unrule m_sl_X5_unrule m_in_X5 m_cd_X5_unrule) rfl rfl rfl (by decide +kernel) ⟨Nat.le_of_ble_eq_true rfl, Nat.le_of_ble_eq_true rfl⟩) (kj_VX (List.Perm.refl _) hK hP hD hTB hTX hS hA (kj_rc (List.Perm.refl _) hK hP ho (Nat.le_of_ble_eq_true rfl) rfl)) rfl rfl hl.1 rfl (lv_room (Nat.le_of_ble_eq_true rfl)) dL_unrule_5 ⟨Nat.le_of_ble_eq_true rfl, Nat.le_of_ble_eq_true rfl⟩) hP hD hS hA (fun ce q9 H locs hP hD hS hce hcv hcl => ?_)
  refine vx_catch hown [] ⟨0, 10, 13, 21⟩ [] (hTab.trans rfl) (fun z hz => nomatch hz) rfl (by decide) (htT _ m_cl_L_21) (hTB.use (n_ca _ (by decide))) hce hcv hcl ?_
  refine lv_astore (lv' := [(4, .ref q9), (0, .ref x), (1, .int p0), (2, .int p1), (3, .ref qo)]) hx hb dL_unrule_13 hl (by decide) rfl (fun ls hl => ?_)
  refine lv_iconst (v := 1) hx hb dL_unrule_15 (by decide) ?_
  exact W.iret (v := 1) hx hb hr (fun t ht hW => ⟨⟨1, (S, fo), rfl, ⟨rfl, rfl, rfl⟩, by rw [ht]; exact hP, va_K.moved hW.alike hK, hD⟩, hS.F ht⟩) hS.2.2 dL_unrule_16

set_option maxRecDepth 100000 in
set_option maxHeartbeats 4000000 in
theorem w_weight_t (l : Launch) (hst : l.stackTraces = false) (D : va_G) (cA : Nat → ClassId) (sz : Nat) (S : Pool) (x qo : Nat) (fo : Nat → Int64) (ho : isO S x 5) (ar : Nat) (hq0 : gQ S x 0 = some ar) (har : isA S ar 22 8) (p0 p1 : Int32) (hsw : kSw S ar p0 = none) : Met l yL_weight (Cond.codeWith yL_weight cL_weight 5 (some .int) [(0, 10, 13, 21)] :: TT) ({ frames := 8, cells := 1, slots := 6, locals := 127 }) (va_Pc [.ref x, .int p0, .int p1, .ref qo] (kPreX D cA (PW cA S ++ [oJ cA qo fo]) sz)) (va_Qi (fun (r_ : Int32) (x_ : Pool × (Nat → Int64)) => r_ = 1 ∧ x_.1 = S ∧ x_.2 = fo) (fun x_ => kB D cA (va_A (PW cA S ++ [oJ cA qo fo]) sz) (PW cA x_.1 ++ [oJ cA qo x_.2])) (va_A (PW cA S ++ [oJ cA qo fo]) sz)) 1 6 (va_A (PW cA S ++ [oJ cA qo fo]) sz) := by
  refine kt_ofWH (cc := cL_weight) (maxL := 5) (ret := (some .int)) (by decide) rfl ?_
  intro p e s m args below meth c s₁ B hml hTab hv
  obtain ⟨rfl, ⟨hsz, hP, hK, hD0, hTB⟩, hTX⟩ := hv
  have hx := B.exec
  have hb := B.bytes
  have hr := B.returns
  have hts := atoms_spec (ws := Cond.codeWith yL_weight cL_weight 5 (some .int) [(0, 10, 13, 21)] :: TT) B.pre
  have htT : ∀ w ∈ TT, w.before _ s = true := fun w h => hts w (List.mem_cons_of_mem _ h)
  have hown : s.vm.findClass RL = some m.cls := findClass_of_methodNamed B.named
  have hlocks := B.notSynchronized
  subst hsz
  have hD := hD0.self (sz := s.heap.size)
  generalize hAe : va_A (PW cA S ++ [oJ cA qo fo]) s.heap.size = A at hD hTX ⊢
  have hA : ∀ q : Nat, s.heap.size ≤ q → A q := fun q h => by rw [← hAe]; exact Or.inr h
  have hS : va_S A s.heap s.heap [] := va_S.rf
  have hl := lv_entry ([.ref x, .int p0, .int p1, .ref qo]) (n := 5) (Nat.le_of_ble_eq_true rfl)
  rw [lg_entry_eq]
  generalize (lg_sl ([.ref x, .int p0, .int p1, .ref qo]) ++ List.replicate (5 - (lg_sl ([.ref x, .int p0, .int p1, .ref qo])).length) Slot.unset).toArray = ls at hl ⊢
  have hl : lv_has ls 5 [(0, .ref x), (1, .int p0), (2, .int p1), (3, .ref qo)] := hl
  refine lv_aload_n hx hb dL_weight_0 rfl (lv_at hl 3 rfl) ?_
  refine lv_iconst (v := 0) hx hb dL_weight_1 (by decide) ?_
  refine lv_aload_n hx hb dL_weight_2 rfl (lv_at hl 0 rfl) ?_
  refine lv_iload_n hx hb dL_weight_3 rfl (lv_at hl 1 rfl) ?_
  refine lv_iload_n hx hb dL_weight_4 rfl (lv_at hl 2 rfl) ?_
  refine kj_t (List.Perm.refl _) (vx_runV (As := [.int p0, .int p1]) (rest := [.int 0, .ref qo]) ⟨hx, hb, hml, hown, htT⟩ (c_weight_t l hst D cA _ S x ho ar hq0 har p0 p1 hsw) (cwV 2 htT (kg_V m_ml_L_52 m_im_X5_weight m_sl_X5_weight m_in_X5 m_cd_X5_weight) rfl rfl rfl (by decide +kernel) ⟨Nat.le_of_ble_eq_true rfl, Nat.le_of_ble_eq_true rfl⟩) (kj_VX (List.Perm.refl _) hK hP hD hTB hTX hS hA (kj_rc (List.Perm.refl _) hK hP ho (Nat.le_of_ble_eq_true rfl) rfl)) rfl rfl hl.1 rfl (lv_room (Nat.le_of_ble_eq_true rfl)) dL_weight_5 ⟨Nat.le_of_ble_eq_true rfl, Nat.le_of_ble_eq_true rfl⟩) hP hD hS hA (fun ce q9 H locs hP hD hS hce hcv hcl => ?_)
  refine vx_catch hown [] ⟨0, 10, 13, 21⟩ [] (hTab.trans rfl) (fun z hz => nomatch hz) rfl (by decide) (htT _ m_cl_L_21) (hTB.use (n_ca _ (by decide))) hce hcv hcl ?_
  refine lv_astore (lv' := [(4, .ref q9), (0, .ref x), (1, .int p0), (2, .int p1), (3, .ref qo)]) hx hb dL_weight_13 hl (by decide) rfl (fun ls hl => ?_)
  refine lv_iconst (v := 1) hx hb dL_weight_15 (by decide) ?_
  exact W.iret (v := 1) hx hb hr (fun t ht hW => ⟨⟨1, (S, fo), rfl, ⟨rfl, rfl, rfl⟩, by rw [ht]; exact hP, va_K.moved hW.alike hK, hD⟩, hS.F ht⟩) hS.2.2 dL_weight_16

set_option maxRecDepth 100000 in
set_option maxHeartbeats 4000000 in
theorem w_share_t (l : Launch) (hst : l.stackTraces = false) (D : va_G) (cA : Nat → ClassId) (sz : Nat) (S : Pool) (x qo : Nat) (fo : Nat → Int64) (ho : isO S x 5) (ar : Nat) (hq0 : gQ S x 0 = some ar) (har : isA S ar 22 8) (p0 : Int32) (hsw : kSw S ar p0 = none) : Met l yL_share (Cond.codeWith yL_share cL_share 4 (some .int) [(0, 9, 12, 21)] :: TT) ({ frames := 8, cells := 1, slots := 6, locals := 125 }) (va_Pc [.ref x, .int p0, .ref qo] (kPreX D cA (PW cA S ++ [oJ cA qo fo]) sz)) (va_Qi (fun (r_ : Int32) (x_ : Pool × (Nat → Int64)) => r_ = 1 ∧ x_.1 = S ∧ x_.2 = fo) (fun x_ => kB D cA (va_A (PW cA S ++ [oJ cA qo fo]) sz) (PW cA x_.1 ++ [oJ cA qo x_.2])) (va_A (PW cA S ++ [oJ cA qo fo]) sz)) 1 6 (va_A (PW cA S ++ [oJ cA qo fo]) sz) := by
  refine kt_ofWH (cc := cL_share) (maxL := 4) (ret := (some .int)) (by decide) rfl ?_
  intro p e s m args below meth c s₁ B hml hTab hv
  obtain ⟨rfl, ⟨hsz, hP, hK, hD0, hTB⟩, hTX⟩ := hv
  have hx := B.exec
  have hb := B.bytes
  have hr := B.returns
  have hts := atoms_spec (ws := Cond.codeWith yL_share cL_share 4 (some .int) [(0, 9, 12, 21)] :: TT) B.pre
  have htT : ∀ w ∈ TT, w.before _ s = true := fun w h => hts w (List.mem_cons_of_mem _ h)
  have hown : s.vm.findClass RL = some m.cls := findClass_of_methodNamed B.named
  have hlocks := B.notSynchronized
  subst hsz
  have hD := hD0.self (sz := s.heap.size)
  generalize hAe : va_A (PW cA S ++ [oJ cA qo fo]) s.heap.size = A at hD hTX ⊢
  have hA : ∀ q : Nat, s.heap.size ≤ q → A q := fun q h => by rw [← hAe]; exact Or.inr h
  have hS : va_S A s.heap s.heap [] := va_S.rf
  have hl := lv_entry ([.ref x, .int p0, .ref qo]) (n := 4) (Nat.le_of_ble_eq_true rfl)
  rw [lg_entry_eq]
  generalize (lg_sl ([.ref x, .int p0, .ref qo]) ++ List.replicate (4 - (lg_sl ([.ref x, .int p0, .ref qo])).length) Slot.unset).toArray = ls at hl ⊢
  have hl : lv_has ls 4 [(0, .ref x), (1, .int p0), (2, .ref qo)] := hl
  refine lv_aload_n hx hb dL_share_0 rfl (lv_at hl 2 rfl) ?_
  refine lv_iconst (v := 0) hx hb dL_share_1 (by decide) ?_
  refine lv_aload_n hx hb dL_share_2 rfl (lv_at hl 0 rfl) ?_
  refine lv_iload_n hx hb dL_share_3 rfl (lv_at hl 1 rfl) ?_
  refine kj_t (List.Perm.refl _) (vx_runV (As := [.int p0]) (rest := [.int 0, .ref qo]) ⟨hx, hb, hml, hown, htT⟩ (c_share_t l hst D cA _ S x ho ar hq0 har p0 hsw) (cwV 1 htT (kg_V m_ml_L_55 m_im_X5_share m_sl_X5_share m_in_X5 m_cd_X5_share) rfl rfl rfl (by decide +kernel) ⟨Nat.le_of_ble_eq_true rfl, Nat.le_of_ble_eq_true rfl⟩) (kj_VX (List.Perm.refl _) hK hP hD hTB hTX hS hA (kj_rc (List.Perm.refl _) hK hP ho (Nat.le_of_ble_eq_true rfl) rfl)) rfl rfl hl.1 rfl (lv_room (Nat.le_of_ble_eq_true rfl)) dL_share_4 ⟨Nat.le_of_ble_eq_true rfl, Nat.le_of_ble_eq_true rfl⟩) hP hD hS hA (fun ce q9 H locs hP hD hS hce hcv hcl => ?_)
  refine vx_catch hown [] ⟨0, 9, 12, 21⟩ [] (hTab.trans rfl) (fun z hz => nomatch hz) rfl (by decide) (htT _ m_cl_L_21) (hTB.use (n_ca _ (by decide))) hce hcv hcl ?_
  refine lv_astore_n (lv' := [(3, .ref q9), (0, .ref x), (1, .int p0), (2, .ref qo)]) hx hb dL_share_12 rfl hl (by decide) rfl (fun ls hl => ?_)
  refine lv_iconst (v := 1) hx hb dL_share_13 (by decide) ?_
  exact W.iret (v := 1) hx hb hr (fun t ht hW => ⟨⟨1, (S, fo), rfl, ⟨rfl, rfl, rfl⟩, by rw [ht]; exact hP, va_K.moved hW.alike hK, hD⟩, hS.F ht⟩) hS.2.2 dL_share_14

set_option maxRecDepth 100000 in
set_option maxHeartbeats 4000000 in
theorem w_gets_t (l : Launch) (hst : l.stackTraces = false) (D : va_G) (cA : Nat → ClassId) (sz : Nat) (S : Pool) (x qo : Nat) (fo : Nat → Int64) (ho : isO S x 5) (ar : Nat) (hq0 : gQ S x 0 = some ar) (har : isA S ar 22 8) (p0 p1 p2 p3 : Int32) (hsw : kSw S ar p0 = none) : Met l yL_gets (Cond.codeWith yL_gets cL_gets 7 (some .int) [(0, 14, 17, 21), (0, 14, 21, 13)] :: TT) ({ frames := 8, cells := 1, slots := 6, locals := 129 }) (va_Pc [.ref x, .int p0, .int p1, .int p2, .int p3, .ref qo] (kPreX D cA (PW cA S ++ [oJ cA qo fo]) sz)) (va_Qi (fun (r_ : Int32) (x_ : Pool × (Nat → Int64)) => r_ = 1 ∧ x_.1 = S ∧ x_.2 = fo) (fun x_ => kB D cA (va_A (PW cA S ++ [oJ cA qo fo]) sz) (PW cA x_.1 ++ [oJ cA qo x_.2])) (va_A (PW cA S ++ [oJ cA qo fo]) sz)) 1 6 (va_A (PW cA S ++ [oJ cA qo fo]) sz) := by
  refine kt_ofWH (cc := cL_gets) (maxL := 7) (ret := (some .int)) (by decide) rfl ?_
  intro p e s m args below meth c s₁ B hml hTab hv
  obtain ⟨rfl, ⟨hsz, hP, hK, hD0, hTB⟩, hTX⟩ := hv
  have hx := B.exec
  have hb := B.bytes
  have hr := B.returns
  have hts := atoms_spec (ws := Cond.codeWith yL_gets cL_gets 7 (some .int) [(0, 14, 17, 21), (0, 14, 21, 13)] :: TT) B.pre
  have htT : ∀ w ∈ TT, w.before _ s = true := fun w h => hts w (List.mem_cons_of_mem _ h)
  have hown : s.vm.findClass RL = some m.cls := findClass_of_methodNamed B.named
  have hlocks := B.notSynchronized
  subst hsz
  have hD := hD0.self (sz := s.heap.size)
  generalize hAe : va_A (PW cA S ++ [oJ cA qo fo]) s.heap.size = A at hD hTX ⊢
  have hA : ∀ q : Nat, s.heap.size ≤ q → A q := fun q h => by rw [← hAe]; exact Or.inr h
  have hS : va_S A s.heap s.heap [] := va_S.rf
  have hl := lv_entry ([.ref x, .int p0, .int p1, .int p2, .int p3, .ref qo]) (n := 7) (Nat.le_of_ble_eq_true rfl)
  rw [lg_entry_eq]
  generalize (lg_sl ([.ref x, .int p0, .int p1, .int p2, .int p3, .ref qo]) ++ List.replicate (7 - (lg_sl ([.ref x, .int p0, .int p1, .int p2, .int p3, .ref qo])).length) Slot.unset).toArray = ls at hl ⊢
  have hl : lv_has ls 7 [(0, .ref x), (1, .int p0), (2, .int p1), (3, .int p2), (4, .int p3), (5, .ref qo)] := hl
  refine lv_aload hx hb dL_gets_0 (lv_at hl 5 rfl) ?_
  refine lv_iconst (v := 0) hx hb dL_gets_2 (by decide) ?_
  refine lv_aload_n hx hb dL_gets_3 rfl (lv_at hl 0 rfl) ?_
  refine lv_iload_n hx hb dL_gets_4 rfl (lv_at hl 1 rfl) ?_
  refine lv_iload_n hx hb dL_gets_5 rfl (lv_at hl 2 rfl) ?_
  refine lv_iload_n hx hb dL_gets_6 rfl (lv_at hl 3 rfl) ?_
  refine lv_iload hx hb dL_gets_7 (lv_at hl 4 rfl) ?_
  refine kj_t (List.Perm.refl _) (vx_runV (As := [.int p0, .int p1, .int p2, .int p3]) (rest := [.int 0, .ref qo]) ⟨hx, hb, hml, hown, htT⟩ (c_gets_t l hst D cA _ S x ho ar hq0 har p0 p1 p2 p3 hsw) (cwV 4 htT (kg_V m_ml_L_64 m_im_X5_gets m_sl_X5_gets m_in_X5 m_cd_X5_gets) rfl rfl rfl (by decide +kernel) ⟨Nat.le_of_ble_eq_true rfl, Nat.le_of_ble_eq_true rfl⟩) (kj_VX (List.Perm.refl _) hK hP hD hTB hTX hS hA (kj_rc (List.Perm.refl _) hK hP ho (Nat.le_of_ble_eq_true rfl) rfl)) rfl rfl hl.1 rfl (lv_room (Nat.le_of_ble_eq_true rfl)) dL_gets_9 ⟨Nat.le_of_ble_eq_true rfl, Nat.le_of_ble_eq_true rfl⟩) hP hD hS hA (fun ce q9 H locs hP hD hS hce hcv hcl => ?_)
  refine vx_catch hown [] ⟨0, 14, 17, 21⟩ [⟨0, 14, 21, 13⟩] (hTab.trans rfl) (fun z hz => nomatch hz) rfl (by decide) (htT _ m_cl_L_21) (hTB.use (n_ca _ (by decide))) hce hcv hcl ?_
  refine lv_astore (lv' := [(6, .ref q9), (0, .ref x), (1, .int p0), (2, .int p1), (3, .int p2), (4, .int p3), (5, .ref qo)]) hx hb dL_gets_17 hl (by decide) rfl (fun ls hl => ?_)
  refine lv_iconst (v := 1) hx hb dL_gets_19 (by decide) ?_
  exact W.iret (v := 1) hx hb hr (fun t ht hW => ⟨⟨1, (S, fo), rfl, ⟨rfl, rfl, rfl⟩, by rw [ht]; exact hP, va_K.moved hW.alike hK, hD⟩, hS.F ht⟩) hS.2.2 dL_gets_20

set_option maxRecDepth 100000 in
set_option maxHeartbeats 4000000 in
theorem w_why_t (l : Launch) (hst : l.stackTraces = false) (D : va_G) (cA : Nat → ClassId) (sz : Nat) (S : Pool) (x qo : Nat) (fo : Nat → Int64) (ho : isO S x 5) (ar : Nat) (hq0 : gQ S x 0 = some ar) (har : isA S ar 22 8) (p0 p1 p2 p3 : Int32) (hsw : kSw S ar p0 = none) : Met l yL_why (Cond.codeWith yL_why cL_why 7 (some .int) [(0, 14, 17, 21), (0, 14, 21, 13)] :: TT) ({ frames := 8, cells := 1, slots := 6, locals := 129 }) (va_Pc [.ref x, .int p0, .int p1, .int p2, .int p3, .ref qo] (kPreX D cA (PW cA S ++ [oJ cA qo fo]) sz)) (va_Qi (fun (r_ : Int32) (x_ : Pool × (Nat → Int64)) => r_ = 1 ∧ x_.1 = S ∧ x_.2 = fo) (fun x_ => kB D cA (va_A (PW cA S ++ [oJ cA qo fo]) sz) (PW cA x_.1 ++ [oJ cA qo x_.2])) (va_A (PW cA S ++ [oJ cA qo fo]) sz)) 1 6 (va_A (PW cA S ++ [oJ cA qo fo]) sz) := by
  refine kt_ofWH (cc := cL_why) (maxL := 7) (ret := (some .int)) (by decide) rfl ?_
  intro p e s m args below meth c s₁ B hml hTab hv
  obtain ⟨rfl, ⟨hsz, hP, hK, hD0, hTB⟩, hTX⟩ := hv
  have hx := B.exec
  have hb := B.bytes
  have hr := B.returns
  have hts := atoms_spec (ws := Cond.codeWith yL_why cL_why 7 (some .int) [(0, 14, 17, 21), (0, 14, 21, 13)] :: TT) B.pre
  have htT : ∀ w ∈ TT, w.before _ s = true := fun w h => hts w (List.mem_cons_of_mem _ h)
  have hown : s.vm.findClass RL = some m.cls := findClass_of_methodNamed B.named
  have hlocks := B.notSynchronized
  subst hsz
  have hD := hD0.self (sz := s.heap.size)
  generalize hAe : va_A (PW cA S ++ [oJ cA qo fo]) s.heap.size = A at hD hTX ⊢
  have hA : ∀ q : Nat, s.heap.size ≤ q → A q := fun q h => by rw [← hAe]; exact Or.inr h
  have hS : va_S A s.heap s.heap [] := va_S.rf
  have hl := lv_entry ([.ref x, .int p0, .int p1, .int p2, .int p3, .ref qo]) (n := 7) (Nat.le_of_ble_eq_true rfl)
  rw [lg_entry_eq]
  generalize (lg_sl ([.ref x, .int p0, .int p1, .int p2, .int p3, .ref qo]) ++ List.replicate (7 - (lg_sl ([.ref x, .int p0, .int p1, .int p2, .int p3, .ref qo])).length) Slot.unset).toArray = ls at hl ⊢
  have hl : lv_has ls 7 [(0, .ref x), (1, .int p0), (2, .int p1), (3, .int p2), (4, .int p3), (5, .ref qo)] := hl
  refine lv_aload hx hb dL_why_0 (lv_at hl 5 rfl) ?_
  refine lv_iconst (v := 0) hx hb dL_why_2 (by decide) ?_
  refine lv_aload_n hx hb dL_why_3 rfl (lv_at hl 0 rfl) ?_
  refine lv_iload_n hx hb dL_why_4 rfl (lv_at hl 1 rfl) ?_
  refine lv_iload_n hx hb dL_why_5 rfl (lv_at hl 2 rfl) ?_
  refine lv_iload_n hx hb dL_why_6 rfl (lv_at hl 3 rfl) ?_
  refine lv_iload hx hb dL_why_7 (lv_at hl 4 rfl) ?_
  refine kj_t (List.Perm.refl _) (vx_runV (As := [.int p0, .int p1, .int p2, .int p3]) (rest := [.int 0, .ref qo]) ⟨hx, hb, hml, hown, htT⟩ (c_why_t l hst D cA _ S x ho ar hq0 har p0 p1 p2 p3 hsw) (cwV 4 htT (kg_V m_ml_L_67 m_im_X5_why m_sl_X5_why m_in_X5 m_cd_X5_why) rfl rfl rfl (by decide +kernel) ⟨Nat.le_of_ble_eq_true rfl, Nat.le_of_ble_eq_true rfl⟩) (kj_VX (List.Perm.refl _) hK hP hD hTB hTX hS hA (kj_rc (List.Perm.refl _) hK hP ho (Nat.le_of_ble_eq_true rfl) rfl)) rfl rfl hl.1 rfl (lv_room (Nat.le_of_ble_eq_true rfl)) dL_why_9 ⟨Nat.le_of_ble_eq_true rfl, Nat.le_of_ble_eq_true rfl⟩) hP hD hS hA (fun ce q9 H locs hP hD hS hce hcv hcl => ?_)
  refine vx_catch hown [] ⟨0, 14, 17, 21⟩ [⟨0, 14, 21, 13⟩] (hTab.trans rfl) (fun z hz => nomatch hz) rfl (by decide) (htT _ m_cl_L_21) (hTB.use (n_ca _ (by decide))) hce hcv hcl ?_
  refine lv_astore (lv' := [(6, .ref q9), (0, .ref x), (1, .int p0), (2, .int p1), (3, .int p2), (4, .int p3), (5, .ref qo)]) hx hb dL_why_17 hl (by decide) rfl (fun ls hl => ?_)
  refine lv_iconst (v := 1) hx hb dL_why_19 (by decide) ?_
  exact W.iret (v := 1) hx hb hr (fun t ht hW => ⟨⟨1, (S, fo), rfl, ⟨rfl, rfl, rfl⟩, by rw [ht]; exact hP, va_K.moved hW.alike hK, hD⟩, hS.F ht⟩) hS.2.2 dL_why_20

set_option maxRecDepth 100000 in
set_option maxHeartbeats 4000000 in
theorem w_holds_t (l : Launch) (hst : l.stackTraces = false) (D : va_G) (cA : Nat → ClassId) (sz : Nat) (S : Pool) (x qo : Nat) (fo : Nat → Int64) (ho : isO S x 5) (ar : Nat) (hq0 : gQ S x 0 = some ar) (har : isA S ar 22 8) (p0 p1 p2 p3 : Int32) (hsw : kSw S ar p0 = none) : Met l yL_holds (Cond.codeWith yL_holds cL_holds 7 (some .int) [(0, 14, 17, 21), (0, 14, 21, 13)] :: TT) ({ frames := 8, cells := 1, slots := 6, locals := 129 }) (va_Pc [.ref x, .int p0, .int p1, .int p2, .int p3, .ref qo] (kPreX D cA (PW cA S ++ [oJ cA qo fo]) sz)) (va_Qi (fun (r_ : Int32) (x_ : Pool × (Nat → Int64)) => r_ = 1 ∧ x_.1 = S ∧ x_.2 = fo) (fun x_ => kB D cA (va_A (PW cA S ++ [oJ cA qo fo]) sz) (PW cA x_.1 ++ [oJ cA qo x_.2])) (va_A (PW cA S ++ [oJ cA qo fo]) sz)) 1 6 (va_A (PW cA S ++ [oJ cA qo fo]) sz) := by
  refine kt_ofWH (cc := cL_holds) (maxL := 7) (ret := (some .int)) (by decide) rfl ?_
  intro p e s m args below meth c s₁ B hml hTab hv
  obtain ⟨rfl, ⟨hsz, hP, hK, hD0, hTB⟩, hTX⟩ := hv
  have hx := B.exec
  have hb := B.bytes
  have hr := B.returns
  have hts := atoms_spec (ws := Cond.codeWith yL_holds cL_holds 7 (some .int) [(0, 14, 17, 21), (0, 14, 21, 13)] :: TT) B.pre
  have htT : ∀ w ∈ TT, w.before _ s = true := fun w h => hts w (List.mem_cons_of_mem _ h)
  have hown : s.vm.findClass RL = some m.cls := findClass_of_methodNamed B.named
  have hlocks := B.notSynchronized
  subst hsz
  have hD := hD0.self (sz := s.heap.size)
  generalize hAe : va_A (PW cA S ++ [oJ cA qo fo]) s.heap.size = A at hD hTX ⊢
  have hA : ∀ q : Nat, s.heap.size ≤ q → A q := fun q h => by rw [← hAe]; exact Or.inr h
  have hS : va_S A s.heap s.heap [] := va_S.rf
  have hl := lv_entry ([.ref x, .int p0, .int p1, .int p2, .int p3, .ref qo]) (n := 7) (Nat.le_of_ble_eq_true rfl)
  rw [lg_entry_eq]
  generalize (lg_sl ([.ref x, .int p0, .int p1, .int p2, .int p3, .ref qo]) ++ List.replicate (7 - (lg_sl ([.ref x, .int p0, .int p1, .int p2, .int p3, .ref qo])).length) Slot.unset).toArray = ls at hl ⊢
  have hl : lv_has ls 7 [(0, .ref x), (1, .int p0), (2, .int p1), (3, .int p2), (4, .int p3), (5, .ref qo)] := hl
  refine lv_aload hx hb dL_holds_0 (lv_at hl 5 rfl) ?_
  refine lv_iconst (v := 0) hx hb dL_holds_2 (by decide) ?_
  refine lv_aload_n hx hb dL_holds_3 rfl (lv_at hl 0 rfl) ?_
  refine lv_iload_n hx hb dL_holds_4 rfl (lv_at hl 1 rfl) ?_
  refine lv_iload_n hx hb dL_holds_5 rfl (lv_at hl 2 rfl) ?_
  refine lv_iload_n hx hb dL_holds_6 rfl (lv_at hl 3 rfl) ?_
  refine lv_iload hx hb dL_holds_7 (lv_at hl 4 rfl) ?_
  refine kj_t (List.Perm.refl _) (vx_runV (As := [.int p0, .int p1, .int p2, .int p3]) (rest := [.int 0, .ref qo]) ⟨hx, hb, hml, hown, htT⟩ (c_holds_t l hst D cA _ S x ho ar hq0 har p0 p1 p2 p3 hsw) (cwV 4 htT (kg_V m_ml_L_70 m_im_X5_holds m_sl_X5_holds m_in_X5 m_cd_X5_holds) rfl rfl rfl (by decide +kernel) ⟨Nat.le_of_ble_eq_true rfl, Nat.le_of_ble_eq_true rfl⟩) (kj_VX (List.Perm.refl _) hK hP hD hTB hTX hS hA (kj_rc (List.Perm.refl _) hK hP ho (Nat.le_of_ble_eq_true rfl) rfl)) rfl rfl hl.1 rfl (lv_room (Nat.le_of_ble_eq_true rfl)) dL_holds_9 ⟨Nat.le_of_ble_eq_true rfl, Nat.le_of_ble_eq_true rfl⟩) hP hD hS hA (fun ce q9 H locs hP hD hS hce hcv hcl => ?_)
  refine vx_catch hown [] ⟨0, 14, 17, 21⟩ [⟨0, 14, 21, 13⟩] (hTab.trans rfl) (fun z hz => nomatch hz) rfl (by decide) (htT _ m_cl_L_21) (hTB.use (n_ca _ (by decide))) hce hcv hcl ?_
  refine lv_astore (lv' := [(6, .ref q9), (0, .ref x), (1, .int p0), (2, .int p1), (3, .int p2), (4, .int p3), (5, .ref qo)]) hx hb dL_holds_17 hl (by decide) rfl (fun ls hl => ?_)
  refine lv_iconst (v := 1) hx hb dL_holds_19 (by decide) ?_
  exact W.iret (v := 1) hx hb hr (fun t ht hW => ⟨⟨1, (S, fo), rfl, ⟨rfl, rfl, rfl⟩, by rw [ht]; exact hP, va_K.moved hW.alike hK, hD⟩, hS.F ht⟩) hS.2.2 dL_holds_20

set_option maxRecDepth 100000 in
set_option maxHeartbeats 4000000 in
theorem w_ask_t (l : Launch) (hst : l.stackTraces = false) (D : va_G) (cA : Nat → ClassId) (sz : Nat) (S : Pool) (x qo : Nat) (fo : Nat → Int64) (ho : isO S x 5) (ar : Nat) (hq0 : gQ S x 0 = some ar) (har : isA S ar 22 8) (p0 p1 p2 p3 : Int32) (hsw : kSw S ar p0 = none) : Met l yL_ask (Cond.codeWith yL_ask cL_ask 7 (some .int) [(0, 14, 17, 21), (0, 14, 21, 13)] :: TT) ({ frames := 8, cells := 1, slots := 6, locals := 131 }) (va_Pc [.ref x, .int p0, .int p1, .int p2, .int p3, .ref qo] (kPreX D cA (PW cA S ++ [oJ cA qo fo]) sz)) (va_Qi (fun (r_ : Int32) (x_ : Pool × (Nat → Int64)) => r_ = 1 ∧ x_.1 = S ∧ x_.2 = fo) (fun x_ => kB D cA (va_A (PW cA S ++ [oJ cA qo fo]) sz) (PW cA x_.1 ++ [oJ cA qo x_.2])) (va_A (PW cA S ++ [oJ cA qo fo]) sz)) 1 6 (va_A (PW cA S ++ [oJ cA qo fo]) sz) := by
  refine kt_ofWH (cc := cL_ask) (maxL := 7) (ret := (some .int)) (by decide) rfl ?_
  intro p e s m args below meth c s₁ B hml hTab hv
  obtain ⟨rfl, ⟨hsz, hP, hK, hD0, hTB⟩, hTX⟩ := hv
  have hx := B.exec
  have hb := B.bytes
  have hr := B.returns
  have hts := atoms_spec (ws := Cond.codeWith yL_ask cL_ask 7 (some .int) [(0, 14, 17, 21), (0, 14, 21, 13)] :: TT) B.pre
  have htT : ∀ w ∈ TT, w.before _ s = true := fun w h => hts w (List.mem_cons_of_mem _ h)
  have hown : s.vm.findClass RL = some m.cls := findClass_of_methodNamed B.named
  have hlocks := B.notSynchronized
  subst hsz
  have hD := hD0.self (sz := s.heap.size)
  generalize hAe : va_A (PW cA S ++ [oJ cA qo fo]) s.heap.size = A at hD hTX ⊢
  have hA : ∀ q : Nat, s.heap.size ≤ q → A q := fun q h => by rw [← hAe]; exact Or.inr h
  have hS : va_S A s.heap s.heap [] := va_S.rf
  have hl := lv_entry ([.ref x, .int p0, .int p1, .int p2, .int p3, .ref qo]) (n := 7) (Nat.le_of_ble_eq_true rfl)
  rw [lg_entry_eq]
  generalize (lg_sl ([.ref x, .int p0, .int p1, .int p2, .int p3, .ref qo]) ++ List.replicate (7 - (lg_sl ([.ref x, .int p0, .int p1, .int p2, .int p3, .ref qo])).length) Slot.unset).toArray = ls at hl ⊢
  have hl : lv_has ls 7 [(0, .ref x), (1, .int p0), (2, .int p1), (3, .int p2), (4, .int p3), (5, .ref qo)] := hl
  refine lv_aload hx hb dL_ask_0 (lv_at hl 5 rfl) ?_
  refine lv_iconst (v := 0) hx hb dL_ask_2 (by decide) ?_
  refine lv_aload_n hx hb dL_ask_3 rfl (lv_at hl 0 rfl) ?_
  refine lv_iload_n hx hb dL_ask_4 rfl (lv_at hl 1 rfl) ?_
  refine lv_iload_n hx hb dL_ask_5 rfl (lv_at hl 2 rfl) ?_
  refine lv_iload_n hx hb dL_ask_6 rfl (lv_at hl 3 rfl) ?_
  refine lv_iload hx hb dL_ask_7 (lv_at hl 4 rfl) ?_
  refine kj_t (List.Perm.refl _) (vx_runV (As := [.int p0, .int p1, .int p2, .int p3]) (rest := [.int 0, .ref qo]) ⟨hx, hb, hml, hown, htT⟩ (c_ask_t l hst D cA _ S x ho ar hq0 har p0 p1 p2 p3 hsw) (cwV 4 htT (kg_V m_ml_L_73 m_im_X5_ask m_sl_X5_ask m_in_X5 m_cd_X5_ask) rfl rfl rfl (by decide +kernel) ⟨Nat.le_of_ble_eq_true rfl, Nat.le_of_ble_eq_true rfl⟩) (kj_VX (List.Perm.refl _) hK hP hD hTB hTX hS hA (kj_rc (List.Perm.refl _) hK hP ho (Nat.le_of_ble_eq_true rfl) rfl)) rfl rfl hl.1 rfl (lv_room (Nat.le_of_ble_eq_true rfl)) dL_ask_9 ⟨Nat.le_of_ble_eq_true rfl, Nat.le_of_ble_eq_true rfl⟩) hP hD hS hA (fun ce q9 H locs hP hD hS hce hcv hcl => ?_)
  refine vx_catch hown [] ⟨0, 14, 17, 21⟩ [⟨0, 14, 21, 13⟩] (hTab.trans rfl) (fun z hz => nomatch hz) rfl (by decide) (htT _ m_cl_L_21) (hTB.use (n_ca _ (by decide))) hce hcv hcl ?_
  refine lv_astore (lv' := [(6, .ref q9), (0, .ref x), (1, .int p0), (2, .int p1), (3, .int p2), (4, .int p3), (5, .ref qo)]) hx hb dL_ask_17 hl (by decide) rfl (fun ls hl => ?_)
  refine lv_iconst (v := 1) hx hb dL_ask_19 (by decide) ?_
  exact W.iret (v := 1) hx hb hr (fun t ht hW => ⟨⟨1, (S, fo), rfl, ⟨rfl, rfl, rfl⟩, by rw [ht]; exact hP, va_K.moved hW.alike hK, hD⟩, hS.F ht⟩) hS.2.2 dL_ask_20

set_option maxRecDepth 100000 in
set_option maxHeartbeats 4000000 in
theorem w_arm_t (l : Launch) (hst : l.stackTraces = false) (D : va_G) (cA : Nat → ClassId) (sz : Nat) (S : Pool) (x qo : Nat) (fo : Nat → Int64) (ho : isO S x 5) (ar : Nat) (hq0 : gQ S x 0 = some ar) (har : isA S ar 22 8) (p0 p1 : Int32) (hsw : kSw S ar p0 = none) : Met l yL_arm (Cond.codeWith yL_arm cL_arm 5 (some .int) [(0, 10, 13, 21), (0, 10, 17, 13)] :: TT) ({ frames := 8, cells := 1, slots := 6, locals := 128 }) (va_Pc [.ref x, .int p0, .int p1, .ref qo] (kPreX D cA (PW cA S ++ [oJ cA qo fo]) sz)) (va_Qi (fun (r_ : Int32) (x_ : Pool × (Nat → Int64)) => r_ = 1 ∧ x_.1 = S ∧ x_.2 = fo) (fun x_ => kB D cA (va_A (PW cA S ++ [oJ cA qo fo]) sz) (PW cA x_.1 ++ [oJ cA qo x_.2])) (va_A (PW cA S ++ [oJ cA qo fo]) sz)) 1 6 (va_A (PW cA S ++ [oJ cA qo fo]) sz) := by
  refine kt_ofWH (cc := cL_arm) (maxL := 5) (ret := (some .int)) (by decide) rfl ?_
  intro p e s m args below meth c s₁ B hml hTab hv
  obtain ⟨rfl, ⟨hsz, hP, hK, hD0, hTB⟩, hTX⟩ := hv
  have hx := B.exec
  have hb := B.bytes
  have hr := B.returns
  have hts := atoms_spec (ws := Cond.codeWith yL_arm cL_arm 5 (some .int) [(0, 10, 13, 21), (0, 10, 17, 13)] :: TT) B.pre
  have htT : ∀ w ∈ TT, w.before _ s = true := fun w h => hts w (List.mem_cons_of_mem _ h)
  have hown : s.vm.findClass RL = some m.cls := findClass_of_methodNamed B.named
  have hlocks := B.notSynchronized
  subst hsz
  have hD := hD0.self (sz := s.heap.size)
  generalize hAe : va_A (PW cA S ++ [oJ cA qo fo]) s.heap.size = A at hD hTX ⊢
  have hA : ∀ q : Nat, s.heap.size ≤ q → A q := fun q h => by rw [← hAe]; exact Or.inr h
  have hS : va_S A s.heap s.heap [] := va_S.rf
  have hl := lv_entry ([.ref x, .int p0, .int p1, .ref qo]) (n := 5) (Nat.le_of_ble_eq_true rfl)
  rw [lg_entry_eq]
  generalize (lg_sl ([.ref x, .int p0, .int p1, .ref qo]) ++ List.replicate (5 - (lg_sl ([.ref x, .int p0, .int p1, .ref qo])).length) Slot.unset).toArray = ls at hl ⊢
  have hl : lv_has ls 5 [(0, .ref x), (1, .int p0), (2, .int p1), (3, .ref qo)] := hl
  refine lv_aload_n hx hb dL_arm_0 rfl (lv_at hl 3 rfl) ?_
  refine lv_iconst (v := 0) hx hb dL_arm_1 (by decide) ?_
  refine lv_aload_n hx hb dL_arm_2 rfl (lv_at hl 0 rfl) ?_
  refine lv_iload_n hx hb dL_arm_3 rfl (lv_at hl 1 rfl) ?_
  refine lv_iload_n hx hb dL_arm_4 rfl (lv_at hl 2 rfl) ?_
  refine kj_t (List.Perm.refl _) (vx_runV (As := [.int p0, .int p1]) (rest := [.int 0, .ref qo]) ⟨hx, hb, hml, hown, htT⟩ (c_arm_t l hst D cA _ S x ho ar hq0 har p0 p1 hsw) (cwV 2 htT (kg_V m_ml_L_79 m_im_X5_arm m_sl_X5_arm m_in_X5 m_cd_X5_arm) rfl rfl rfl (by decide +kernel) ⟨Nat.le_of_ble_eq_true rfl, Nat.le_of_ble_eq_true rfl⟩) (kj_VX (List.Perm.refl _) hK hP hD hTB hTX hS hA (kj_rc (List.Perm.refl _) hK hP ho (Nat.le_of_ble_eq_true rfl) rfl)) rfl rfl hl.1 rfl (lv_room (Nat.le_of_ble_eq_true rfl)) dL_arm_5 ⟨Nat.le_of_ble_eq_true rfl, Nat.le_of_ble_eq_true rfl⟩) hP hD hS hA (fun ce q9 H locs hP hD hS hce hcv hcl => ?_)
  refine vx_catch hown [] ⟨0, 10, 13, 21⟩ [⟨0, 10, 17, 13⟩] (hTab.trans rfl) (fun z hz => nomatch hz) rfl (by decide) (htT _ m_cl_L_21) (hTB.use (n_ca _ (by decide))) hce hcv hcl ?_
  refine lv_astore (lv' := [(4, .ref q9), (0, .ref x), (1, .int p0), (2, .int p1), (3, .ref qo)]) hx hb dL_arm_13 hl (by decide) rfl (fun ls hl => ?_)
  refine lv_iconst (v := 1) hx hb dL_arm_15 (by decide) ?_
  exact W.iret (v := 1) hx hb hr (fun t ht hW => ⟨⟨1, (S, fo), rfl, ⟨rfl, rfl, rfl⟩, by rw [ht]; exact hP, va_K.moved hW.alike hK, hD⟩, hS.F ht⟩) hS.2.2 dL_arm_16

set_option maxRecDepth 100000 in
set_option maxHeartbeats 4000000 in
theorem w_told_t (l : Launch) (hst : l.stackTraces = false) (D : va_G) (cA : Nat → ClassId) (sz : Nat) (S : Pool) (x qo : Nat) (fo : Nat → Int64) (ho : isO S x 5) (ar : Nat) (hq0 : gQ S x 0 = some ar) (har : isA S ar 22 8) (p0 p1 p2 : Int32) (hsw : kSw S ar p0 = none) : Met l yL_told (Cond.codeWith yL_told cL_told 6 (some .int) [(0, 12, 15, 21), (0, 12, 19, 13)] :: TT) ({ frames := 8, cells := 1, slots := 6, locals := 128 }) (va_Pc [.ref x, .int p0, .int p1, .int p2, .ref qo] (kPreX D cA (PW cA S ++ [oJ cA qo fo]) sz)) (va_Qi (fun (r_ : Int32) (x_ : Pool × (Nat → Int64)) => r_ = 1 ∧ x_.1 = S ∧ x_.2 = fo) (fun x_ => kB D cA (va_A (PW cA S ++ [oJ cA qo fo]) sz) (PW cA x_.1 ++ [oJ cA qo x_.2])) (va_A (PW cA S ++ [oJ cA qo fo]) sz)) 1 6 (va_A (PW cA S ++ [oJ cA qo fo]) sz) := by
  refine kt_ofWH (cc := cL_told) (maxL := 6) (ret := (some .int)) (by decide) rfl ?_
  intro p e s m args below meth c s₁ B hml hTab hv
  obtain ⟨rfl, ⟨hsz, hP, hK, hD0, hTB⟩, hTX⟩ := hv
  have hx := B.exec
  have hb := B.bytes
  have hr := B.returns
  have hts := atoms_spec (ws := Cond.codeWith yL_told cL_told 6 (some .int) [(0, 12, 15, 21), (0, 12, 19, 13)] :: TT) B.pre
  have htT : ∀ w ∈ TT, w.before _ s = true := fun w h => hts w (List.mem_cons_of_mem _ h)
  have hown : s.vm.findClass RL = some m.cls := findClass_of_methodNamed B.named
  have hlocks := B.notSynchronized
  subst hsz
  have hD := hD0.self (sz := s.heap.size)
  generalize hAe : va_A (PW cA S ++ [oJ cA qo fo]) s.heap.size = A at hD hTX ⊢
  have hA : ∀ q : Nat, s.heap.size ≤ q → A q := fun q h => by rw [← hAe]; exact Or.inr h
  have hS : va_S A s.heap s.heap [] := va_S.rf
  have hl := lv_entry ([.ref x, .int p0, .int p1, .int p2, .ref qo]) (n := 6) (Nat.le_of_ble_eq_true rfl)
  rw [lg_entry_eq]
  generalize (lg_sl ([.ref x, .int p0, .int p1, .int p2, .ref qo]) ++ List.replicate (6 - (lg_sl ([.ref x, .int p0, .int p1, .int p2, .ref qo])).length) Slot.unset).toArray = ls at hl ⊢
  have hl : lv_has ls 6 [(0, .ref x), (1, .int p0), (2, .int p1), (3, .int p2), (4, .ref qo)] := hl
  refine lv_aload hx hb dL_told_0 (lv_at hl 4 rfl) ?_
  refine lv_iconst (v := 0) hx hb dL_told_2 (by decide) ?_
  refine lv_aload_n hx hb dL_told_3 rfl (lv_at hl 0 rfl) ?_
  refine lv_iload_n hx hb dL_told_4 rfl (lv_at hl 1 rfl) ?_
  refine lv_iload_n hx hb dL_told_5 rfl (lv_at hl 2 rfl) ?_
  refine lv_iload_n hx hb dL_told_6 rfl (lv_at hl 3 rfl) ?_
  refine kj_t (List.Perm.refl _) (vx_runV (As := [.int p0, .int p1, .int p2]) (rest := [.int 0, .ref qo]) ⟨hx, hb, hml, hown, htT⟩ (c_told_t l hst D cA _ S x ho ar hq0 har p0 p1 p2 hsw) (cwV 3 htT (kg_V m_ml_L_82 m_im_X5_told m_sl_X5_told m_in_X5 m_cd_X5_told) rfl rfl rfl (by decide +kernel) ⟨Nat.le_of_ble_eq_true rfl, Nat.le_of_ble_eq_true rfl⟩) (kj_VX (List.Perm.refl _) hK hP hD hTB hTX hS hA (kj_rc (List.Perm.refl _) hK hP ho (Nat.le_of_ble_eq_true rfl) rfl)) rfl rfl hl.1 rfl (lv_room (Nat.le_of_ble_eq_true rfl)) dL_told_7 ⟨Nat.le_of_ble_eq_true rfl, Nat.le_of_ble_eq_true rfl⟩) hP hD hS hA (fun ce q9 H locs hP hD hS hce hcv hcl => ?_)
  refine vx_catch hown [] ⟨0, 12, 15, 21⟩ [⟨0, 12, 19, 13⟩] (hTab.trans rfl) (fun z hz => nomatch hz) rfl (by decide) (htT _ m_cl_L_21) (hTB.use (n_ca _ (by decide))) hce hcv hcl ?_
  refine lv_astore (lv' := [(5, .ref q9), (0, .ref x), (1, .int p0), (2, .int p1), (3, .int p2), (4, .ref qo)]) hx hb dL_told_15 hl (by decide) rfl (fun ls hl => ?_)
  refine lv_iconst (v := 1) hx hb dL_told_17 (by decide) ?_
  exact W.iret (v := 1) hx hb hr (fun t ht hW => ⟨⟨1, (S, fo), rfl, ⟨rfl, rfl, rfl⟩, by rw [ht]; exact hP, va_K.moved hW.alike hK, hD⟩, hS.F ht⟩) hS.2.2 dL_told_18

set_option maxRecDepth 100000 in
set_option maxHeartbeats 4000000 in
theorem w_mean_t (l : Launch) (hst : l.stackTraces = false) (D : va_G) (cA : Nat → ClassId) (sz : Nat) (S : Pool) (x qo : Nat) (fo : Nat → UInt64) (ho : isO S x 5) (ar : Nat) (hq0 : gQ S x 0 = some ar) (har : isA S ar 22 8) (p0 p1 : Int32) (hsw : kSw S ar p0 = none) : Met l yL_mean (Cond.codeWith yL_mean cL_mean 5 (some .int) [(0, 9, 12, 21)] :: TT) ({ frames := 8, cells := 1, slots := 6, locals := 127 }) (va_Pc [.ref x, .int p0, .int p1, .ref qo] (kPreX D cA (PW cA S ++ [oD cA qo fo]) sz)) (va_Qi (fun (r_ : Int32) (x_ : Pool × (Nat → UInt64)) => r_ = 1 ∧ x_.1 = S ∧ x_.2 = fo) (fun x_ => kB D cA (va_A (PW cA S ++ [oD cA qo fo]) sz) (PW cA x_.1 ++ [oD cA qo x_.2])) (va_A (PW cA S ++ [oD cA qo fo]) sz)) 1 6 (va_A (PW cA S ++ [oD cA qo fo]) sz) := by
  refine kt_ofWH (cc := cL_mean) (maxL := 5) (ret := (some .int)) (by decide) rfl ?_
  intro p e s m args below meth c s₁ B hml hTab hv
  obtain ⟨rfl, ⟨hsz, hP, hK, hD0, hTB⟩, hTX⟩ := hv
  have hx := B.exec
  have hb := B.bytes
  have hr := B.returns
  have hts := atoms_spec (ws := Cond.codeWith yL_mean cL_mean 5 (some .int) [(0, 9, 12, 21)] :: TT) B.pre
  have htT : ∀ w ∈ TT, w.before _ s = true := fun w h => hts w (List.mem_cons_of_mem _ h)
  have hown : s.vm.findClass RL = some m.cls := findClass_of_methodNamed B.named
  have hlocks := B.notSynchronized
  subst hsz
  have hD := hD0.self (sz := s.heap.size)
  generalize hAe : va_A (PW cA S ++ [oD cA qo fo]) s.heap.size = A at hD hTX ⊢
  have hA : ∀ q : Nat, s.heap.size ≤ q → A q := fun q h => by rw [← hAe]; exact Or.inr h
  have hS : va_S A s.heap s.heap [] := va_S.rf
  have hl := lv_entry ([.ref x, .int p0, .int p1, .ref qo]) (n := 5) (Nat.le_of_ble_eq_true rfl)
  rw [lg_entry_eq]
  generalize (lg_sl ([.ref x, .int p0, .int p1, .ref qo]) ++ List.replicate (5 - (lg_sl ([.ref x, .int p0, .int p1, .ref qo])).length) Slot.unset).toArray = ls at hl ⊢
  have hl : lv_has ls 5 [(0, .ref x), (1, .int p0), (2, .int p1), (3, .ref qo)] := hl
  refine lv_aload_n hx hb dL_mean_0 rfl (lv_at hl 3 rfl) ?_
  refine lv_iconst (v := 0) hx hb dL_mean_1 (by decide) ?_
  refine lv_aload_n hx hb dL_mean_2 rfl (lv_at hl 0 rfl) ?_
  refine lv_iload_n hx hb dL_mean_3 rfl (lv_at hl 1 rfl) ?_
  refine lv_iload_n hx hb dL_mean_4 rfl (lv_at hl 2 rfl) ?_
  refine kj_t (List.Perm.refl _) (vx_runV (As := [.int p0, .int p1]) (rest := [.int 0, .ref qo]) ⟨hx, hb, hml, hown, htT⟩ (c_mean_t l hst D cA _ S x ho ar hq0 har p0 p1 hsw) (cwV 2 htT (kg_V m_ml_L_85 m_im_X5_mean m_sl_X5_mean m_in_X5 m_cd_X5_mean) rfl rfl rfl (by decide +kernel) ⟨Nat.le_of_ble_eq_true rfl, Nat.le_of_ble_eq_true rfl⟩) (kj_VX (List.Perm.refl _) hK hP hD hTB hTX hS hA (kj_rc (List.Perm.refl _) hK hP ho (Nat.le_of_ble_eq_true rfl) rfl)) rfl rfl hl.1 rfl (lv_room (Nat.le_of_ble_eq_true rfl)) dL_mean_5 ⟨Nat.le_of_ble_eq_true rfl, Nat.le_of_ble_eq_true rfl⟩) hP hD hS hA (fun ce q9 H locs hP hD hS hce hcv hcl => ?_)
  refine vx_catch hown [] ⟨0, 9, 12, 21⟩ [] (hTab.trans rfl) (fun z hz => nomatch hz) rfl (by decide) (htT _ m_cl_L_21) (hTB.use (n_ca _ (by decide))) hce hcv hcl ?_
  refine lv_astore (lv' := [(4, .ref q9), (0, .ref x), (1, .int p0), (2, .int p1), (3, .ref qo)]) hx hb dL_mean_12 hl (by decide) rfl (fun ls hl => ?_)
  refine lv_iconst (v := 1) hx hb dL_mean_14 (by decide) ?_
  exact W.iret (v := 1) hx hb hr (fun t ht hW => ⟨⟨1, (S, fo), rfl, ⟨rfl, rfl, rfl⟩, by rw [ht]; exact hP, va_K.moved hW.alike hK, hD⟩, hS.F ht⟩) hS.2.2 dL_mean_15

set_option maxRecDepth 100000 in
set_option maxHeartbeats 4000000 in
theorem w_lift_t (l : Launch) (hst : l.stackTraces = false) (D : va_G) (cA : Nat → ClassId) (sz : Nat) (S : Pool) (x qo : Nat) (fo : Nat → UInt64) (ho : isO S x 5) (ar : Nat) (hq0 : gQ S x 0 = some ar) (har : isA S ar 22 8) (p0 p1 : Int32) (hsw : kSw S ar p0 = none) : Met l yL_lift (Cond.codeWith yL_lift cL_lift 5 (some .int) [(0, 9, 12, 21)] :: TT) ({ frames := 8, cells := 1, slots := 6, locals := 127 }) (va_Pc [.ref x, .int p0, .int p1, .ref qo] (kPreX D cA (PW cA S ++ [oD cA qo fo]) sz)) (va_Qi (fun (r_ : Int32) (x_ : Pool × (Nat → UInt64)) => r_ = 1 ∧ x_.1 = S ∧ x_.2 = fo) (fun x_ => kB D cA (va_A (PW cA S ++ [oD cA qo fo]) sz) (PW cA x_.1 ++ [oD cA qo x_.2])) (va_A (PW cA S ++ [oD cA qo fo]) sz)) 1 6 (va_A (PW cA S ++ [oD cA qo fo]) sz) := by
  refine kt_ofWH (cc := cL_lift) (maxL := 5) (ret := (some .int)) (by decide) rfl ?_
  intro p e s m args below meth c s₁ B hml hTab hv
  obtain ⟨rfl, ⟨hsz, hP, hK, hD0, hTB⟩, hTX⟩ := hv
  have hx := B.exec
  have hb := B.bytes
  have hr := B.returns
  have hts := atoms_spec (ws := Cond.codeWith yL_lift cL_lift 5 (some .int) [(0, 9, 12, 21)] :: TT) B.pre
  have htT : ∀ w ∈ TT, w.before _ s = true := fun w h => hts w (List.mem_cons_of_mem _ h)
  have hown : s.vm.findClass RL = some m.cls := findClass_of_methodNamed B.named
  have hlocks := B.notSynchronized
  subst hsz
  have hD := hD0.self (sz := s.heap.size)
  generalize hAe : va_A (PW cA S ++ [oD cA qo fo]) s.heap.size = A at hD hTX ⊢
  have hA : ∀ q : Nat, s.heap.size ≤ q → A q := fun q h => by rw [← hAe]; exact Or.inr h
  have hS : va_S A s.heap s.heap [] := va_S.rf
  have hl := lv_entry ([.ref x, .int p0, .int p1, .ref qo]) (n := 5) (Nat.le_of_ble_eq_true rfl)
  rw [lg_entry_eq]
  generalize (lg_sl ([.ref x, .int p0, .int p1, .ref qo]) ++ List.replicate (5 - (lg_sl ([.ref x, .int p0, .int p1, .ref qo])).length) Slot.unset).toArray = ls at hl ⊢
  have hl : lv_has ls 5 [(0, .ref x), (1, .int p0), (2, .int p1), (3, .ref qo)] := hl
  refine lv_aload_n hx hb dL_lift_0 rfl (lv_at hl 3 rfl) ?_
  refine lv_iconst (v := 0) hx hb dL_lift_1 (by decide) ?_
  refine lv_aload_n hx hb dL_lift_2 rfl (lv_at hl 0 rfl) ?_
  refine lv_iload_n hx hb dL_lift_3 rfl (lv_at hl 1 rfl) ?_
  refine lv_iload_n hx hb dL_lift_4 rfl (lv_at hl 2 rfl) ?_
  refine kj_t (List.Perm.refl _) (vx_runV (As := [.int p0, .int p1]) (rest := [.int 0, .ref qo]) ⟨hx, hb, hml, hown, htT⟩ (c_lift_t l hst D cA _ S x ho ar hq0 har p0 p1 hsw) (cwV 2 htT (kg_V m_ml_L_89 m_im_X5_lift m_sl_X5_lift m_in_X5 m_cd_X5_lift) rfl rfl rfl (by decide +kernel) ⟨Nat.le_of_ble_eq_true rfl, Nat.le_of_ble_eq_true rfl⟩) (kj_VX (List.Perm.refl _) hK hP hD hTB hTX hS hA (kj_rc (List.Perm.refl _) hK hP ho (Nat.le_of_ble_eq_true rfl) rfl)) rfl rfl hl.1 rfl (lv_room (Nat.le_of_ble_eq_true rfl)) dL_lift_5 ⟨Nat.le_of_ble_eq_true rfl, Nat.le_of_ble_eq_true rfl⟩) hP hD hS hA (fun ce q9 H locs hP hD hS hce hcv hcl => ?_)
  refine vx_catch hown [] ⟨0, 9, 12, 21⟩ [] (hTab.trans rfl) (fun z hz => nomatch hz) rfl (by decide) (htT _ m_cl_L_21) (hTB.use (n_ca _ (by decide))) hce hcv hcl ?_
  refine lv_astore (lv' := [(4, .ref q9), (0, .ref x), (1, .int p0), (2, .int p1), (3, .ref qo)]) hx hb dL_lift_12 hl (by decide) rfl (fun ls hl => ?_)
  refine lv_iconst (v := 1) hx hb dL_lift_14 (by decide) ?_
  exact W.iret (v := 1) hx hb hr (fun t ht hW => ⟨⟨1, (S, fo), rfl, ⟨rfl, rfl, rfl⟩, by rw [ht]; exact hP, va_K.moved hW.alike hK, hD⟩, hS.F ht⟩) hS.2.2 dL_lift_15

set_option maxRecDepth 100000 in
set_option maxHeartbeats 4000000 in
theorem w_sure_t (l : Launch) (hst : l.stackTraces = false) (D : va_G) (cA : Nat → ClassId) (sz : Nat) (S : Pool) (x qo : Nat) (fo : Nat → UInt64) (ho : isO S x 5) (ar : Nat) (hq0 : gQ S x 0 = some ar) (har : isA S ar 22 8) (p0 p1 : Int32) (hsw : kSw S ar p0 = none) : Met l yL_sure (Cond.codeWith yL_sure cL_sure 5 (some .int) [(0, 9, 12, 21)] :: TT) ({ frames := 8, cells := 1, slots := 6, locals := 127 }) (va_Pc [.ref x, .int p0, .int p1, .ref qo] (kPreX D cA (PW cA S ++ [oD cA qo fo]) sz)) (va_Qi (fun (r_ : Int32) (x_ : Pool × (Nat → UInt64)) => r_ = 1 ∧ x_.1 = S ∧ x_.2 = fo) (fun x_ => kB D cA (va_A (PW cA S ++ [oD cA qo fo]) sz) (PW cA x_.1 ++ [oD cA qo x_.2])) (va_A (PW cA S ++ [oD cA qo fo]) sz)) 1 6 (va_A (PW cA S ++ [oD cA qo fo]) sz) := by
  refine kt_ofWH (cc := cL_sure) (maxL := 5) (ret := (some .int)) (by decide) rfl ?_
  intro p e s m args below meth c s₁ B hml hTab hv
  obtain ⟨rfl, ⟨hsz, hP, hK, hD0, hTB⟩, hTX⟩ := hv
  have hx := B.exec
  have hb := B.bytes
  have hr := B.returns
  have hts := atoms_spec (ws := Cond.codeWith yL_sure cL_sure 5 (some .int) [(0, 9, 12, 21)] :: TT) B.pre
  have htT : ∀ w ∈ TT, w.before _ s = true := fun w h => hts w (List.mem_cons_of_mem _ h)
  have hown : s.vm.findClass RL = some m.cls := findClass_of_methodNamed B.named
  have hlocks := B.notSynchronized
  subst hsz
  have hD := hD0.self (sz := s.heap.size)
  generalize hAe : va_A (PW cA S ++ [oD cA qo fo]) s.heap.size = A at hD hTX ⊢
  have hA : ∀ q : Nat, s.heap.size ≤ q → A q := fun q h => by rw [← hAe]; exact Or.inr h
  have hS : va_S A s.heap s.heap [] := va_S.rf
  have hl := lv_entry ([.ref x, .int p0, .int p1, .ref qo]) (n := 5) (Nat.le_of_ble_eq_true rfl)
  rw [lg_entry_eq]
  generalize (lg_sl ([.ref x, .int p0, .int p1, .ref qo]) ++ List.replicate (5 - (lg_sl ([.ref x, .int p0, .int p1, .ref qo])).length) Slot.unset).toArray = ls at hl ⊢
  have hl : lv_has ls 5 [(0, .ref x), (1, .int p0), (2, .int p1), (3, .ref qo)] := hl
  refine lv_aload_n hx hb dL_sure_0 rfl (lv_at hl 3 rfl) ?_
  refine lv_iconst (v := 0) hx hb dL_sure_1 (by decide) ?_
  refine lv_aload_n hx hb dL_sure_2 rfl (lv_at hl 0 rfl) ?_
  refine lv_iload_n hx hb dL_sure_3 rfl (lv_at hl 1 rfl) ?_
  refine lv_iload_n hx hb dL_sure_4 rfl (lv_at hl 2 rfl) ?_
  refine kj_t (List.Perm.refl _) (vx_runV (As := [.int p0, .int p1]) (rest := [.int 0, .ref qo]) ⟨hx, hb, hml, hown, htT⟩ (c_sure_t l hst D cA _ S x ho ar hq0 har p0 p1 hsw) (cwV 2 htT (kg_V m_ml_L_92 m_im_X5_sure m_sl_X5_sure m_in_X5 m_cd_X5_sure) rfl rfl rfl (by decide +kernel) ⟨Nat.le_of_ble_eq_true rfl, Nat.le_of_ble_eq_true rfl⟩) (kj_VX (List.Perm.refl _) hK hP hD hTB hTX hS hA (kj_rc (List.Perm.refl _) hK hP ho (Nat.le_of_ble_eq_true rfl) rfl)) rfl rfl hl.1 rfl (lv_room (Nat.le_of_ble_eq_true rfl)) dL_sure_5 ⟨Nat.le_of_ble_eq_true rfl, Nat.le_of_ble_eq_true rfl⟩) hP hD hS hA (fun ce q9 H locs hP hD hS hce hcv hcl => ?_)
  refine vx_catch hown [] ⟨0, 9, 12, 21⟩ [] (hTab.trans rfl) (fun z hz => nomatch hz) rfl (by decide) (htT _ m_cl_L_21) (hTB.use (n_ca _ (by decide))) hce hcv hcl ?_
  refine lv_astore (lv' := [(4, .ref q9), (0, .ref x), (1, .int p0), (2, .int p1), (3, .ref qo)]) hx hb dL_sure_12 hl (by decide) rfl (fun ls hl => ?_)
  refine lv_iconst (v := 1) hx hb dL_sure_14 (by decide) ?_
  exact W.iret (v := 1) hx hb hr (fun t ht hW => ⟨⟨1, (S, fo), rfl, ⟨rfl, rfl, rfl⟩, by rw [ht]; exact hP, va_K.moved hW.alike hK, hD⟩, hS.F ht⟩) hS.2.2 dL_sure_15

set_option maxRecDepth 100000 in
set_option maxHeartbeats 4000000 in
theorem w_bad_t (l : Launch) (hst : l.stackTraces = false) (D : va_G) (cA : Nat → ClassId) (sz : Nat) (S : Pool) (x qo : Nat) (fo : Nat → Int64) (ho : isO S x 5) (ar : Nat) (hq0 : gQ S x 0 = some ar) (har : isA S ar 22 8) (p0 : Int32) (hsw : kSw S ar p0 = none) : Met l yL_bad (Cond.codeWith yL_bad cL_bad 4 (some .int) [(0, 9, 12, 21)] :: TT) ({ frames := 8, cells := 1, slots := 6, locals := 125 }) (va_Pc [.ref x, .int p0, .ref qo] (kPreX D cA (PW cA S ++ [oJ cA qo fo]) sz)) (va_Qi (fun (r_ : Int32) (x_ : Pool × (Nat → Int64)) => r_ = 1 ∧ x_.1 = S ∧ x_.2 = fo) (fun x_ => kB D cA (va_A (PW cA S ++ [oJ cA qo fo]) sz) (PW cA x_.1 ++ [oJ cA qo x_.2])) (va_A (PW cA S ++ [oJ cA qo fo]) sz)) 1 6 (va_A (PW cA S ++ [oJ cA qo fo]) sz) := by
  refine kt_ofWH (cc := cL_bad) (maxL := 4) (ret := (some .int)) (by decide) rfl ?_
  intro p e s m args below meth c s₁ B hml hTab hv
  obtain ⟨rfl, ⟨hsz, hP, hK, hD0, hTB⟩, hTX⟩ := hv
  have hx := B.exec
  have hb := B.bytes
  have hr := B.returns
  have hts := atoms_spec (ws := Cond.codeWith yL_bad cL_bad 4 (some .int) [(0, 9, 12, 21)] :: TT) B.pre
  have htT : ∀ w ∈ TT, w.before _ s = true := fun w h => hts w (List.mem_cons_of_mem _ h)
  have hown : s.vm.findClass RL = some m.cls := findClass_of_methodNamed B.named
  have hlocks := B.notSynchronized
  subst hsz
  have hD := hD0.self (sz := s.heap.size)
  generalize hAe : va_A (PW cA S ++ [oJ cA qo fo]) s.heap.size = A at hD hTX ⊢
  have hA : ∀ q : Nat, s.heap.size ≤ q → A q := fun q h => by rw [← hAe]; exact Or.inr h
  have hS : va_S A s.heap s.heap [] := va_S.rf
  have hl := lv_entry ([.ref x, .int p0, .ref qo]) (n := 4) (Nat.le_of_ble_eq_true rfl)
  rw [lg_entry_eq]
  generalize (lg_sl ([.ref x, .int p0, .ref qo]) ++ List.replicate (4 - (lg_sl ([.ref x, .int p0, .ref qo])).length) Slot.unset).toArray = ls at hl ⊢
  have hl : lv_has ls 4 [(0, .ref x), (1, .int p0), (2, .ref qo)] := hl
  refine lv_aload_n hx hb dL_bad_0 rfl (lv_at hl 2 rfl) ?_
  refine lv_iconst (v := 0) hx hb dL_bad_1 (by decide) ?_
  refine lv_aload_n hx hb dL_bad_2 rfl (lv_at hl 0 rfl) ?_
  refine lv_iload_n hx hb dL_bad_3 rfl (lv_at hl 1 rfl) ?_
  refine kj_t (List.Perm.refl _) (vx_runV (As := [.int p0]) (rest := [.int 0, .ref qo]) ⟨hx, hb, hml, hown, htT⟩ (c_bad_t l hst D cA _ S x ho ar hq0 har p0 hsw) (cwV 1 htT (kg_V m_ml_L_95 m_im_X5_bad m_sl_X5_bad m_in_X5 m_cd_X5_bad) rfl rfl rfl (by decide +kernel) ⟨Nat.le_of_ble_eq_true rfl, Nat.le_of_ble_eq_true rfl⟩) (kj_VX (List.Perm.refl _) hK hP hD hTB hTX hS hA (kj_rc (List.Perm.refl _) hK hP ho (Nat.le_of_ble_eq_true rfl) rfl)) rfl rfl hl.1 rfl (lv_room (Nat.le_of_ble_eq_true rfl)) dL_bad_4 ⟨Nat.le_of_ble_eq_true rfl, Nat.le_of_ble_eq_true rfl⟩) hP hD hS hA (fun ce q9 H locs hP hD hS hce hcv hcl => ?_)
  refine vx_catch hown [] ⟨0, 9, 12, 21⟩ [] (hTab.trans rfl) (fun z hz => nomatch hz) rfl (by decide) (htT _ m_cl_L_21) (hTB.use (n_ca _ (by decide))) hce hcv hcl ?_
  refine lv_astore_n (lv' := [(3, .ref q9), (0, .ref x), (1, .int p0), (2, .ref qo)]) hx hb dL_bad_12 rfl hl (by decide) rfl (fun ls hl => ?_)
  refine lv_iconst (v := 1) hx hb dL_bad_13 (by decide) ?_
  exact W.iret (v := 1) hx hb hr (fun t ht hW => ⟨⟨1, (S, fo), rfl, ⟨rfl, rfl, rfl⟩, by rw [ht]; exact hP, va_K.moved hW.alike hK, hD⟩, hS.F ht⟩) hS.2.2 dL_bad_14

set_option maxRecDepth 100000 in
set_option maxHeartbeats 4000000 in
theorem w_isTrusted_t (l : Launch) (hst : l.stackTraces = false) (D : va_G) (cA : Nat → ClassId) (sz : Nat) (S : Pool) (x qo : Nat) (fo : Nat → Int64) (ho : isO S x 5) (ar : Nat) (hq0 : gQ S x 0 = some ar) (har : isA S ar 22 8) (p0 : Int32) (hsw : kSw S ar p0 = none) : Met l yL_isTrusted (Cond.codeWith yL_isTrusted cL_isTrusted 4 (some .int) [(0, 16, 19, 21)] :: TT) ({ frames := 8, cells := 1, slots := 6, locals := 125 }) (va_Pc [.ref x, .int p0, .ref qo] (kPreX D cA (PW cA S ++ [oJ cA qo fo]) sz)) (va_Qi (fun (r_ : Int32) (x_ : Pool × (Nat → Int64)) => r_ = 1 ∧ x_.1 = S ∧ x_.2 = fo) (fun x_ => kB D cA (va_A (PW cA S ++ [oJ cA qo fo]) sz) (PW cA x_.1 ++ [oJ cA qo x_.2])) (va_A (PW cA S ++ [oJ cA qo fo]) sz)) 1 6 (va_A (PW cA S ++ [oJ cA qo fo]) sz) := by
  refine kt_ofWH (cc := cL_isTrusted) (maxL := 4) (ret := (some .int)) (by decide) rfl ?_
  intro p e s m args below meth c s₁ B hml hTab hv
  obtain ⟨rfl, ⟨hsz, hP, hK, hD0, hTB⟩, hTX⟩ := hv
  have hx := B.exec
  have hb := B.bytes
  have hr := B.returns
  have hts := atoms_spec (ws := Cond.codeWith yL_isTrusted cL_isTrusted 4 (some .int) [(0, 16, 19, 21)] :: TT) B.pre
  have htT : ∀ w ∈ TT, w.before _ s = true := fun w h => hts w (List.mem_cons_of_mem _ h)
  have hown : s.vm.findClass RL = some m.cls := findClass_of_methodNamed B.named
  have hlocks := B.notSynchronized
  subst hsz
  have hD := hD0.self (sz := s.heap.size)
  generalize hAe : va_A (PW cA S ++ [oJ cA qo fo]) s.heap.size = A at hD hTX ⊢
  have hA : ∀ q : Nat, s.heap.size ≤ q → A q := fun q h => by rw [← hAe]; exact Or.inr h
  have hS : va_S A s.heap s.heap [] := va_S.rf
  have hl := lv_entry ([.ref x, .int p0, .ref qo]) (n := 4) (Nat.le_of_ble_eq_true rfl)
  rw [lg_entry_eq]
  generalize (lg_sl ([.ref x, .int p0, .ref qo]) ++ List.replicate (4 - (lg_sl ([.ref x, .int p0, .ref qo])).length) Slot.unset).toArray = ls at hl ⊢
  have hl : lv_has ls 4 [(0, .ref x), (1, .int p0), (2, .ref qo)] := hl
  refine lv_aload_n hx hb dL_isTrusted_0 rfl (lv_at hl 2 rfl) ?_
  refine lv_iconst (v := 0) hx hb dL_isTrusted_1 (by decide) ?_
  refine lv_aload_n hx hb dL_isTrusted_2 rfl (lv_at hl 0 rfl) ?_
  refine lv_iload_n hx hb dL_isTrusted_3 rfl (lv_at hl 1 rfl) ?_
  refine kj_t (List.Perm.refl _) (vx_runV (As := [.int p0]) (rest := [.int 0, .ref qo]) ⟨hx, hb, hml, hown, htT⟩ (c_isTrusted_t l hst D cA _ S x ho ar hq0 har p0 hsw) (cwV 1 htT (kg_V m_ml_L_98 m_im_X5_isTrusted m_sl_X5_isTrusted m_in_X5 m_cd_X5_isTrusted) rfl rfl rfl (by decide +kernel) ⟨Nat.le_of_ble_eq_true rfl, Nat.le_of_ble_eq_true rfl⟩) (kj_VX (List.Perm.refl _) hK hP hD hTB hTX hS hA (kj_rc (List.Perm.refl _) hK hP ho (Nat.le_of_ble_eq_true rfl) rfl)) rfl rfl hl.1 rfl (lv_room (Nat.le_of_ble_eq_true rfl)) dL_isTrusted_4 ⟨Nat.le_of_ble_eq_true rfl, Nat.le_of_ble_eq_true rfl⟩) hP hD hS hA (fun ce q9 H locs hP hD hS hce hcv hcl => ?_)
  refine vx_catch hown [] ⟨0, 16, 19, 21⟩ [] (hTab.trans rfl) (fun z hz => nomatch hz) rfl (by decide) (htT _ m_cl_L_21) (hTB.use (n_ca _ (by decide))) hce hcv hcl ?_
  refine lv_astore_n (lv' := [(3, .ref q9), (0, .ref x), (1, .int p0), (2, .ref qo)]) hx hb dL_isTrusted_19 rfl hl (by decide) rfl (fun ls hl => ?_)
  refine lv_iconst (v := 1) hx hb dL_isTrusted_20 (by decide) ?_
  exact W.iret (v := 1) hx hb hr (fun t ht hW => ⟨⟨1, (S, fo), rfl, ⟨rfl, rfl, rfl⟩, by rw [ht]; exact hP, va_K.moved hW.alike hK, hD⟩, hS.F ht⟩) hS.2.2 dL_isTrusted_21

set_option maxRecDepth 100000 in
set_option maxHeartbeats 4000000 in
theorem w_best_t (l : Launch) (hst : l.stackTraces = false) (D : va_G) (cA : Nat → ClassId) (sz : Nat) (S : Pool) (x qo : Nat) (fo : Nat → Int64) (ho : isO S x 5) (ar : Nat) (hq0 : gQ S x 0 = some ar) (har : isA S ar 22 8) (p0 : Int32) (hsw : kSw S ar p0 = none) : Met l yL_best (Cond.codeWith yL_best cL_best 4 (some .int) [(0, 9, 12, 21)] :: TT) ({ frames := 8, cells := 1, slots := 6, locals := 125 }) (va_Pc [.ref x, .int p0, .ref qo] (kPreX D cA (PW cA S ++ [oJ cA qo fo]) sz)) (va_Qi (fun (r_ : Int32) (x_ : Pool × (Nat → Int64)) => r_ = 1 ∧ x_.1 = S ∧ x_.2 = fo) (fun x_ => kB D cA (va_A (PW cA S ++ [oJ cA qo fo]) sz) (PW cA x_.1 ++ [oJ cA qo x_.2])) (va_A (PW cA S ++ [oJ cA qo fo]) sz)) 1 6 (va_A (PW cA S ++ [oJ cA qo fo]) sz) := by
  refine kt_ofWH (cc := cL_best) (maxL := 4) (ret := (some .int)) (by decide) rfl ?_
  intro p e s m args below meth c s₁ B hml hTab hv
  obtain ⟨rfl, ⟨hsz, hP, hK, hD0, hTB⟩, hTX⟩ := hv
  have hx := B.exec
  have hb := B.bytes
  have hr := B.returns
  have hts := atoms_spec (ws := Cond.codeWith yL_best cL_best 4 (some .int) [(0, 9, 12, 21)] :: TT) B.pre
  have htT : ∀ w ∈ TT, w.before _ s = true := fun w h => hts w (List.mem_cons_of_mem _ h)
  have hown : s.vm.findClass RL = some m.cls := findClass_of_methodNamed B.named
  have hlocks := B.notSynchronized
  subst hsz
  have hD := hD0.self (sz := s.heap.size)
  generalize hAe : va_A (PW cA S ++ [oJ cA qo fo]) s.heap.size = A at hD hTX ⊢
  have hA : ∀ q : Nat, s.heap.size ≤ q → A q := fun q h => by rw [← hAe]; exact Or.inr h
  have hS : va_S A s.heap s.heap [] := va_S.rf
  have hl := lv_entry ([.ref x, .int p0, .ref qo]) (n := 4) (Nat.le_of_ble_eq_true rfl)
  rw [lg_entry_eq]
  generalize (lg_sl ([.ref x, .int p0, .ref qo]) ++ List.replicate (4 - (lg_sl ([.ref x, .int p0, .ref qo])).length) Slot.unset).toArray = ls at hl ⊢
  have hl : lv_has ls 4 [(0, .ref x), (1, .int p0), (2, .ref qo)] := hl
  refine lv_aload_n hx hb dL_best_0 rfl (lv_at hl 2 rfl) ?_
  refine lv_iconst (v := 0) hx hb dL_best_1 (by decide) ?_
  refine lv_aload_n hx hb dL_best_2 rfl (lv_at hl 0 rfl) ?_
  refine lv_iload_n hx hb dL_best_3 rfl (lv_at hl 1 rfl) ?_
  refine kj_t (List.Perm.refl _) (vx_runV (As := [.int p0]) (rest := [.int 0, .ref qo]) ⟨hx, hb, hml, hown, htT⟩ (c_best_t l hst D cA _ S x ho ar hq0 har p0 hsw) (cwV 1 htT (kg_V m_ml_L_102 m_im_X5_best m_sl_X5_best m_in_X5 m_cd_X5_best) rfl rfl rfl (by decide +kernel) ⟨Nat.le_of_ble_eq_true rfl, Nat.le_of_ble_eq_true rfl⟩) (kj_VX (List.Perm.refl _) hK hP hD hTB hTX hS hA (kj_rc (List.Perm.refl _) hK hP ho (Nat.le_of_ble_eq_true rfl) rfl)) rfl rfl hl.1 rfl (lv_room (Nat.le_of_ble_eq_true rfl)) dL_best_4 ⟨Nat.le_of_ble_eq_true rfl, Nat.le_of_ble_eq_true rfl⟩) hP hD hS hA (fun ce q9 H locs hP hD hS hce hcv hcl => ?_)
  refine vx_catch hown [] ⟨0, 9, 12, 21⟩ [] (hTab.trans rfl) (fun z hz => nomatch hz) rfl (by decide) (htT _ m_cl_L_21) (hTB.use (n_ca _ (by decide))) hce hcv hcl ?_
  refine lv_astore_n (lv' := [(3, .ref q9), (0, .ref x), (1, .int p0), (2, .ref qo)]) hx hb dL_best_12 rfl hl (by decide) rfl (fun ls hl => ?_)
  refine lv_iconst (v := 1) hx hb dL_best_13 (by decide) ?_
  exact W.iret (v := 1) hx hb hr (fun t ht hW => ⟨⟨1, (S, fo), rfl, ⟨rfl, rfl, rfl⟩, by rw [ht]; exact hP, va_K.moved hW.alike hK, hD⟩, hS.F ht⟩) hS.2.2 dL_best_14

set_option maxRecDepth 100000 in
set_option maxHeartbeats 4000000 in
theorem w_reach_t (l : Launch) (hst : l.stackTraces = false) (D : va_G) (cA : Nat → ClassId) (sz : Nat) (S : Pool) (x qo : Nat) (fo : Nat → Int64) (ho : isO S x 5) (ar : Nat) (hq0 : gQ S x 0 = some ar) (har : isA S ar 22 8) (p0 p1 p2 : Int32) (hsw : kSw S ar p0 = none) : Met l yL_reach (Cond.codeWith yL_reach cL_reach 6 (some .int) [(0, 12, 15, 21), (0, 12, 19, 13)] :: TT) ({ frames := 8, cells := 1, slots := 6, locals := 130 }) (va_Pc [.ref x, .int p0, .int p1, .int p2, .ref qo] (kPreX D cA (PW cA S ++ [oJ cA qo fo]) sz)) (va_Qi (fun (r_ : Int32) (x_ : Pool × (Nat → Int64)) => r_ = 1 ∧ x_.1 = S ∧ x_.2 = fo) (fun x_ => kB D cA (va_A (PW cA S ++ [oJ cA qo fo]) sz) (PW cA x_.1 ++ [oJ cA qo x_.2])) (va_A (PW cA S ++ [oJ cA qo fo]) sz)) 1 6 (va_A (PW cA S ++ [oJ cA qo fo]) sz) := by
  refine kt_ofWH (cc := cL_reach) (maxL := 6) (ret := (some .int)) (by decide) rfl ?_
  intro p e s m args below meth c s₁ B hml hTab hv
  obtain ⟨rfl, ⟨hsz, hP, hK, hD0, hTB⟩, hTX⟩ := hv
  have hx := B.exec
  have hb := B.bytes
  have hr := B.returns
  have hts := atoms_spec (ws := Cond.codeWith yL_reach cL_reach 6 (some .int) [(0, 12, 15, 21), (0, 12, 19, 13)] :: TT) B.pre
  have htT : ∀ w ∈ TT, w.before _ s = true := fun w h => hts w (List.mem_cons_of_mem _ h)
  have hown : s.vm.findClass RL = some m.cls := findClass_of_methodNamed B.named
  have hlocks := B.notSynchronized
  subst hsz
  have hD := hD0.self (sz := s.heap.size)
  generalize hAe : va_A (PW cA S ++ [oJ cA qo fo]) s.heap.size = A at hD hTX ⊢
  have hA : ∀ q : Nat, s.heap.size ≤ q → A q := fun q h => by rw [← hAe]; exact Or.inr h
  have hS : va_S A s.heap s.heap [] := va_S.rf
  have hl := lv_entry ([.ref x, .int p0, .int p1, .int p2, .ref qo]) (n := 6) (Nat.le_of_ble_eq_true rfl)
  rw [lg_entry_eq]
  generalize (lg_sl ([.ref x, .int p0, .int p1, .int p2, .ref qo]) ++ List.replicate (6 - (lg_sl ([.ref x, .int p0, .int p1, .int p2, .ref qo])).length) Slot.unset).toArray = ls at hl ⊢
  have hl : lv_has ls 6 [(0, .ref x), (1, .int p0), (2, .int p1), (3, .int p2), (4, .ref qo)] := hl
  refine lv_aload hx hb dL_reach_0 (lv_at hl 4 rfl) ?_
  refine lv_iconst (v := 0) hx hb dL_reach_2 (by decide) ?_
  refine lv_aload_n hx hb dL_reach_3 rfl (lv_at hl 0 rfl) ?_
  refine lv_iload_n hx hb dL_reach_4 rfl (lv_at hl 1 rfl) ?_
  refine lv_iload_n hx hb dL_reach_5 rfl (lv_at hl 2 rfl) ?_
  refine lv_iload_n hx hb dL_reach_6 rfl (lv_at hl 3 rfl) ?_
  refine kj_t (List.Perm.refl _) (vx_runV (As := [.int p0, .int p1, .int p2]) (rest := [.int 0, .ref qo]) ⟨hx, hb, hml, hown, htT⟩ (c_reach_t l hst D cA _ S x ho ar hq0 har p0 p1 p2 hsw) (cwV 3 htT (kg_V m_ml_L_105 m_im_X5_reach m_sl_X5_reach m_in_X5 m_cd_X5_reach) rfl rfl rfl (by decide +kernel) ⟨Nat.le_of_ble_eq_true rfl, Nat.le_of_ble_eq_true rfl⟩) (kj_VX (List.Perm.refl _) hK hP hD hTB hTX hS hA (kj_rc (List.Perm.refl _) hK hP ho (Nat.le_of_ble_eq_true rfl) rfl)) rfl rfl hl.1 rfl (lv_room (Nat.le_of_ble_eq_true rfl)) dL_reach_7 ⟨Nat.le_of_ble_eq_true rfl, Nat.le_of_ble_eq_true rfl⟩) hP hD hS hA (fun ce q9 H locs hP hD hS hce hcv hcl => ?_)
  refine vx_catch hown [] ⟨0, 12, 15, 21⟩ [⟨0, 12, 19, 13⟩] (hTab.trans rfl) (fun z hz => nomatch hz) rfl (by decide) (htT _ m_cl_L_21) (hTB.use (n_ca _ (by decide))) hce hcv hcl ?_
  refine lv_astore (lv' := [(5, .ref q9), (0, .ref x), (1, .int p0), (2, .int p1), (3, .int p2), (4, .ref qo)]) hx hb dL_reach_15 hl (by decide) rfl (fun ls hl => ?_)
  refine lv_iconst (v := 1) hx hb dL_reach_17 (by decide) ?_
  exact W.iret (v := 1) hx hb hr (fun t ht hW => ⟨⟨1, (S, fo), rfl, ⟨rfl, rfl, rfl⟩, by rw [ht]; exact hP, va_K.moved hW.alike hK, hD⟩, hS.F ht⟩) hS.2.2 dL_reach_18

set_option maxRecDepth 100000 in
set_option maxHeartbeats 4000000 in
theorem w_both_t (l : Launch) (hst : l.stackTraces = false) (D : va_G) (cA : Nat → ClassId) (sz : Nat) (S : Pool) (x qo : Nat) (fo : Nat → Int64) (ho : isO S x 5) (ar : Nat) (hq0 : gQ S x 0 = some ar) (har : isA S ar 22 8) (p0 p1 p2 : Int32) (hsw : kSw S ar p0 = none) : Met l yL_both (Cond.codeWith yL_both cL_both 6 (some .int) [(0, 12, 15, 21), (0, 12, 19, 13)] :: TT) ({ frames := 8, cells := 1, slots := 6, locals := 131 }) (va_Pc [.ref x, .int p0, .int p1, .int p2, .ref qo] (kPreX D cA (PW cA S ++ [oJ cA qo fo]) sz)) (va_Qi (fun (r_ : Int32) (x_ : Pool × (Nat → Int64)) => r_ = 1 ∧ x_.1 = S ∧ x_.2 = fo) (fun x_ => kB D cA (va_A (PW cA S ++ [oJ cA qo fo]) sz) (PW cA x_.1 ++ [oJ cA qo x_.2])) (va_A (PW cA S ++ [oJ cA qo fo]) sz)) 1 6 (va_A (PW cA S ++ [oJ cA qo fo]) sz) := by
  refine kt_ofWH (cc := cL_both) (maxL := 6) (ret := (some .int)) (by decide) rfl ?_
  intro p e s m args below meth c s₁ B hml hTab hv
  obtain ⟨rfl, ⟨hsz, hP, hK, hD0, hTB⟩, hTX⟩ := hv
  have hx := B.exec
  have hb := B.bytes
  have hr := B.returns
  have hts := atoms_spec (ws := Cond.codeWith yL_both cL_both 6 (some .int) [(0, 12, 15, 21), (0, 12, 19, 13)] :: TT) B.pre
  have htT : ∀ w ∈ TT, w.before _ s = true := fun w h => hts w (List.mem_cons_of_mem _ h)
  have hown : s.vm.findClass RL = some m.cls := findClass_of_methodNamed B.named
  have hlocks := B.notSynchronized
  subst hsz
  have hD := hD0.self (sz := s.heap.size)
  generalize hAe : va_A (PW cA S ++ [oJ cA qo fo]) s.heap.size = A at hD hTX ⊢
  have hA : ∀ q : Nat, s.heap.size ≤ q → A q := fun q h => by rw [← hAe]; exact Or.inr h
  have hS : va_S A s.heap s.heap [] := va_S.rf
  have hl := lv_entry ([.ref x, .int p0, .int p1, .int p2, .ref qo]) (n := 6) (Nat.le_of_ble_eq_true rfl)
  rw [lg_entry_eq]
  generalize (lg_sl ([.ref x, .int p0, .int p1, .int p2, .ref qo]) ++ List.replicate (6 - (lg_sl ([.ref x, .int p0, .int p1, .int p2, .ref qo])).length) Slot.unset).toArray = ls at hl ⊢
  have hl : lv_has ls 6 [(0, .ref x), (1, .int p0), (2, .int p1), (3, .int p2), (4, .ref qo)] := hl
  refine lv_aload hx hb dL_both_0 (lv_at hl 4 rfl) ?_
  refine lv_iconst (v := 0) hx hb dL_both_2 (by decide) ?_
  refine lv_aload_n hx hb dL_both_3 rfl (lv_at hl 0 rfl) ?_
  refine lv_iload_n hx hb dL_both_4 rfl (lv_at hl 1 rfl) ?_
  refine lv_iload_n hx hb dL_both_5 rfl (lv_at hl 2 rfl) ?_
  refine lv_iload_n hx hb dL_both_6 rfl (lv_at hl 3 rfl) ?_
  refine kj_t (List.Perm.refl _) (vx_runV (As := [.int p0, .int p1, .int p2]) (rest := [.int 0, .ref qo]) ⟨hx, hb, hml, hown, htT⟩ (c_both_t l hst D cA _ S x ho ar hq0 har p0 p1 p2 hsw) (cwV 3 htT (kg_V m_ml_L_108 m_im_X5_both m_sl_X5_both m_in_X5 m_cd_X5_both) rfl rfl rfl (by decide +kernel) ⟨Nat.le_of_ble_eq_true rfl, Nat.le_of_ble_eq_true rfl⟩) (kj_VX (List.Perm.refl _) hK hP hD hTB hTX hS hA (kj_rc (List.Perm.refl _) hK hP ho (Nat.le_of_ble_eq_true rfl) rfl)) rfl rfl hl.1 rfl (lv_room (Nat.le_of_ble_eq_true rfl)) dL_both_7 ⟨Nat.le_of_ble_eq_true rfl, Nat.le_of_ble_eq_true rfl⟩) hP hD hS hA (fun ce q9 H locs hP hD hS hce hcv hcl => ?_)
  refine vx_catch hown [] ⟨0, 12, 15, 21⟩ [⟨0, 12, 19, 13⟩] (hTab.trans rfl) (fun z hz => nomatch hz) rfl (by decide) (htT _ m_cl_L_21) (hTB.use (n_ca _ (by decide))) hce hcv hcl ?_
  refine lv_astore (lv' := [(5, .ref q9), (0, .ref x), (1, .int p0), (2, .int p1), (3, .int p2), (4, .ref qo)]) hx hb dL_both_15 hl (by decide) rfl (fun ls hl => ?_)
  refine lv_iconst (v := 1) hx hb dL_both_17 (by decide) ?_
  exact W.iret (v := 1) hx hb hr (fun t ht hW => ⟨⟨1, (S, fo), rfl, ⟨rfl, rfl, rfl⟩, by rw [ht]; exact hP, va_K.moved hW.alike hK, hD⟩, hS.F ht⟩) hS.2.2 dL_both_18

set_option maxRecDepth 100000 in
set_option maxHeartbeats 4000000 in
theorem w_wouldChange_t (l : Launch) (hst : l.stackTraces = false) (D : va_G) (cA : Nat → ClassId) (sz : Nat) (S : Pool) (x qo : Nat) (fo : Nat → Int64) (ho : isO S x 5) (ar : Nat) (hq0 : gQ S x 0 = some ar) (har : isA S ar 22 8) (p0 p1 p2 : Int32) (hsw : kSw S ar p0 = none) : Met l yL_wouldChange (Cond.codeWith yL_wouldChange cL_wouldChange 6 (some .int) [(0, 12, 15, 21), (0, 12, 19, 13)] :: TT) ({ frames := 8, cells := 1, slots := 6, locals := 131 }) (va_Pc [.ref x, .int p0, .int p1, .int p2, .ref qo] (kPreX D cA (PW cA S ++ [oJ cA qo fo]) sz)) (va_Qi (fun (r_ : Int32) (x_ : Pool × (Nat → Int64)) => r_ = 1 ∧ x_.1 = S ∧ x_.2 = fo) (fun x_ => kB D cA (va_A (PW cA S ++ [oJ cA qo fo]) sz) (PW cA x_.1 ++ [oJ cA qo x_.2])) (va_A (PW cA S ++ [oJ cA qo fo]) sz)) 1 6 (va_A (PW cA S ++ [oJ cA qo fo]) sz) := by
  refine kt_ofWH (cc := cL_wouldChange) (maxL := 6) (ret := (some .int)) (by decide) rfl ?_
  intro p e s m args below meth c s₁ B hml hTab hv
  obtain ⟨rfl, ⟨hsz, hP, hK, hD0, hTB⟩, hTX⟩ := hv
  have hx := B.exec
  have hb := B.bytes
  have hr := B.returns
  have hts := atoms_spec (ws := Cond.codeWith yL_wouldChange cL_wouldChange 6 (some .int) [(0, 12, 15, 21), (0, 12, 19, 13)] :: TT) B.pre
  have htT : ∀ w ∈ TT, w.before _ s = true := fun w h => hts w (List.mem_cons_of_mem _ h)
  have hown : s.vm.findClass RL = some m.cls := findClass_of_methodNamed B.named
  have hlocks := B.notSynchronized
  subst hsz
  have hD := hD0.self (sz := s.heap.size)
  generalize hAe : va_A (PW cA S ++ [oJ cA qo fo]) s.heap.size = A at hD hTX ⊢
  have hA : ∀ q : Nat, s.heap.size ≤ q → A q := fun q h => by rw [← hAe]; exact Or.inr h
  have hS : va_S A s.heap s.heap [] := va_S.rf
  have hl := lv_entry ([.ref x, .int p0, .int p1, .int p2, .ref qo]) (n := 6) (Nat.le_of_ble_eq_true rfl)
  rw [lg_entry_eq]
  generalize (lg_sl ([.ref x, .int p0, .int p1, .int p2, .ref qo]) ++ List.replicate (6 - (lg_sl ([.ref x, .int p0, .int p1, .int p2, .ref qo])).length) Slot.unset).toArray = ls at hl ⊢
  have hl : lv_has ls 6 [(0, .ref x), (1, .int p0), (2, .int p1), (3, .int p2), (4, .ref qo)] := hl
  refine lv_aload hx hb dL_wouldChange_0 (lv_at hl 4 rfl) ?_
  refine lv_iconst (v := 0) hx hb dL_wouldChange_2 (by decide) ?_
  refine lv_aload_n hx hb dL_wouldChange_3 rfl (lv_at hl 0 rfl) ?_
  refine lv_iload_n hx hb dL_wouldChange_4 rfl (lv_at hl 1 rfl) ?_
  refine lv_iload_n hx hb dL_wouldChange_5 rfl (lv_at hl 2 rfl) ?_
  refine lv_iload_n hx hb dL_wouldChange_6 rfl (lv_at hl 3 rfl) ?_
  refine kj_t (List.Perm.refl _) (vx_runV (As := [.int p0, .int p1, .int p2]) (rest := [.int 0, .ref qo]) ⟨hx, hb, hml, hown, htT⟩ (c_wouldChange_t l hst D cA _ S x ho ar hq0 har p0 p1 p2 hsw) (cwV 3 htT (kg_V m_ml_L_111 m_im_X5_wouldChange m_sl_X5_wouldChange m_in_X5 m_cd_X5_wouldChange) rfl rfl rfl (by decide +kernel) ⟨Nat.le_of_ble_eq_true rfl, Nat.le_of_ble_eq_true rfl⟩) (kj_VX (List.Perm.refl _) hK hP hD hTB hTX hS hA (kj_rc (List.Perm.refl _) hK hP ho (Nat.le_of_ble_eq_true rfl) rfl)) rfl rfl hl.1 rfl (lv_room (Nat.le_of_ble_eq_true rfl)) dL_wouldChange_7 ⟨Nat.le_of_ble_eq_true rfl, Nat.le_of_ble_eq_true rfl⟩) hP hD hS hA (fun ce q9 H locs hP hD hS hce hcv hcl => ?_)
  refine vx_catch hown [] ⟨0, 12, 15, 21⟩ [⟨0, 12, 19, 13⟩] (hTab.trans rfl) (fun z hz => nomatch hz) rfl (by decide) (htT _ m_cl_L_21) (hTB.use (n_ca _ (by decide))) hce hcv hcl ?_
  refine lv_astore (lv' := [(5, .ref q9), (0, .ref x), (1, .int p0), (2, .int p1), (3, .int p2), (4, .ref qo)]) hx hb dL_wouldChange_15 hl (by decide) rfl (fun ls hl => ?_)
  refine lv_iconst (v := 1) hx hb dL_wouldChange_17 (by decide) ?_
  exact W.iret (v := 1) hx hb hr (fun t ht hW => ⟨⟨1, (S, fo), rfl, ⟨rfl, rfl, rfl⟩, by rw [ht]; exact hP, va_K.moved hW.alike hK, hD⟩, hS.F ht⟩) hS.2.2 dL_wouldChange_18

set_option maxRecDepth 100000 in
set_option maxHeartbeats 4000000 in
theorem w_wouldTurn_t (l : Launch) (hst : l.stackTraces = false) (D : va_G) (cA : Nat → ClassId) (sz : Nat) (S : Pool) (x qo : Nat) (fo : Nat → Int64) (ho : isO S x 5) (ar : Nat) (hq0 : gQ S x 0 = some ar) (har : isA S ar 22 8) (p0 p1 : Int32) (hsw : kSw S ar p0 = none) : Met l yL_wouldTurn (Cond.codeWith yL_wouldTurn cL_wouldTurn 5 (some .int) [(0, 10, 13, 21), (0, 10, 17, 13)] :: TT) ({ frames := 8, cells := 1, slots := 6, locals := 128 }) (va_Pc [.ref x, .int p0, .int p1, .ref qo] (kPreX D cA (PW cA S ++ [oJ cA qo fo]) sz)) (va_Qi (fun (r_ : Int32) (x_ : Pool × (Nat → Int64)) => r_ = 1 ∧ x_.1 = S ∧ x_.2 = fo) (fun x_ => kB D cA (va_A (PW cA S ++ [oJ cA qo fo]) sz) (PW cA x_.1 ++ [oJ cA qo x_.2])) (va_A (PW cA S ++ [oJ cA qo fo]) sz)) 1 6 (va_A (PW cA S ++ [oJ cA qo fo]) sz) := by
  refine kt_ofWH (cc := cL_wouldTurn) (maxL := 5) (ret := (some .int)) (by decide) rfl ?_
  intro p e s m args below meth c s₁ B hml hTab hv
  obtain ⟨rfl, ⟨hsz, hP, hK, hD0, hTB⟩, hTX⟩ := hv
  have hx := B.exec
  have hb := B.bytes
  have hr := B.returns
  have hts := atoms_spec (ws := Cond.codeWith yL_wouldTurn cL_wouldTurn 5 (some .int) [(0, 10, 13, 21), (0, 10, 17, 13)] :: TT) B.pre
  have htT : ∀ w ∈ TT, w.before _ s = true := fun w h => hts w (List.mem_cons_of_mem _ h)
  have hown : s.vm.findClass RL = some m.cls := findClass_of_methodNamed B.named
  have hlocks := B.notSynchronized
  subst hsz
  have hD := hD0.self (sz := s.heap.size)
  generalize hAe : va_A (PW cA S ++ [oJ cA qo fo]) s.heap.size = A at hD hTX ⊢
  have hA : ∀ q : Nat, s.heap.size ≤ q → A q := fun q h => by rw [← hAe]; exact Or.inr h
  have hS : va_S A s.heap s.heap [] := va_S.rf
  have hl := lv_entry ([.ref x, .int p0, .int p1, .ref qo]) (n := 5) (Nat.le_of_ble_eq_true rfl)
  rw [lg_entry_eq]
  generalize (lg_sl ([.ref x, .int p0, .int p1, .ref qo]) ++ List.replicate (5 - (lg_sl ([.ref x, .int p0, .int p1, .ref qo])).length) Slot.unset).toArray = ls at hl ⊢
  have hl : lv_has ls 5 [(0, .ref x), (1, .int p0), (2, .int p1), (3, .ref qo)] := hl
  refine lv_aload_n hx hb dL_wouldTurn_0 rfl (lv_at hl 3 rfl) ?_
  refine lv_iconst (v := 0) hx hb dL_wouldTurn_1 (by decide) ?_
  refine lv_aload_n hx hb dL_wouldTurn_2 rfl (lv_at hl 0 rfl) ?_
  refine lv_iload_n hx hb dL_wouldTurn_3 rfl (lv_at hl 1 rfl) ?_
  refine lv_iload_n hx hb dL_wouldTurn_4 rfl (lv_at hl 2 rfl) ?_
  refine kj_t (List.Perm.refl _) (vx_runV (As := [.int p0, .int p1]) (rest := [.int 0, .ref qo]) ⟨hx, hb, hml, hown, htT⟩ (c_wouldTurn_t l hst D cA _ S x ho ar hq0 har p0 p1 hsw) (cwV 2 htT (kg_V m_ml_L_114 m_im_X5_wouldTurn m_sl_X5_wouldTurn m_in_X5 m_cd_X5_wouldTurn) rfl rfl rfl (by decide +kernel) ⟨Nat.le_of_ble_eq_true rfl, Nat.le_of_ble_eq_true rfl⟩) (kj_VX (List.Perm.refl _) hK hP hD hTB hTX hS hA (kj_rc (List.Perm.refl _) hK hP ho (Nat.le_of_ble_eq_true rfl) rfl)) rfl rfl hl.1 rfl (lv_room (Nat.le_of_ble_eq_true rfl)) dL_wouldTurn_5 ⟨Nat.le_of_ble_eq_true rfl, Nat.le_of_ble_eq_true rfl⟩) hP hD hS hA (fun ce q9 H locs hP hD hS hce hcv hcl => ?_)
  refine vx_catch hown [] ⟨0, 10, 13, 21⟩ [⟨0, 10, 17, 13⟩] (hTab.trans rfl) (fun z hz => nomatch hz) rfl (by decide) (htT _ m_cl_L_21) (hTB.use (n_ca _ (by decide))) hce hcv hcl ?_
  refine lv_astore (lv' := [(4, .ref q9), (0, .ref x), (1, .int p0), (2, .int p1), (3, .ref qo)]) hx hb dL_wouldTurn_13 hl (by decide) rfl (fun ls hl => ?_)
  refine lv_iconst (v := 1) hx hb dL_wouldTurn_15 (by decide) ?_
  exact W.iret (v := 1) hx hb hr (fun t ht hW => ⟨⟨1, (S, fo), rfl, ⟨rfl, rfl, rfl⟩, by rw [ht]; exact hP, va_K.moved hW.alike hK, hD⟩, hS.F ht⟩) hS.2.2 dL_wouldTurn_16

set_option maxRecDepth 100000 in
set_option maxHeartbeats 4000000 in
theorem w_shareIn_t (l : Launch) (hst : l.stackTraces = false) (D : va_G) (cA : Nat → ClassId) (sz : Nat) (S : Pool) (x qo : Nat) (fo : Nat → Int64) (ho : isO S x 5) (ar : Nat) (hq0 : gQ S x 0 = some ar) (har : isA S ar 22 8) (p0 p1 : Int32) (hsw : kSw S ar p0 = none) : Met l yL_shareIn (Cond.codeWith yL_shareIn cL_shareIn 5 (some .int) [(0, 10, 13, 21), (0, 10, 17, 13)] :: TT) ({ frames := 8, cells := 1, slots := 6, locals := 127 }) (va_Pc [.ref x, .int p0, .int p1, .ref qo] (kPreX D cA (PW cA S ++ [oJ cA qo fo]) sz)) (va_Qi (fun (r_ : Int32) (x_ : Pool × (Nat → Int64)) => r_ = 1 ∧ x_.1 = S ∧ x_.2 = fo) (fun x_ => kB D cA (va_A (PW cA S ++ [oJ cA qo fo]) sz) (PW cA x_.1 ++ [oJ cA qo x_.2])) (va_A (PW cA S ++ [oJ cA qo fo]) sz)) 1 6 (va_A (PW cA S ++ [oJ cA qo fo]) sz) := by
  refine kt_ofWH (cc := cL_shareIn) (maxL := 5) (ret := (some .int)) (by decide) rfl ?_
  intro p e s m args below meth c s₁ B hml hTab hv
  obtain ⟨rfl, ⟨hsz, hP, hK, hD0, hTB⟩, hTX⟩ := hv
  have hx := B.exec
  have hb := B.bytes
  have hr := B.returns
  have hts := atoms_spec (ws := Cond.codeWith yL_shareIn cL_shareIn 5 (some .int) [(0, 10, 13, 21), (0, 10, 17, 13)] :: TT) B.pre
  have htT : ∀ w ∈ TT, w.before _ s = true := fun w h => hts w (List.mem_cons_of_mem _ h)
  have hown : s.vm.findClass RL = some m.cls := findClass_of_methodNamed B.named
  have hlocks := B.notSynchronized
  subst hsz
  have hD := hD0.self (sz := s.heap.size)
  generalize hAe : va_A (PW cA S ++ [oJ cA qo fo]) s.heap.size = A at hD hTX ⊢
  have hA : ∀ q : Nat, s.heap.size ≤ q → A q := fun q h => by rw [← hAe]; exact Or.inr h
  have hS : va_S A s.heap s.heap [] := va_S.rf
  have hl := lv_entry ([.ref x, .int p0, .int p1, .ref qo]) (n := 5) (Nat.le_of_ble_eq_true rfl)
  rw [lg_entry_eq]
  generalize (lg_sl ([.ref x, .int p0, .int p1, .ref qo]) ++ List.replicate (5 - (lg_sl ([.ref x, .int p0, .int p1, .ref qo])).length) Slot.unset).toArray = ls at hl ⊢
  have hl : lv_has ls 5 [(0, .ref x), (1, .int p0), (2, .int p1), (3, .ref qo)] := hl
  refine lv_aload_n hx hb dL_shareIn_0 rfl (lv_at hl 3 rfl) ?_
  refine lv_iconst (v := 0) hx hb dL_shareIn_1 (by decide) ?_
  refine lv_aload_n hx hb dL_shareIn_2 rfl (lv_at hl 0 rfl) ?_
  refine lv_iload_n hx hb dL_shareIn_3 rfl (lv_at hl 1 rfl) ?_
  refine lv_iload_n hx hb dL_shareIn_4 rfl (lv_at hl 2 rfl) ?_
  refine kj_t (List.Perm.refl _) (vx_runV (As := [.int p0, .int p1]) (rest := [.int 0, .ref qo]) ⟨hx, hb, hml, hown, htT⟩ (c_shareIn_t l hst D cA _ S x ho ar hq0 har p0 p1 hsw) (cwV 2 htT (kg_V m_ml_L_117 m_im_X5_shareIn m_sl_X5_shareIn m_in_X5 m_cd_X5_shareIn) rfl rfl rfl (by decide +kernel) ⟨Nat.le_of_ble_eq_true rfl, Nat.le_of_ble_eq_true rfl⟩) (kj_VX (List.Perm.refl _) hK hP hD hTB hTX hS hA (kj_rc (List.Perm.refl _) hK hP ho (Nat.le_of_ble_eq_true rfl) rfl)) rfl rfl hl.1 rfl (lv_room (Nat.le_of_ble_eq_true rfl)) dL_shareIn_5 ⟨Nat.le_of_ble_eq_true rfl, Nat.le_of_ble_eq_true rfl⟩) hP hD hS hA (fun ce q9 H locs hP hD hS hce hcv hcl => ?_)
  refine vx_catch hown [] ⟨0, 10, 13, 21⟩ [⟨0, 10, 17, 13⟩] (hTab.trans rfl) (fun z hz => nomatch hz) rfl (by decide) (htT _ m_cl_L_21) (hTB.use (n_ca _ (by decide))) hce hcv hcl ?_
  refine lv_astore (lv' := [(4, .ref q9), (0, .ref x), (1, .int p0), (2, .int p1), (3, .ref qo)]) hx hb dL_shareIn_13 hl (by decide) rfl (fun ls hl => ?_)
  refine lv_iconst (v := 1) hx hb dL_shareIn_15 (by decide) ?_
  exact W.iret (v := 1) hx hb hr (fun t ht hW => ⟨⟨1, (S, fo), rfl, ⟨rfl, rfl, rfl⟩, by rw [ht]; exact hP, va_K.moved hW.alike hK, hD⟩, hS.F ht⟩) hS.2.2 dL_shareIn_16

set_option maxRecDepth 100000 in
set_option maxHeartbeats 4000000 in
theorem w_hold_t (l : Launch) (hst : l.stackTraces = false) (D : va_G) (cA : Nat → ClassId) (sz : Nat) (S : Pool) (x qo : Nat) (fo : Nat → Int64) (ho : isO S x 5) (p0 : Int32) (h1 : kOut p0 0 1000 = 1) : Met l yL_hold (Cond.codeWith yL_hold cL_hold 4 (some .int) [(0, 9, 12, 13)] :: TT) ({ frames := 7, cells := 1, slots := 6, locals := 104 }) (va_Pc [.ref x, .int p0, .ref qo] (kPreX D cA (PW cA S ++ [oJ cA qo fo]) sz)) (va_Qi (fun (r_ : Int32) (x_ : Pool × (Nat → Int64)) => r_ = 1 ∧ x_.1 = S ∧ x_.2 = fo) (fun x_ => kB D cA (va_A (PW cA S ++ [oJ cA qo fo]) sz) (PW cA x_.1 ++ [oJ cA qo x_.2])) (va_A (PW cA S ++ [oJ cA qo fo]) sz)) 1 6 (va_A (PW cA S ++ [oJ cA qo fo]) sz) := by
  refine kt_ofWH (cc := cL_hold) (maxL := 4) (ret := (some .int)) (by decide) rfl ?_
  intro p e s m args below meth c s₁ B hml hTab hv
  obtain ⟨rfl, ⟨hsz, hP, hK, hD0, hTB⟩, hTX⟩ := hv
  have hx := B.exec
  have hb := B.bytes
  have hr := B.returns
  have hts := atoms_spec (ws := Cond.codeWith yL_hold cL_hold 4 (some .int) [(0, 9, 12, 13)] :: TT) B.pre
  have htT : ∀ w ∈ TT, w.before _ s = true := fun w h => hts w (List.mem_cons_of_mem _ h)
  have hown : s.vm.findClass RL = some m.cls := findClass_of_methodNamed B.named
  have hlocks := B.notSynchronized
  subst hsz
  have hD := hD0.self (sz := s.heap.size)
  generalize hAe : va_A (PW cA S ++ [oJ cA qo fo]) s.heap.size = A at hD hTX ⊢
  have hA : ∀ q : Nat, s.heap.size ≤ q → A q := fun q h => by rw [← hAe]; exact Or.inr h
  have hS : va_S A s.heap s.heap [] := va_S.rf
  have hl := lv_entry ([.ref x, .int p0, .ref qo]) (n := 4) (Nat.le_of_ble_eq_true rfl)
  rw [lg_entry_eq]
  generalize (lg_sl ([.ref x, .int p0, .ref qo]) ++ List.replicate (4 - (lg_sl ([.ref x, .int p0, .ref qo])).length) Slot.unset).toArray = ls at hl ⊢
  have hl : lv_has ls 4 [(0, .ref x), (1, .int p0), (2, .ref qo)] := hl
  refine lv_aload_n hx hb dL_hold_0 rfl (lv_at hl 2 rfl) ?_
  refine lv_iconst (v := 0) hx hb dL_hold_1 (by decide) ?_
  refine lv_aload_n hx hb dL_hold_2 rfl (lv_at hl 0 rfl) ?_
  refine lv_iload_n hx hb dL_hold_3 rfl (lv_at hl 1 rfl) ?_
  refine kj_t (List.Perm.refl _) (vx_runV (As := [.int p0]) (rest := [.int 0, .ref qo]) ⟨hx, hb, hml, hown, htT⟩ (c_hold_t l hst D cA _ S x ho p0 h1) (cwV 1 htT (kg_V m_ml_L_45 m_im_X5_hold m_sl_X5_hold m_in_X5 m_cd_X5_hold) rfl rfl rfl (by decide +kernel) ⟨Nat.le_of_ble_eq_true rfl, Nat.le_of_ble_eq_true rfl⟩) (kj_VX (List.Perm.refl _) hK hP hD hTB hTX hS hA (kj_rc (List.Perm.refl _) hK hP ho (Nat.le_of_ble_eq_true rfl) rfl)) rfl rfl hl.1 rfl (lv_room (Nat.le_of_ble_eq_true rfl)) dL_hold_4 ⟨Nat.le_of_ble_eq_true rfl, Nat.le_of_ble_eq_true rfl⟩) hP hD hS hA (fun ce q9 H locs hP hD hS hce hcv hcl => ?_)
  refine vx_catch hown [] ⟨0, 9, 12, 13⟩ [] (hTab.trans rfl) (fun z hz => nomatch hz) rfl (by decide) (htT _ m_cl_L_13) (hTB.use (n_ca _ (by decide))) hce hcv hcl ?_
  refine lv_astore_n (lv' := [(3, .ref q9), (0, .ref x), (1, .int p0), (2, .ref qo)]) hx hb dL_hold_12 rfl hl (by decide) rfl (fun ls hl => ?_)
  refine lv_iconst (v := 1) hx hb dL_hold_13 (by decide) ?_
  exact W.iret (v := 1) hx hb hr (fun t ht hW => ⟨⟨1, (S, fo), rfl, ⟨rfl, rfl, rfl⟩, by rw [ht]; exact hP, va_K.moved hW.alike hK, hD⟩, hS.F ht⟩) hS.2.2 dL_hold_14

set_option maxRecDepth 100000 in
set_option maxHeartbeats 4000000 in
theorem w_goOn_t (l : Launch) (hst : l.stackTraces = false) (D : va_G) (cA : Nat → ClassId) (sz : Nat) (S : Pool) (x qo : Nat) (fo : Nat → Int64) (ho : isO S x 5) (p0 : Int32) (h1 : kOut p0 1 100 = 1) : Met l yL_goOn (Cond.codeWith yL_goOn cL_goOn 4 (some .int) [(0, 9, 12, 13)] :: TT) ({ frames := 7, cells := 1, slots := 6, locals := 103 }) (va_Pc [.ref x, .int p0, .ref qo] (kPreX D cA (PW cA S ++ [oJ cA qo fo]) sz)) (va_Qi (fun (r_ : Int32) (x_ : Pool × (Nat → Int64)) => r_ = 1 ∧ x_.1 = S ∧ x_.2 = fo) (fun x_ => kB D cA (va_A (PW cA S ++ [oJ cA qo fo]) sz) (PW cA x_.1 ++ [oJ cA qo x_.2])) (va_A (PW cA S ++ [oJ cA qo fo]) sz)) 1 6 (va_A (PW cA S ++ [oJ cA qo fo]) sz) := by
  refine kt_ofWH (cc := cL_goOn) (maxL := 4) (ret := (some .int)) (by decide) rfl ?_
  intro p e s m args below meth c s₁ B hml hTab hv
  obtain ⟨rfl, ⟨hsz, hP, hK, hD0, hTB⟩, hTX⟩ := hv
  have hx := B.exec
  have hb := B.bytes
  have hr := B.returns
  have hts := atoms_spec (ws := Cond.codeWith yL_goOn cL_goOn 4 (some .int) [(0, 9, 12, 13)] :: TT) B.pre
  have htT : ∀ w ∈ TT, w.before _ s = true := fun w h => hts w (List.mem_cons_of_mem _ h)
  have hown : s.vm.findClass RL = some m.cls := findClass_of_methodNamed B.named
  have hlocks := B.notSynchronized
  subst hsz
  have hD := hD0.self (sz := s.heap.size)
  generalize hAe : va_A (PW cA S ++ [oJ cA qo fo]) s.heap.size = A at hD hTX ⊢
  have hA : ∀ q : Nat, s.heap.size ≤ q → A q := fun q h => by rw [← hAe]; exact Or.inr h
  have hS : va_S A s.heap s.heap [] := va_S.rf
  have hl := lv_entry ([.ref x, .int p0, .ref qo]) (n := 4) (Nat.le_of_ble_eq_true rfl)
  rw [lg_entry_eq]
  generalize (lg_sl ([.ref x, .int p0, .ref qo]) ++ List.replicate (4 - (lg_sl ([.ref x, .int p0, .ref qo])).length) Slot.unset).toArray = ls at hl ⊢
  have hl : lv_has ls 4 [(0, .ref x), (1, .int p0), (2, .ref qo)] := hl
  refine lv_aload_n hx hb dL_goOn_0 rfl (lv_at hl 2 rfl) ?_
  refine lv_iconst (v := 0) hx hb dL_goOn_1 (by decide) ?_
  refine lv_aload_n hx hb dL_goOn_2 rfl (lv_at hl 0 rfl) ?_
  refine lv_iload_n hx hb dL_goOn_3 rfl (lv_at hl 1 rfl) ?_
  refine kj_t (List.Perm.refl _) (vx_runV (As := [.int p0]) (rest := [.int 0, .ref qo]) ⟨hx, hb, hml, hown, htT⟩ (c_goOn_t l hst D cA _ S x ho p0 h1) (cwV 1 htT (kg_V m_ml_L_49 m_im_X5_goOn m_sl_X5_goOn m_in_X5 m_cd_X5_goOn) rfl rfl rfl (by decide +kernel) ⟨Nat.le_of_ble_eq_true rfl, Nat.le_of_ble_eq_true rfl⟩) (kj_VX (List.Perm.refl _) hK hP hD hTB hTX hS hA (kj_rc (List.Perm.refl _) hK hP ho (Nat.le_of_ble_eq_true rfl) rfl)) rfl rfl hl.1 rfl (lv_room (Nat.le_of_ble_eq_true rfl)) dL_goOn_4 ⟨Nat.le_of_ble_eq_true rfl, Nat.le_of_ble_eq_true rfl⟩) hP hD hS hA (fun ce q9 H locs hP hD hS hce hcv hcl => ?_)
  refine vx_catch hown [] ⟨0, 9, 12, 13⟩ [] (hTab.trans rfl) (fun z hz => nomatch hz) rfl (by decide) (htT _ m_cl_L_13) (hTB.use (n_ca _ (by decide))) hce hcv hcl ?_
  refine lv_astore_n (lv' := [(3, .ref q9), (0, .ref x), (1, .int p0), (2, .ref qo)]) hx hb dL_goOn_12 rfl hl (by decide) rfl (fun ls hl => ?_)
  refine lv_iconst (v := 1) hx hb dL_goOn_13 (by decide) ?_
  exact W.iret (v := 1) hx hb hr (fun t ht hW => ⟨⟨1, (S, fo), rfl, ⟨rfl, rfl, rfl⟩, by rw [ht]; exact hP, va_K.moved hW.alike hK, hD⟩, hS.F ht⟩) hS.2.2 dL_goOn_14

set_option maxRecDepth 100000 in
set_option maxHeartbeats 4000000 in
theorem w_left_t (l : Launch) (hst : l.stackTraces = false) (D : va_G) (cA : Nat → ClassId) (sz : Nat) (S : Pool) (x qo : Nat) (fo : Nat → Int64) (ho : isO S x 5) (p0 : Int32) (h1 : kOut p0 0 2 = 1) : Met l yL_left (Cond.codeWith yL_left cL_left 4 (some .int) [(0, 9, 12, 21)] :: TT) ({ frames := 7, cells := 1, slots := 6, locals := 108 }) (va_Pc [.ref x, .int p0, .ref qo] (kPreX D cA (PW cA S ++ [oJ cA qo fo]) sz)) (va_Qi (fun (r_ : Int32) (x_ : Pool × (Nat → Int64)) => r_ = 1 ∧ x_.1 = S ∧ x_.2 = fo) (fun x_ => kB D cA (va_A (PW cA S ++ [oJ cA qo fo]) sz) (PW cA x_.1 ++ [oJ cA qo x_.2])) (va_A (PW cA S ++ [oJ cA qo fo]) sz)) 1 6 (va_A (PW cA S ++ [oJ cA qo fo]) sz) := by
  refine kt_ofWH (cc := cL_left) (maxL := 4) (ret := (some .int)) (by decide) rfl ?_
  intro p e s m args below meth c s₁ B hml hTab hv
  obtain ⟨rfl, ⟨hsz, hP, hK, hD0, hTB⟩, hTX⟩ := hv
  have hx := B.exec
  have hb := B.bytes
  have hr := B.returns
  have hts := atoms_spec (ws := Cond.codeWith yL_left cL_left 4 (some .int) [(0, 9, 12, 21)] :: TT) B.pre
  have htT : ∀ w ∈ TT, w.before _ s = true := fun w h => hts w (List.mem_cons_of_mem _ h)
  have hown : s.vm.findClass RL = some m.cls := findClass_of_methodNamed B.named
  have hlocks := B.notSynchronized
  subst hsz
  have hD := hD0.self (sz := s.heap.size)
  generalize hAe : va_A (PW cA S ++ [oJ cA qo fo]) s.heap.size = A at hD hTX ⊢
  have hA : ∀ q : Nat, s.heap.size ≤ q → A q := fun q h => by rw [← hAe]; exact Or.inr h
  have hS : va_S A s.heap s.heap [] := va_S.rf
  have hl := lv_entry ([.ref x, .int p0, .ref qo]) (n := 4) (Nat.le_of_ble_eq_true rfl)
  rw [lg_entry_eq]
  generalize (lg_sl ([.ref x, .int p0, .ref qo]) ++ List.replicate (4 - (lg_sl ([.ref x, .int p0, .ref qo])).length) Slot.unset).toArray = ls at hl ⊢
  have hl : lv_has ls 4 [(0, .ref x), (1, .int p0), (2, .ref qo)] := hl
  refine lv_aload_n hx hb dL_left_0 rfl (lv_at hl 2 rfl) ?_
  refine lv_iconst (v := 0) hx hb dL_left_1 (by decide) ?_
  refine lv_aload_n hx hb dL_left_2 rfl (lv_at hl 0 rfl) ?_
  refine lv_iload_n hx hb dL_left_3 rfl (lv_at hl 1 rfl) ?_
  refine kj_t (List.Perm.refl _) (vx_runV (As := [.int p0]) (rest := [.int 0, .ref qo]) ⟨hx, hb, hml, hown, htT⟩ (c_left_t l hst D cA _ S x ho p0 h1) (cwV 1 htT (kg_V m_ml_L_58 m_im_X5_left m_sl_X5_left m_in_X5 m_cd_X5_left) rfl rfl rfl (by decide +kernel) ⟨Nat.le_of_ble_eq_true rfl, Nat.le_of_ble_eq_true rfl⟩) (kj_VX (List.Perm.refl _) hK hP hD hTB hTX hS hA (kj_rc (List.Perm.refl _) hK hP ho (Nat.le_of_ble_eq_true rfl) rfl)) rfl rfl hl.1 rfl (lv_room (Nat.le_of_ble_eq_true rfl)) dL_left_4 ⟨Nat.le_of_ble_eq_true rfl, Nat.le_of_ble_eq_true rfl⟩) hP hD hS hA (fun ce q9 H locs hP hD hS hce hcv hcl => ?_)
  refine vx_catch hown [] ⟨0, 9, 12, 21⟩ [] (hTab.trans rfl) (fun z hz => nomatch hz) rfl (by decide) (htT _ m_cl_L_21) (hTB.use (n_ca _ (by decide))) hce hcv hcl ?_
  refine lv_astore_n (lv' := [(3, .ref q9), (0, .ref x), (1, .int p0), (2, .ref qo)]) hx hb dL_left_12 rfl hl (by decide) rfl (fun ls hl => ?_)
  refine lv_iconst (v := 1) hx hb dL_left_13 (by decide) ?_
  exact W.iret (v := 1) hx hb hr (fun t ht hW => ⟨⟨1, (S, fo), rfl, ⟨rfl, rfl, rfl⟩, by rw [ht]; exact hP, va_K.moved hW.alike hK, hD⟩, hS.F ht⟩) hS.2.2 dL_left_14

set_option maxRecDepth 100000 in
set_option maxHeartbeats 4000000 in
theorem w_bucket_t1 (l : Launch) (hst : l.stackTraces = false) (D : va_G) (cA : Nat → ClassId) (sz : Nat) (S : Pool) (x qo : Nat) (fo : Nat → Int64) (ho : isO S x 5) (p0 p1 : Int32) (h1 : kOut p0 0 999 = 1) : Met l yL_bucket (Cond.codeWith yL_bucket cL_bucket 5 (some .int) [(0, 10, 13, 13)] :: TT) ({ frames := 7, cells := 1, slots := 6, locals := 104 }) (va_Pc [.ref x, .int p0, .int p1, .ref qo] (kPreX D cA (PW cA S ++ [oJ cA qo fo]) sz)) (va_Qi (fun (r_ : Int32) (x_ : Pool × (Nat → Int64)) => r_ = 1 ∧ x_.1 = S ∧ x_.2 = fo) (fun x_ => kB D cA (va_A (PW cA S ++ [oJ cA qo fo]) sz) (PW cA x_.1 ++ [oJ cA qo x_.2])) (va_A (PW cA S ++ [oJ cA qo fo]) sz)) 1 6 (va_A (PW cA S ++ [oJ cA qo fo]) sz) := by
  refine kt_ofWH (cc := cL_bucket) (maxL := 5) (ret := (some .int)) (by decide) rfl ?_
  intro p e s m args below meth c s₁ B hml hTab hv
  obtain ⟨rfl, ⟨hsz, hP, hK, hD0, hTB⟩, hTX⟩ := hv
  have hx := B.exec
  have hb := B.bytes
  have hr := B.returns
  have hts := atoms_spec (ws := Cond.codeWith yL_bucket cL_bucket 5 (some .int) [(0, 10, 13, 13)] :: TT) B.pre
  have htT : ∀ w ∈ TT, w.before _ s = true := fun w h => hts w (List.mem_cons_of_mem _ h)
  have hown : s.vm.findClass RL = some m.cls := findClass_of_methodNamed B.named
  have hlocks := B.notSynchronized
  subst hsz
  have hD := hD0.self (sz := s.heap.size)
  generalize hAe : va_A (PW cA S ++ [oJ cA qo fo]) s.heap.size = A at hD hTX ⊢
  have hA : ∀ q : Nat, s.heap.size ≤ q → A q := fun q h => by rw [← hAe]; exact Or.inr h
  have hS : va_S A s.heap s.heap [] := va_S.rf
  have hl := lv_entry ([.ref x, .int p0, .int p1, .ref qo]) (n := 5) (Nat.le_of_ble_eq_true rfl)
  rw [lg_entry_eq]
  generalize (lg_sl ([.ref x, .int p0, .int p1, .ref qo]) ++ List.replicate (5 - (lg_sl ([.ref x, .int p0, .int p1, .ref qo])).length) Slot.unset).toArray = ls at hl ⊢
  have hl : lv_has ls 5 [(0, .ref x), (1, .int p0), (2, .int p1), (3, .ref qo)] := hl
  refine lv_aload_n hx hb dL_bucket_0 rfl (lv_at hl 3 rfl) ?_
  refine lv_iconst (v := 0) hx hb dL_bucket_1 (by decide) ?_
  refine lv_aload_n hx hb dL_bucket_2 rfl (lv_at hl 0 rfl) ?_
  refine lv_iload_n hx hb dL_bucket_3 rfl (lv_at hl 1 rfl) ?_
  refine lv_iload_n hx hb dL_bucket_4 rfl (lv_at hl 2 rfl) ?_
  refine kj_t (List.Perm.refl _) (vx_runV (As := [.int p0, .int p1]) (rest := [.int 0, .ref qo]) ⟨hx, hb, hml, hown, htT⟩ (c_bucket_t1 l hst D cA _ S x ho p0 p1 h1) (cwV 2 htT (kg_V m_ml_L_61 m_im_X5_bucket m_sl_X5_bucket m_in_X5 m_cd_X5_bucket) rfl rfl rfl (by decide +kernel) ⟨Nat.le_of_ble_eq_true rfl, Nat.le_of_ble_eq_true rfl⟩) (kj_VX (List.Perm.refl _) hK hP hD hTB hTX hS hA (kj_rc (List.Perm.refl _) hK hP ho (Nat.le_of_ble_eq_true rfl) rfl)) rfl rfl hl.1 rfl (lv_room (Nat.le_of_ble_eq_true rfl)) dL_bucket_5 ⟨Nat.le_of_ble_eq_true rfl, Nat.le_of_ble_eq_true rfl⟩) hP hD hS hA (fun ce q9 H locs hP hD hS hce hcv hcl => ?_)
  refine vx_catch hown [] ⟨0, 10, 13, 13⟩ [] (hTab.trans rfl) (fun z hz => nomatch hz) rfl (by decide) (htT _ m_cl_L_13) (hTB.use (n_ca _ (by decide))) hce hcv hcl ?_
  refine lv_astore (lv' := [(4, .ref q9), (0, .ref x), (1, .int p0), (2, .int p1), (3, .ref qo)]) hx hb dL_bucket_13 hl (by decide) rfl (fun ls hl => ?_)
  refine lv_iconst (v := 1) hx hb dL_bucket_15 (by decide) ?_
  exact W.iret (v := 1) hx hb hr (fun t ht hW => ⟨⟨1, (S, fo), rfl, ⟨rfl, rfl, rfl⟩, by rw [ht]; exact hP, va_K.moved hW.alike hK, hD⟩, hS.F ht⟩) hS.2.2 dL_bucket_16

set_option maxRecDepth 100000 in
set_option maxHeartbeats 4000000 in
theorem w_bucket_t2 (l : Launch) (hst : l.stackTraces = false) (D : va_G) (cA : Nat → ClassId) (sz : Nat) (S : Pool) (x qo : Nat) (fo : Nat → Int64) (ho : isO S x 5) (p0 p1 : Int32) (h1 : kOut p0 0 999 = 0) (h2 : kOut p1 0 9999 = 1) : Met l yL_bucket (Cond.codeWith yL_bucket cL_bucket 5 (some .int) [(0, 10, 13, 13)] :: TT) ({ frames := 7, cells := 1, slots := 6, locals := 104 }) (va_Pc [.ref x, .int p0, .int p1, .ref qo] (kPreX D cA (PW cA S ++ [oJ cA qo fo]) sz)) (va_Qi (fun (r_ : Int32) (x_ : Pool × (Nat → Int64)) => r_ = 1 ∧ x_.1 = S ∧ x_.2 = fo) (fun x_ => kB D cA (va_A (PW cA S ++ [oJ cA qo fo]) sz) (PW cA x_.1 ++ [oJ cA qo x_.2])) (va_A (PW cA S ++ [oJ cA qo fo]) sz)) 1 6 (va_A (PW cA S ++ [oJ cA qo fo]) sz) := by
  refine kt_ofWH (cc := cL_bucket) (maxL := 5) (ret := (some .int)) (by decide) rfl ?_
  intro p e s m args below meth c s₁ B hml hTab hv
  obtain ⟨rfl, ⟨hsz, hP, hK, hD0, hTB⟩, hTX⟩ := hv
  have hx := B.exec
  have hb := B.bytes
  have hr := B.returns
  have hts := atoms_spec (ws := Cond.codeWith yL_bucket cL_bucket 5 (some .int) [(0, 10, 13, 13)] :: TT) B.pre
  have htT : ∀ w ∈ TT, w.before _ s = true := fun w h => hts w (List.mem_cons_of_mem _ h)
  have hown : s.vm.findClass RL = some m.cls := findClass_of_methodNamed B.named
  have hlocks := B.notSynchronized
  subst hsz
  have hD := hD0.self (sz := s.heap.size)
  generalize hAe : va_A (PW cA S ++ [oJ cA qo fo]) s.heap.size = A at hD hTX ⊢
  have hA : ∀ q : Nat, s.heap.size ≤ q → A q := fun q h => by rw [← hAe]; exact Or.inr h
  have hS : va_S A s.heap s.heap [] := va_S.rf
  have hl := lv_entry ([.ref x, .int p0, .int p1, .ref qo]) (n := 5) (Nat.le_of_ble_eq_true rfl)
  rw [lg_entry_eq]
  generalize (lg_sl ([.ref x, .int p0, .int p1, .ref qo]) ++ List.replicate (5 - (lg_sl ([.ref x, .int p0, .int p1, .ref qo])).length) Slot.unset).toArray = ls at hl ⊢
  have hl : lv_has ls 5 [(0, .ref x), (1, .int p0), (2, .int p1), (3, .ref qo)] := hl
  refine lv_aload_n hx hb dL_bucket_0 rfl (lv_at hl 3 rfl) ?_
  refine lv_iconst (v := 0) hx hb dL_bucket_1 (by decide) ?_
  refine lv_aload_n hx hb dL_bucket_2 rfl (lv_at hl 0 rfl) ?_
  refine lv_iload_n hx hb dL_bucket_3 rfl (lv_at hl 1 rfl) ?_
  refine lv_iload_n hx hb dL_bucket_4 rfl (lv_at hl 2 rfl) ?_
  refine kj_t (List.Perm.refl _) (vx_runV (As := [.int p0, .int p1]) (rest := [.int 0, .ref qo]) ⟨hx, hb, hml, hown, htT⟩ (c_bucket_t2 l hst D cA _ S x ho p0 p1 h1 h2) (cwV 2 htT (kg_V m_ml_L_61 m_im_X5_bucket m_sl_X5_bucket m_in_X5 m_cd_X5_bucket) rfl rfl rfl (by decide +kernel) ⟨Nat.le_of_ble_eq_true rfl, Nat.le_of_ble_eq_true rfl⟩) (kj_VX (List.Perm.refl _) hK hP hD hTB hTX hS hA (kj_rc (List.Perm.refl _) hK hP ho (Nat.le_of_ble_eq_true rfl) rfl)) rfl rfl hl.1 rfl (lv_room (Nat.le_of_ble_eq_true rfl)) dL_bucket_5 ⟨Nat.le_of_ble_eq_true rfl, Nat.le_of_ble_eq_true rfl⟩) hP hD hS hA (fun ce q9 H locs hP hD hS hce hcv hcl => ?_)
  refine vx_catch hown [] ⟨0, 10, 13, 13⟩ [] (hTab.trans rfl) (fun z hz => nomatch hz) rfl (by decide) (htT _ m_cl_L_13) (hTB.use (n_ca _ (by decide))) hce hcv hcl ?_
  refine lv_astore (lv' := [(4, .ref q9), (0, .ref x), (1, .int p0), (2, .int p1), (3, .ref qo)]) hx hb dL_bucket_13 hl (by decide) rfl (fun ls hl => ?_)
  refine lv_iconst (v := 1) hx hb dL_bucket_15 (by decide) ?_
  exact W.iret (v := 1) hx hb hr (fun t ht hW => ⟨⟨1, (S, fo), rfl, ⟨rfl, rfl, rfl⟩, by rw [ht]; exact hP, va_K.moved hW.alike hK, hD⟩, hS.F ht⟩) hS.2.2 dL_bucket_16

set_option maxRecDepth 100000 in
set_option maxHeartbeats 4000000 in
theorem w_act_t1 (l : Launch) (hst : l.stackTraces = false) (D : va_G) (cA : Nat → ClassId) (sz : Nat) (S : Pool) (x qo : Nat) (fo : Nat → Int64) (ho : isO S x 5) (p0 p1 : Int32) (h1 : kOut p0 0 9999 = 1) : Met l yL_act (Cond.codeWith yL_act cL_act 5 (some .int) [(0, 10, 13, 13)] :: TT) ({ frames := 7, cells := 1, slots := 6, locals := 109 }) (va_Pc [.ref x, .int p0, .int p1, .ref qo] (kPreX D cA (PW cA S ++ [oJ cA qo fo]) sz)) (va_Qi (fun (r_ : Int32) (x_ : Pool × (Nat → Int64)) => r_ = 1 ∧ x_.1 = S ∧ x_.2 = fo) (fun x_ => kB D cA (va_A (PW cA S ++ [oJ cA qo fo]) sz) (PW cA x_.1 ++ [oJ cA qo x_.2])) (va_A (PW cA S ++ [oJ cA qo fo]) sz)) 1 6 (va_A (PW cA S ++ [oJ cA qo fo]) sz) := by
  refine kt_ofWH (cc := cL_act) (maxL := 5) (ret := (some .int)) (by decide) rfl ?_
  intro p e s m args below meth c s₁ B hml hTab hv
  obtain ⟨rfl, ⟨hsz, hP, hK, hD0, hTB⟩, hTX⟩ := hv
  have hx := B.exec
  have hb := B.bytes
  have hr := B.returns
  have hts := atoms_spec (ws := Cond.codeWith yL_act cL_act 5 (some .int) [(0, 10, 13, 13)] :: TT) B.pre
  have htT : ∀ w ∈ TT, w.before _ s = true := fun w h => hts w (List.mem_cons_of_mem _ h)
  have hown : s.vm.findClass RL = some m.cls := findClass_of_methodNamed B.named
  have hlocks := B.notSynchronized
  subst hsz
  have hD := hD0.self (sz := s.heap.size)
  generalize hAe : va_A (PW cA S ++ [oJ cA qo fo]) s.heap.size = A at hD hTX ⊢
  have hA : ∀ q : Nat, s.heap.size ≤ q → A q := fun q h => by rw [← hAe]; exact Or.inr h
  have hS : va_S A s.heap s.heap [] := va_S.rf
  have hl := lv_entry ([.ref x, .int p0, .int p1, .ref qo]) (n := 5) (Nat.le_of_ble_eq_true rfl)
  rw [lg_entry_eq]
  generalize (lg_sl ([.ref x, .int p0, .int p1, .ref qo]) ++ List.replicate (5 - (lg_sl ([.ref x, .int p0, .int p1, .ref qo])).length) Slot.unset).toArray = ls at hl ⊢
  have hl : lv_has ls 5 [(0, .ref x), (1, .int p0), (2, .int p1), (3, .ref qo)] := hl
  refine lv_aload_n hx hb dL_act_0 rfl (lv_at hl 3 rfl) ?_
  refine lv_iconst (v := 0) hx hb dL_act_1 (by decide) ?_
  refine lv_aload_n hx hb dL_act_2 rfl (lv_at hl 0 rfl) ?_
  refine lv_iload_n hx hb dL_act_3 rfl (lv_at hl 1 rfl) ?_
  refine lv_iload_n hx hb dL_act_4 rfl (lv_at hl 2 rfl) ?_
  refine kj_t (List.Perm.refl _) (vx_runV (As := [.int p0, .int p1]) (rest := [.int 0, .ref qo]) ⟨hx, hb, hml, hown, htT⟩ (c_act_t1 l hst D cA _ S x ho p0 p1 h1) (cwV 2 htT (kg_V m_ml_L_76 m_im_X5_act m_sl_X5_act m_in_X5 m_cd_X5_act) rfl rfl rfl (by decide +kernel) ⟨Nat.le_of_ble_eq_true rfl, Nat.le_of_ble_eq_true rfl⟩) (kj_VX (List.Perm.refl _) hK hP hD hTB hTX hS hA (kj_rc (List.Perm.refl _) hK hP ho (Nat.le_of_ble_eq_true rfl) rfl)) rfl rfl hl.1 rfl (lv_room (Nat.le_of_ble_eq_true rfl)) dL_act_5 ⟨Nat.le_of_ble_eq_true rfl, Nat.le_of_ble_eq_true rfl⟩) hP hD hS hA (fun ce q9 H locs hP hD hS hce hcv hcl => ?_)
  refine vx_catch hown [] ⟨0, 10, 13, 13⟩ [] (hTab.trans rfl) (fun z hz => nomatch hz) rfl (by decide) (htT _ m_cl_L_13) (hTB.use (n_ca _ (by decide))) hce hcv hcl ?_
  refine lv_astore (lv' := [(4, .ref q9), (0, .ref x), (1, .int p0), (2, .int p1), (3, .ref qo)]) hx hb dL_act_13 hl (by decide) rfl (fun ls hl => ?_)
  refine lv_iconst (v := 1) hx hb dL_act_15 (by decide) ?_
  exact W.iret (v := 1) hx hb hr (fun t ht hW => ⟨⟨1, (S, fo), rfl, ⟨rfl, rfl, rfl⟩, by rw [ht]; exact hP, va_K.moved hW.alike hK, hD⟩, hS.F ht⟩) hS.2.2 dL_act_16

set_option maxRecDepth 100000 in
set_option maxHeartbeats 4000000 in
theorem w_act_t2 (l : Launch) (hst : l.stackTraces = false) (D : va_G) (cA : Nat → ClassId) (sz : Nat) (S : Pool) (x qo : Nat) (fo : Nat → Int64) (ho : isO S x 5) (p0 p1 : Int32) (h1 : kOut p0 0 9999 = 0) (h2 : kOut p1 0 100 = 1) : Met l yL_act (Cond.codeWith yL_act cL_act 5 (some .int) [(0, 10, 13, 13)] :: TT) ({ frames := 7, cells := 1, slots := 6, locals := 109 }) (va_Pc [.ref x, .int p0, .int p1, .ref qo] (kPreX D cA (PW cA S ++ [oJ cA qo fo]) sz)) (va_Qi (fun (r_ : Int32) (x_ : Pool × (Nat → Int64)) => r_ = 1 ∧ x_.1 = S ∧ x_.2 = fo) (fun x_ => kB D cA (va_A (PW cA S ++ [oJ cA qo fo]) sz) (PW cA x_.1 ++ [oJ cA qo x_.2])) (va_A (PW cA S ++ [oJ cA qo fo]) sz)) 1 6 (va_A (PW cA S ++ [oJ cA qo fo]) sz) := by
  refine kt_ofWH (cc := cL_act) (maxL := 5) (ret := (some .int)) (by decide) rfl ?_
  intro p e s m args below meth c s₁ B hml hTab hv
  obtain ⟨rfl, ⟨hsz, hP, hK, hD0, hTB⟩, hTX⟩ := hv
  have hx := B.exec
  have hb := B.bytes
  have hr := B.returns
  have hts := atoms_spec (ws := Cond.codeWith yL_act cL_act 5 (some .int) [(0, 10, 13, 13)] :: TT) B.pre
  have htT : ∀ w ∈ TT, w.before _ s = true := fun w h => hts w (List.mem_cons_of_mem _ h)
  have hown : s.vm.findClass RL = some m.cls := findClass_of_methodNamed B.named
  have hlocks := B.notSynchronized
  subst hsz
  have hD := hD0.self (sz := s.heap.size)
  generalize hAe : va_A (PW cA S ++ [oJ cA qo fo]) s.heap.size = A at hD hTX ⊢
  have hA : ∀ q : Nat, s.heap.size ≤ q → A q := fun q h => by rw [← hAe]; exact Or.inr h
  have hS : va_S A s.heap s.heap [] := va_S.rf
  have hl := lv_entry ([.ref x, .int p0, .int p1, .ref qo]) (n := 5) (Nat.le_of_ble_eq_true rfl)
  rw [lg_entry_eq]
  generalize (lg_sl ([.ref x, .int p0, .int p1, .ref qo]) ++ List.replicate (5 - (lg_sl ([.ref x, .int p0, .int p1, .ref qo])).length) Slot.unset).toArray = ls at hl ⊢
  have hl : lv_has ls 5 [(0, .ref x), (1, .int p0), (2, .int p1), (3, .ref qo)] := hl
  refine lv_aload_n hx hb dL_act_0 rfl (lv_at hl 3 rfl) ?_
  refine lv_iconst (v := 0) hx hb dL_act_1 (by decide) ?_
  refine lv_aload_n hx hb dL_act_2 rfl (lv_at hl 0 rfl) ?_
  refine lv_iload_n hx hb dL_act_3 rfl (lv_at hl 1 rfl) ?_
  refine lv_iload_n hx hb dL_act_4 rfl (lv_at hl 2 rfl) ?_
  refine kj_t (List.Perm.refl _) (vx_runV (As := [.int p0, .int p1]) (rest := [.int 0, .ref qo]) ⟨hx, hb, hml, hown, htT⟩ (c_act_t2 l hst D cA _ S x ho p0 p1 h1 h2) (cwV 2 htT (kg_V m_ml_L_76 m_im_X5_act m_sl_X5_act m_in_X5 m_cd_X5_act) rfl rfl rfl (by decide +kernel) ⟨Nat.le_of_ble_eq_true rfl, Nat.le_of_ble_eq_true rfl⟩) (kj_VX (List.Perm.refl _) hK hP hD hTB hTX hS hA (kj_rc (List.Perm.refl _) hK hP ho (Nat.le_of_ble_eq_true rfl) rfl)) rfl rfl hl.1 rfl (lv_room (Nat.le_of_ble_eq_true rfl)) dL_act_5 ⟨Nat.le_of_ble_eq_true rfl, Nat.le_of_ble_eq_true rfl⟩) hP hD hS hA (fun ce q9 H locs hP hD hS hce hcv hcl => ?_)
  refine vx_catch hown [] ⟨0, 10, 13, 13⟩ [] (hTab.trans rfl) (fun z hz => nomatch hz) rfl (by decide) (htT _ m_cl_L_13) (hTB.use (n_ca _ (by decide))) hce hcv hcl ?_
  refine lv_astore (lv' := [(4, .ref q9), (0, .ref x), (1, .int p0), (2, .int p1), (3, .ref qo)]) hx hb dL_act_13 hl (by decide) rfl (fun ls hl => ?_)
  refine lv_iconst (v := 1) hx hb dL_act_15 (by decide) ?_
  exact W.iret (v := 1) hx hb hr (fun t ht hW => ⟨⟨1, (S, fo), rfl, ⟨rfl, rfl, rfl⟩, by rw [ht]; exact hP, va_K.moved hW.alike hK, hD⟩, hS.F ht⟩) hS.2.2 dL_act_16

set_option maxRecDepth 100000 in
set_option maxHeartbeats 4000000 in
theorem w_add_t1 (l : Launch) (hst : l.stackTraces = false) (D : va_G) (cA : Nat → ClassId) (sz : Nat) (S : Pool) (x qo : Nat) (fo : Nat → Int64) (ho : isO S x 5) (p0 p1 p2 : Int32) (h1 : kOut p0 0 498 = 1) : Met l yL_add (Cond.codeWith yL_add cL_add 6 (some .int) [(0, 12, 15, 13), (0, 12, 19, 15)] :: TT) ({ frames := 7, cells := 1, slots := 6, locals := 106 }) (va_Pc [.ref x, .int p0, .int p1, .int p2, .ref qo] (kPreX D cA (PW cA S ++ [oJ cA qo fo]) sz)) (va_Qi (fun (r_ : Int32) (x_ : Pool × (Nat → Int64)) => r_ = 1 ∧ x_.1 = S ∧ x_.2 = fo) (fun x_ => kB D cA (va_A (PW cA S ++ [oJ cA qo fo]) sz) (PW cA x_.1 ++ [oJ cA qo x_.2])) (va_A (PW cA S ++ [oJ cA qo fo]) sz)) 1 6 (va_A (PW cA S ++ [oJ cA qo fo]) sz) := by
  refine kt_ofWH (cc := cL_add) (maxL := 6) (ret := (some .int)) (by decide) rfl ?_
  intro p e s m args below meth c s₁ B hml hTab hv
  obtain ⟨rfl, ⟨hsz, hP, hK, hD0, hTB⟩, hTX⟩ := hv
  have hx := B.exec
  have hb := B.bytes
  have hr := B.returns
  have hts := atoms_spec (ws := Cond.codeWith yL_add cL_add 6 (some .int) [(0, 12, 15, 13), (0, 12, 19, 15)] :: TT) B.pre
  have htT : ∀ w ∈ TT, w.before _ s = true := fun w h => hts w (List.mem_cons_of_mem _ h)
  have hown : s.vm.findClass RL = some m.cls := findClass_of_methodNamed B.named
  have hlocks := B.notSynchronized
  subst hsz
  have hD := hD0.self (sz := s.heap.size)
  generalize hAe : va_A (PW cA S ++ [oJ cA qo fo]) s.heap.size = A at hD hTX ⊢
  have hA : ∀ q : Nat, s.heap.size ≤ q → A q := fun q h => by rw [← hAe]; exact Or.inr h
  have hS : va_S A s.heap s.heap [] := va_S.rf
  have hl := lv_entry ([.ref x, .int p0, .int p1, .int p2, .ref qo]) (n := 6) (Nat.le_of_ble_eq_true rfl)
  rw [lg_entry_eq]
  generalize (lg_sl ([.ref x, .int p0, .int p1, .int p2, .ref qo]) ++ List.replicate (6 - (lg_sl ([.ref x, .int p0, .int p1, .int p2, .ref qo])).length) Slot.unset).toArray = ls at hl ⊢
  have hl : lv_has ls 6 [(0, .ref x), (1, .int p0), (2, .int p1), (3, .int p2), (4, .ref qo)] := hl
  refine lv_aload hx hb dL_add_0 (lv_at hl 4 rfl) ?_
  refine lv_iconst (v := 0) hx hb dL_add_2 (by decide) ?_
  refine lv_aload_n hx hb dL_add_3 rfl (lv_at hl 0 rfl) ?_
  refine lv_iload_n hx hb dL_add_4 rfl (lv_at hl 1 rfl) ?_
  refine lv_iload_n hx hb dL_add_5 rfl (lv_at hl 2 rfl) ?_
  refine lv_iload_n hx hb dL_add_6 rfl (lv_at hl 3 rfl) ?_
  refine kj_t (List.Perm.refl _) (vx_runV (As := [.int p0, .int p1, .int p2]) (rest := [.int 0, .ref qo]) ⟨hx, hb, hml, hown, htT⟩ (c_add_t1 l hst D cA _ S x ho p0 p1 p2 h1) (cwV 3 htT (kg_V m_ml_L_7 m_im_X5_add m_sl_X5_add m_in_X5 m_cd_X5_add) rfl rfl rfl (by decide +kernel) ⟨Nat.le_of_ble_eq_true rfl, Nat.le_of_ble_eq_true rfl⟩) (kj_VX (List.Perm.refl _) hK hP hD hTB hTX hS hA (kj_rc (List.Perm.refl _) hK hP ho (Nat.le_of_ble_eq_true rfl) rfl)) rfl rfl hl.1 rfl (lv_room (Nat.le_of_ble_eq_true rfl)) dL_add_7 ⟨Nat.le_of_ble_eq_true rfl, Nat.le_of_ble_eq_true rfl⟩) hP hD hS hA (fun ce q9 H locs hP hD hS hce hcv hcl => ?_)
  refine vx_catch hown [] ⟨0, 12, 15, 13⟩ [⟨0, 12, 19, 15⟩] (hTab.trans rfl) (fun z hz => nomatch hz) rfl (by decide) (htT _ m_cl_L_13) (hTB.use (n_ca _ (by decide))) hce hcv hcl ?_
  refine lv_astore (lv' := [(5, .ref q9), (0, .ref x), (1, .int p0), (2, .int p1), (3, .int p2), (4, .ref qo)]) hx hb dL_add_15 hl (by decide) rfl (fun ls hl => ?_)
  refine lv_iconst (v := 1) hx hb dL_add_17 (by decide) ?_
  exact W.iret (v := 1) hx hb hr (fun t ht hW => ⟨⟨1, (S, fo), rfl, ⟨rfl, rfl, rfl⟩, by rw [ht]; exact hP, va_K.moved hW.alike hK, hD⟩, hS.F ht⟩) hS.2.2 dL_add_18

set_option maxRecDepth 100000 in
set_option maxHeartbeats 4000000 in
theorem w_add_t2 (l : Launch) (hst : l.stackTraces = false) (D : va_G) (cA : Nat → ClassId) (sz : Nat) (S : Pool) (x qo : Nat) (fo : Nat → Int64) (ho : isO S x 5) (p0 p1 p2 : Int32) (h1 : kOut p0 0 498 = 0) (h2 : kOut p1 2 4 = 1) : Met l yL_add (Cond.codeWith yL_add cL_add 6 (some .int) [(0, 12, 15, 13), (0, 12, 19, 15)] :: TT) ({ frames := 7, cells := 1, slots := 6, locals := 106 }) (va_Pc [.ref x, .int p0, .int p1, .int p2, .ref qo] (kPreX D cA (PW cA S ++ [oJ cA qo fo]) sz)) (va_Qi (fun (r_ : Int32) (x_ : Pool × (Nat → Int64)) => r_ = 1 ∧ x_.1 = S ∧ x_.2 = fo) (fun x_ => kB D cA (va_A (PW cA S ++ [oJ cA qo fo]) sz) (PW cA x_.1 ++ [oJ cA qo x_.2])) (va_A (PW cA S ++ [oJ cA qo fo]) sz)) 1 6 (va_A (PW cA S ++ [oJ cA qo fo]) sz) := by
  refine kt_ofWH (cc := cL_add) (maxL := 6) (ret := (some .int)) (by decide) rfl ?_
  intro p e s m args below meth c s₁ B hml hTab hv
  obtain ⟨rfl, ⟨hsz, hP, hK, hD0, hTB⟩, hTX⟩ := hv
  have hx := B.exec
  have hb := B.bytes
  have hr := B.returns
  have hts := atoms_spec (ws := Cond.codeWith yL_add cL_add 6 (some .int) [(0, 12, 15, 13), (0, 12, 19, 15)] :: TT) B.pre
  have htT : ∀ w ∈ TT, w.before _ s = true := fun w h => hts w (List.mem_cons_of_mem _ h)
  have hown : s.vm.findClass RL = some m.cls := findClass_of_methodNamed B.named
  have hlocks := B.notSynchronized
  subst hsz
  have hD := hD0.self (sz := s.heap.size)
  generalize hAe : va_A (PW cA S ++ [oJ cA qo fo]) s.heap.size = A at hD hTX ⊢
  have hA : ∀ q : Nat, s.heap.size ≤ q → A q := fun q h => by rw [← hAe]; exact Or.inr h
  have hS : va_S A s.heap s.heap [] := va_S.rf
  have hl := lv_entry ([.ref x, .int p0, .int p1, .int p2, .ref qo]) (n := 6) (Nat.le_of_ble_eq_true rfl)
  rw [lg_entry_eq]
  generalize (lg_sl ([.ref x, .int p0, .int p1, .int p2, .ref qo]) ++ List.replicate (6 - (lg_sl ([.ref x, .int p0, .int p1, .int p2, .ref qo])).length) Slot.unset).toArray = ls at hl ⊢
  have hl : lv_has ls 6 [(0, .ref x), (1, .int p0), (2, .int p1), (3, .int p2), (4, .ref qo)] := hl
  refine lv_aload hx hb dL_add_0 (lv_at hl 4 rfl) ?_
  refine lv_iconst (v := 0) hx hb dL_add_2 (by decide) ?_
  refine lv_aload_n hx hb dL_add_3 rfl (lv_at hl 0 rfl) ?_
  refine lv_iload_n hx hb dL_add_4 rfl (lv_at hl 1 rfl) ?_
  refine lv_iload_n hx hb dL_add_5 rfl (lv_at hl 2 rfl) ?_
  refine lv_iload_n hx hb dL_add_6 rfl (lv_at hl 3 rfl) ?_
  refine kj_t (List.Perm.refl _) (vx_runV (As := [.int p0, .int p1, .int p2]) (rest := [.int 0, .ref qo]) ⟨hx, hb, hml, hown, htT⟩ (c_add_t2 l hst D cA _ S x ho p0 p1 p2 h1 h2) (cwV 3 htT (kg_V m_ml_L_7 m_im_X5_add m_sl_X5_add m_in_X5 m_cd_X5_add) rfl rfl rfl (by decide +kernel) ⟨Nat.le_of_ble_eq_true rfl, Nat.le_of_ble_eq_true rfl⟩) (kj_VX (List.Perm.refl _) hK hP hD hTB hTX hS hA (kj_rc (List.Perm.refl _) hK hP ho (Nat.le_of_ble_eq_true rfl) rfl)) rfl rfl hl.1 rfl (lv_room (Nat.le_of_ble_eq_true rfl)) dL_add_7 ⟨Nat.le_of_ble_eq_true rfl, Nat.le_of_ble_eq_true rfl⟩) hP hD hS hA (fun ce q9 H locs hP hD hS hce hcv hcl => ?_)
  refine vx_catch hown [] ⟨0, 12, 15, 13⟩ [⟨0, 12, 19, 15⟩] (hTab.trans rfl) (fun z hz => nomatch hz) rfl (by decide) (htT _ m_cl_L_13) (hTB.use (n_ca _ (by decide))) hce hcv hcl ?_
  refine lv_astore (lv' := [(5, .ref q9), (0, .ref x), (1, .int p0), (2, .int p1), (3, .int p2), (4, .ref qo)]) hx hb dL_add_15 hl (by decide) rfl (fun ls hl => ?_)
  refine lv_iconst (v := 1) hx hb dL_add_17 (by decide) ?_
  exact W.iret (v := 1) hx hb hr (fun t ht hW => ⟨⟨1, (S, fo), rfl, ⟨rfl, rfl, rfl⟩, by rw [ht]; exact hP, va_K.moved hW.alike hK, hD⟩, hS.F ht⟩) hS.2.2 dL_add_18

set_option maxRecDepth 100000 in
set_option maxHeartbeats 4000000 in
theorem w_hold (l : Launch) (hst : l.stackTraces = false) (D : va_G) (cA : Nat → ClassId) (sz : Nat) (S : Pool) (x qo : Nat) (fo : Nat → Int64) (ho : isO S x 5) (p0 : Int32) (h1 : kOut p0 0 1000 = 0) : Met l yL_hold (Cond.codeWith yL_hold cL_hold 4 (some .int) [(0, 9, 12, 13)] :: TT) ({ frames := 2, cells := 0, slots := 0, locals := 44 }) (va_Pc [.ref x, .int p0, .ref qo] (kPreX D cA (PW cA S ++ [oJ cA qo fo]) sz)) (va_Qi (fun (r_ : Int32) (x_ : Pool × (Nat → Int64)) => r_ = 0 ∧ x_.1 = (pI S x 4 p0) ∧ x_.2 = vp_updL fo 0 (gI S x 4).toInt64) (fun x_ => kB D cA (va_A (PW cA S ++ [oJ cA qo fo]) sz) (PW cA x_.1 ++ [oJ cA qo x_.2])) (va_A (PW cA S ++ [oJ cA qo fo]) sz)) 0 0 (va_A (PW cA S ++ [oJ cA qo fo]) sz) := by
  refine kt_ofWH (cc := cL_hold) (maxL := 4) (ret := (some .int)) (by decide) rfl ?_
  intro p e s m args below meth c s₁ B hml hTab hv
  obtain ⟨rfl, ⟨hsz, hP, hK, hD0, hTB⟩, hTX⟩ := hv
  have hx := B.exec
  have hb := B.bytes
  have hr := B.returns
  have hts := atoms_spec (ws := Cond.codeWith yL_hold cL_hold 4 (some .int) [(0, 9, 12, 13)] :: TT) B.pre
  have htT : ∀ w ∈ TT, w.before _ s = true := fun w h => hts w (List.mem_cons_of_mem _ h)
  have hown : s.vm.findClass RL = some m.cls := findClass_of_methodNamed B.named
  have hlocks := B.notSynchronized
  subst hsz
  have hD := hD0.self (sz := s.heap.size)
  generalize hAe : va_A (PW cA S ++ [oJ cA qo fo]) s.heap.size = A at hD hTX ⊢
  have hA : ∀ q : Nat, s.heap.size ≤ q → A q := fun q h => by rw [← hAe]; exact Or.inr h
  have hS : va_S A s.heap s.heap [] := va_S.rf
  have hl := lv_entry ([.ref x, .int p0, .ref qo]) (n := 4) (Nat.le_of_ble_eq_true rfl)
  rw [lg_entry_eq]
  generalize (lg_sl ([.ref x, .int p0, .ref qo]) ++ List.replicate (4 - (lg_sl ([.ref x, .int p0, .ref qo])).length) Slot.unset).toArray = ls at hl ⊢
  have hl : lv_has ls 4 [(0, .ref x), (1, .int p0), (2, .ref qo)] := hl
  refine lv_aload_n hx hb dL_hold_0 rfl (lv_at hl 2 rfl) ?_
  refine lv_iconst (v := 0) hx hb dL_hold_1 (by decide) ?_
  refine lv_aload_n hx hb dL_hold_2 rfl (lv_at hl 0 rfl) ?_
  refine lv_iload_n hx hb dL_hold_3 rfl (lv_at hl 1 rfl) ?_
  refine kj_i (List.Perm.refl _) (va_runV (As := [.int p0]) (rest := [.int 0, .ref qo]) ⟨hx, hb, hml, hown, htT⟩ (c_hold l D cA _ S x ho p0 h1) (cwV 1 htT (kg_V m_ml_L_45 m_im_X5_hold m_sl_X5_hold m_in_X5 m_cd_X5_hold) rfl rfl rfl (by decide +kernel) ⟨Nat.le_of_ble_eq_true rfl, Nat.le_of_ble_eq_true rfl⟩) (kj_V (List.Perm.refl _) hK hP hD hTB (kj_rc (List.Perm.refl _) hK hP ho (Nat.le_of_ble_eq_true rfl) rfl)) rfl rfl hl.1 rfl (lv_room (Nat.le_of_ble_eq_true rfl)) dL_hold_4 ⟨Nat.le_of_ble_eq_true rfl, Nat.le_of_ble_eq_true rfl⟩) hP hD hS hA (fun r_1 x_1 H locs hq_1 hP hD hS => ?_)
  rw [hq_1.1]
  rw [hq_1.2] at hP hD
  refine lv_i2l (v := (gI S x 4).toInt64) hx hb dL_hold_7 rfl ?_
  refine kw_last hx hb hK hP hD hS dL_hold_8 (fun H locs hP hD hS => ?_)
  refine lv_goto (tgt := 15) hx hb dL_hold_9 (by decide) ?_
  refine lv_iconst (v := 0) hx hb dL_hold_15 (by decide) ?_
  exact W.iret (v := 0) hx hb hr (fun t ht hW => ⟨⟨0, ((pI S x 4 p0), vp_updL fo 0 ((gI S x 4).toInt64)), rfl, ⟨rfl, rfl, rfl⟩, by rw [ht]; exact hP, va_K.moved hW.alike hK, hD⟩, hS.F ht⟩) hS.2.2 dL_hold_16

set_option maxRecDepth 100000 in
set_option maxHeartbeats 4000000 in
theorem w_goOn (l : Launch) (hst : l.stackTraces = false) (D : va_G) (cA : Nat → ClassId) (sz : Nat) (S : Pool) (x qo : Nat) (fo : Nat → Int64) (ho : isO S x 5) (p0 : Int32) (h1 : kOut p0 1 100 = 0) : Met l yL_goOn (Cond.codeWith yL_goOn cL_goOn 4 (some .int) [(0, 9, 12, 13)] :: TT) ({ frames := 2, cells := 0, slots := 0, locals := 43 }) (va_Pc [.ref x, .int p0, .ref qo] (kPreX D cA (PW cA S ++ [oJ cA qo fo]) sz)) (va_Qi (fun (r_ : Int32) (x_ : Pool × (Nat → Int64)) => r_ = 0 ∧ x_.1 = (pI S x 5 (gI S x 5 + p0)) ∧ x_.2 = vp_updL fo 0 (gI S x 5 + p0).toInt64) (fun x_ => kB D cA (va_A (PW cA S ++ [oJ cA qo fo]) sz) (PW cA x_.1 ++ [oJ cA qo x_.2])) (va_A (PW cA S ++ [oJ cA qo fo]) sz)) 0 0 (va_A (PW cA S ++ [oJ cA qo fo]) sz) := by
  refine kt_ofWH (cc := cL_goOn) (maxL := 4) (ret := (some .int)) (by decide) rfl ?_
  intro p e s m args below meth c s₁ B hml hTab hv
  obtain ⟨rfl, ⟨hsz, hP, hK, hD0, hTB⟩, hTX⟩ := hv
  have hx := B.exec
  have hb := B.bytes
  have hr := B.returns
  have hts := atoms_spec (ws := Cond.codeWith yL_goOn cL_goOn 4 (some .int) [(0, 9, 12, 13)] :: TT) B.pre
  have htT : ∀ w ∈ TT, w.before _ s = true := fun w h => hts w (List.mem_cons_of_mem _ h)
  have hown : s.vm.findClass RL = some m.cls := findClass_of_methodNamed B.named
  have hlocks := B.notSynchronized
  subst hsz
  have hD := hD0.self (sz := s.heap.size)
  generalize hAe : va_A (PW cA S ++ [oJ cA qo fo]) s.heap.size = A at hD hTX ⊢
  have hA : ∀ q : Nat, s.heap.size ≤ q → A q := fun q h => by rw [← hAe]; exact Or.inr h
  have hS : va_S A s.heap s.heap [] := va_S.rf
  have hl := lv_entry ([.ref x, .int p0, .ref qo]) (n := 4) (Nat.le_of_ble_eq_true rfl)
  rw [lg_entry_eq]
  generalize (lg_sl ([.ref x, .int p0, .ref qo]) ++ List.replicate (4 - (lg_sl ([.ref x, .int p0, .ref qo])).length) Slot.unset).toArray = ls at hl ⊢
  have hl : lv_has ls 4 [(0, .ref x), (1, .int p0), (2, .ref qo)] := hl
  refine lv_aload_n hx hb dL_goOn_0 rfl (lv_at hl 2 rfl) ?_
  refine lv_iconst (v := 0) hx hb dL_goOn_1 (by decide) ?_
  refine lv_aload_n hx hb dL_goOn_2 rfl (lv_at hl 0 rfl) ?_
  refine lv_iload_n hx hb dL_goOn_3 rfl (lv_at hl 1 rfl) ?_
  refine kj_i (List.Perm.refl _) (va_runV (As := [.int p0]) (rest := [.int 0, .ref qo]) ⟨hx, hb, hml, hown, htT⟩ (c_goOn l D cA _ S x ho p0 h1) (cwV 1 htT (kg_V m_ml_L_49 m_im_X5_goOn m_sl_X5_goOn m_in_X5 m_cd_X5_goOn) rfl rfl rfl (by decide +kernel) ⟨Nat.le_of_ble_eq_true rfl, Nat.le_of_ble_eq_true rfl⟩) (kj_V (List.Perm.refl _) hK hP hD hTB (kj_rc (List.Perm.refl _) hK hP ho (Nat.le_of_ble_eq_true rfl) rfl)) rfl rfl hl.1 rfl (lv_room (Nat.le_of_ble_eq_true rfl)) dL_goOn_4 ⟨Nat.le_of_ble_eq_true rfl, Nat.le_of_ble_eq_true rfl⟩) hP hD hS hA (fun r_1 x_1 H locs hq_1 hP hD hS => ?_)
  rw [hq_1.1]
  rw [hq_1.2] at hP hD
  refine lv_i2l (v := (gI S x 5 + p0).toInt64) hx hb dL_goOn_7 rfl ?_
  refine kw_last hx hb hK hP hD hS dL_goOn_8 (fun H locs hP hD hS => ?_)
  refine lv_goto (tgt := 15) hx hb dL_goOn_9 (by decide) ?_
  refine lv_iconst (v := 0) hx hb dL_goOn_15 (by decide) ?_
  exact W.iret (v := 0) hx hb hr (fun t ht hW => ⟨⟨0, ((pI S x 5 (gI S x 5 + p0)), vp_updL fo 0 ((gI S x 5 + p0).toInt64)), rfl, ⟨rfl, rfl, rfl⟩, by rw [ht]; exact hP, va_K.moved hW.alike hK, hD⟩, hS.F ht⟩) hS.2.2 dL_goOn_16

set_option maxRecDepth 100000 in
set_option maxHeartbeats 4000000 in
theorem w_left_0 (l : Launch) (hst : l.stackTraces = false) (D : va_G) (cA : Nat → ClassId) (sz : Nat) (S : Pool) (x qo : Nat) (fo : Nat → Int64) (ho : isO S x 5) (ar : Nat) (hq0 : gQ S x 0 = some ar) (har : isA S ar 22 8) (p0 : Int32) (hn : ∀ j, j < 8 → gP S ar j = none) (h1 : kOut p0 0 2 = 0) : Met l yL_left (Cond.codeWith yL_left cL_left 4 (some .int) [(0, 9, 12, 21)] :: TT) ({ frames := 2, cells := 0, slots := 0, locals := 48 }) (va_Pc [.ref x, .int p0, .ref qo] (kPreX D cA (PW cA S ++ [oJ cA qo fo]) sz)) (va_Qi (fun (r_ : Int32) (x_ : Pool × (Nat → Int64)) => r_ = 0 ∧ x_.1 = S ∧ x_.2 = vp_updL fo 0 ((1000 : Int32)).toInt64) (fun x_ => kB D cA (va_A (PW cA S ++ [oJ cA qo fo]) sz) (PW cA x_.1 ++ [oJ cA qo x_.2])) (va_A (PW cA S ++ [oJ cA qo fo]) sz)) 0 0 (va_A (PW cA S ++ [oJ cA qo fo]) sz) := by
  refine kt_ofWH (cc := cL_left) (maxL := 4) (ret := (some .int)) (by decide) rfl ?_
  intro p e s m args below meth c s₁ B hml hTab hv
  obtain ⟨rfl, ⟨hsz, hP, hK, hD0, hTB⟩, hTX⟩ := hv
  have hx := B.exec
  have hb := B.bytes
  have hr := B.returns
  have hts := atoms_spec (ws := Cond.codeWith yL_left cL_left 4 (some .int) [(0, 9, 12, 21)] :: TT) B.pre
  have htT : ∀ w ∈ TT, w.before _ s = true := fun w h => hts w (List.mem_cons_of_mem _ h)
  have hown : s.vm.findClass RL = some m.cls := findClass_of_methodNamed B.named
  have hlocks := B.notSynchronized
  subst hsz
  have hD := hD0.self (sz := s.heap.size)
  generalize hAe : va_A (PW cA S ++ [oJ cA qo fo]) s.heap.size = A at hD hTX ⊢
  have hA : ∀ q : Nat, s.heap.size ≤ q → A q := fun q h => by rw [← hAe]; exact Or.inr h
  have hS : va_S A s.heap s.heap [] := va_S.rf
  have hl := lv_entry ([.ref x, .int p0, .ref qo]) (n := 4) (Nat.le_of_ble_eq_true rfl)
  rw [lg_entry_eq]
  generalize (lg_sl ([.ref x, .int p0, .ref qo]) ++ List.replicate (4 - (lg_sl ([.ref x, .int p0, .ref qo])).length) Slot.unset).toArray = ls at hl ⊢
  have hl : lv_has ls 4 [(0, .ref x), (1, .int p0), (2, .ref qo)] := hl
  refine lv_aload_n hx hb dL_left_0 rfl (lv_at hl 2 rfl) ?_
  refine lv_iconst (v := 0) hx hb dL_left_1 (by decide) ?_
  refine lv_aload_n hx hb dL_left_2 rfl (lv_at hl 0 rfl) ?_
  refine lv_iload_n hx hb dL_left_3 rfl (lv_at hl 1 rfl) ?_
  refine kj_i (List.Perm.refl _) (va_runV (As := [.int p0]) (rest := [.int 0, .ref qo]) ⟨hx, hb, hml, hown, htT⟩ (c_left_0 l D cA _ S x ho ar hq0 har hn p0 h1) (cwV 1 htT (kg_V m_ml_L_58 m_im_X5_left m_sl_X5_left m_in_X5 m_cd_X5_left) rfl rfl rfl (by decide +kernel) ⟨Nat.le_of_ble_eq_true rfl, Nat.le_of_ble_eq_true rfl⟩) (kj_V (List.Perm.refl _) hK hP hD hTB (kj_rc (List.Perm.refl _) hK hP ho (Nat.le_of_ble_eq_true rfl) rfl)) rfl rfl hl.1 rfl (lv_room (Nat.le_of_ble_eq_true rfl)) dL_left_4 ⟨Nat.le_of_ble_eq_true rfl, Nat.le_of_ble_eq_true rfl⟩) hP hD hS hA (fun r_1 x_1 H locs hq_1 hP hD hS => ?_)
  rw [hq_1.1]
  rw [hq_1.2] at hP hD
  refine lv_i2l (v := (1000 : Int32).toInt64) hx hb dL_left_7 rfl ?_
  refine kw_last hx hb hK hP hD hS dL_left_8 (fun H locs hP hD hS => ?_)
  refine lv_goto (tgt := 15) hx hb dL_left_9 (by decide) ?_
  refine lv_iconst (v := 0) hx hb dL_left_15 (by decide) ?_
  exact W.iret (v := 0) hx hb hr (fun t ht hW => ⟨⟨0, (S, vp_updL fo 0 ((1000 : Int32).toInt64)), rfl, ⟨rfl, rfl, rfl⟩, by rw [ht]; exact hP, va_K.moved hW.alike hK, hD⟩, hS.F ht⟩) hS.2.2 dL_left_16

set_option maxRecDepth 100000 in
set_option maxHeartbeats 4000000 in
theorem w_bucket (l : Launch) (hst : l.stackTraces = false) (D : va_G) (cA : Nat → ClassId) (sz : Nat) (S : Pool) (x qo : Nat) (fo : Nat → Int64) (ho : isO S x 5) (p0 p1 : Int32) (h1 : kOut p0 0 999 = 0) (h2 : kOut p1 0 9999 = 0) : Met l yL_bucket (Cond.codeWith yL_bucket cL_bucket 5 (some .int) [(0, 10, 13, 13)] :: TT) ({ frames := 2, cells := 0, slots := 0, locals := 45 }) (va_Pc [.ref x, .int p0, .int p1, .ref qo] (kPreX D cA (PW cA S ++ [oJ cA qo fo]) sz)) (va_Qi (fun (r_ : Int32) (x_ : Pool × (Nat → Int64)) => r_ = 0 ∧ x_.1 = S ∧ x_.2 = vp_updL fo 0 (kBkt p0 p1).toInt64) (fun x_ => kB D cA (va_A (PW cA S ++ [oJ cA qo fo]) sz) (PW cA x_.1 ++ [oJ cA qo x_.2])) (va_A (PW cA S ++ [oJ cA qo fo]) sz)) 0 0 (va_A (PW cA S ++ [oJ cA qo fo]) sz) := by
  refine kt_ofWH (cc := cL_bucket) (maxL := 5) (ret := (some .int)) (by decide) rfl ?_
  intro p e s m args below meth c s₁ B hml hTab hv
  obtain ⟨rfl, ⟨hsz, hP, hK, hD0, hTB⟩, hTX⟩ := hv
  have hx := B.exec
  have hb := B.bytes
  have hr := B.returns
  have hts := atoms_spec (ws := Cond.codeWith yL_bucket cL_bucket 5 (some .int) [(0, 10, 13, 13)] :: TT) B.pre
  have htT : ∀ w ∈ TT, w.before _ s = true := fun w h => hts w (List.mem_cons_of_mem _ h)
  have hown : s.vm.findClass RL = some m.cls := findClass_of_methodNamed B.named
  have hlocks := B.notSynchronized
  subst hsz
  have hD := hD0.self (sz := s.heap.size)
  generalize hAe : va_A (PW cA S ++ [oJ cA qo fo]) s.heap.size = A at hD hTX ⊢
  have hA : ∀ q : Nat, s.heap.size ≤ q → A q := fun q h => by rw [← hAe]; exact Or.inr h
  have hS : va_S A s.heap s.heap [] := va_S.rf
  have hl := lv_entry ([.ref x, .int p0, .int p1, .ref qo]) (n := 5) (Nat.le_of_ble_eq_true rfl)
  rw [lg_entry_eq]
  generalize (lg_sl ([.ref x, .int p0, .int p1, .ref qo]) ++ List.replicate (5 - (lg_sl ([.ref x, .int p0, .int p1, .ref qo])).length) Slot.unset).toArray = ls at hl ⊢
  have hl : lv_has ls 5 [(0, .ref x), (1, .int p0), (2, .int p1), (3, .ref qo)] := hl
  refine lv_aload_n hx hb dL_bucket_0 rfl (lv_at hl 3 rfl) ?_
  refine lv_iconst (v := 0) hx hb dL_bucket_1 (by decide) ?_
  refine lv_aload_n hx hb dL_bucket_2 rfl (lv_at hl 0 rfl) ?_
  refine lv_iload_n hx hb dL_bucket_3 rfl (lv_at hl 1 rfl) ?_
  refine lv_iload_n hx hb dL_bucket_4 rfl (lv_at hl 2 rfl) ?_
  refine kj_i (List.Perm.refl _) (va_runV (As := [.int p0, .int p1]) (rest := [.int 0, .ref qo]) ⟨hx, hb, hml, hown, htT⟩ (c_bucket l D cA _ S x ho p0 p1 h1 h2) (cwV 2 htT (kg_V m_ml_L_61 m_im_X5_bucket m_sl_X5_bucket m_in_X5 m_cd_X5_bucket) rfl rfl rfl (by decide +kernel) ⟨Nat.le_of_ble_eq_true rfl, Nat.le_of_ble_eq_true rfl⟩) (kj_V (List.Perm.refl _) hK hP hD hTB (kj_rc (List.Perm.refl _) hK hP ho (Nat.le_of_ble_eq_true rfl) rfl)) rfl rfl hl.1 rfl (lv_room (Nat.le_of_ble_eq_true rfl)) dL_bucket_5 ⟨Nat.le_of_ble_eq_true rfl, Nat.le_of_ble_eq_true rfl⟩) hP hD hS hA (fun r_1 x_1 H locs hq_1 hP hD hS => ?_)
  rw [hq_1.1]
  rw [hq_1.2] at hP hD
  refine lv_i2l (v := (kBkt p0 p1).toInt64) hx hb dL_bucket_8 rfl ?_
  refine kw_last hx hb hK hP hD hS dL_bucket_9 (fun H locs hP hD hS => ?_)
  refine lv_goto (tgt := 17) hx hb dL_bucket_10 (by decide) ?_
  refine lv_iconst (v := 0) hx hb dL_bucket_17 (by decide) ?_
  exact W.iret (v := 0) hx hb hr (fun t ht hW => ⟨⟨0, (S, vp_updL fo 0 ((kBkt p0 p1).toInt64)), rfl, ⟨rfl, rfl, rfl⟩, by rw [ht]; exact hP, va_K.moved hW.alike hK, hD⟩, hS.F ht⟩) hS.2.2 dL_bucket_18

set_option maxRecDepth 100000 in
set_option maxHeartbeats 4000000 in
theorem w_act_0 (l : Launch) (hst : l.stackTraces = false) (D : va_G) (cA : Nat → ClassId) (sz : Nat) (S : Pool) (x qo : Nat) (fo : Nat → Int64) (ho : isO S x 5) (ar : Nat) (hq0 : gQ S x 0 = some ar) (har : isA S ar 22 8) (p0 p1 : Int32) (hn : ∀ j, j < 8 → gP S ar j = none) (h1 : kOut p0 0 9999 = 0) (h2 : kOut p1 0 100 = 0) : Met l yL_act (Cond.codeWith yL_act cL_act 5 (some .int) [(0, 10, 13, 13)] :: TT) ({ frames := 2, cells := 0, slots := 0, locals := 49 }) (va_Pc [.ref x, .int p0, .int p1, .ref qo] (kPreX D cA (PW cA S ++ [oJ cA qo fo]) sz)) (va_Qi (fun (r_ : Int32) (x_ : Pool × (Nat → Int64)) => r_ = 0 ∧ x_.1 = S ∧ x_.2 = vp_updL fo 0 ((0 : Int32)).toInt64) (fun x_ => kB D cA (va_A (PW cA S ++ [oJ cA qo fo]) sz) (PW cA x_.1 ++ [oJ cA qo x_.2])) (va_A (PW cA S ++ [oJ cA qo fo]) sz)) 0 0 (va_A (PW cA S ++ [oJ cA qo fo]) sz) := by
  refine kt_ofWH (cc := cL_act) (maxL := 5) (ret := (some .int)) (by decide) rfl ?_
  intro p e s m args below meth c s₁ B hml hTab hv
  obtain ⟨rfl, ⟨hsz, hP, hK, hD0, hTB⟩, hTX⟩ := hv
  have hx := B.exec
  have hb := B.bytes
  have hr := B.returns
  have hts := atoms_spec (ws := Cond.codeWith yL_act cL_act 5 (some .int) [(0, 10, 13, 13)] :: TT) B.pre
  have htT : ∀ w ∈ TT, w.before _ s = true := fun w h => hts w (List.mem_cons_of_mem _ h)
  have hown : s.vm.findClass RL = some m.cls := findClass_of_methodNamed B.named
  have hlocks := B.notSynchronized
  subst hsz
  have hD := hD0.self (sz := s.heap.size)
  generalize hAe : va_A (PW cA S ++ [oJ cA qo fo]) s.heap.size = A at hD hTX ⊢
  have hA : ∀ q : Nat, s.heap.size ≤ q → A q := fun q h => by rw [← hAe]; exact Or.inr h
  have hS : va_S A s.heap s.heap [] := va_S.rf
  have hl := lv_entry ([.ref x, .int p0, .int p1, .ref qo]) (n := 5) (Nat.le_of_ble_eq_true rfl)
  rw [lg_entry_eq]
  generalize (lg_sl ([.ref x, .int p0, .int p1, .ref qo]) ++ List.replicate (5 - (lg_sl ([.ref x, .int p0, .int p1, .ref qo])).length) Slot.unset).toArray = ls at hl ⊢
  have hl : lv_has ls 5 [(0, .ref x), (1, .int p0), (2, .int p1), (3, .ref qo)] := hl
  refine lv_aload_n hx hb dL_act_0 rfl (lv_at hl 3 rfl) ?_
  refine lv_iconst (v := 0) hx hb dL_act_1 (by decide) ?_
  refine lv_aload_n hx hb dL_act_2 rfl (lv_at hl 0 rfl) ?_
  refine lv_iload_n hx hb dL_act_3 rfl (lv_at hl 1 rfl) ?_
  refine lv_iload_n hx hb dL_act_4 rfl (lv_at hl 2 rfl) ?_
  refine kj_i (List.Perm.refl _) (va_runV (As := [.int p0, .int p1]) (rest := [.int 0, .ref qo]) ⟨hx, hb, hml, hown, htT⟩ (c_act_0 l D cA _ S x ho ar hq0 har hn p0 p1 h1 h2) (cwV 2 htT (kg_V m_ml_L_76 m_im_X5_act m_sl_X5_act m_in_X5 m_cd_X5_act) rfl rfl rfl (by decide +kernel) ⟨Nat.le_of_ble_eq_true rfl, Nat.le_of_ble_eq_true rfl⟩) (kj_V (List.Perm.refl _) hK hP hD hTB (kj_rc (List.Perm.refl _) hK hP ho (Nat.le_of_ble_eq_true rfl) rfl)) rfl rfl hl.1 rfl (lv_room (Nat.le_of_ble_eq_true rfl)) dL_act_5 ⟨Nat.le_of_ble_eq_true rfl, Nat.le_of_ble_eq_true rfl⟩) hP hD hS hA (fun r_1 x_1 H locs hq_1 hP hD hS => ?_)
  rw [hq_1.1]
  rw [hq_1.2] at hP hD
  refine lv_i2l (v := (0 : Int32).toInt64) hx hb dL_act_8 rfl ?_
  refine kw_last hx hb hK hP hD hS dL_act_9 (fun H locs hP hD hS => ?_)
  refine lv_goto (tgt := 17) hx hb dL_act_10 (by decide) ?_
  refine lv_iconst (v := 0) hx hb dL_act_17 (by decide) ?_
  exact W.iret (v := 0) hx hb hr (fun t ht hW => ⟨⟨0, (S, vp_updL fo 0 ((0 : Int32).toInt64)), rfl, ⟨rfl, rfl, rfl⟩, by rw [ht]; exact hP, va_K.moved hW.alike hK, hD⟩, hS.F ht⟩) hS.2.2 dL_act_18

set_option maxRecDepth 100000 in
set_option maxHeartbeats 4000000 in
theorem w_add (l : Launch) (hst : l.stackTraces = false) (D : va_G) (cA : Nat → ClassId) (sz : Nat) (S : Pool) (x qo : Nat) (fo : Nat → Int64) (ho : isO S x 5) (ar : Nat) (hq0 : gQ S x 0 = some ar) (har : isA S ar 22 8) (p0 p1 p2 : Int32) (hz : p2 = 0 ∨ p2 = 1) (h1 : kOut p0 0 498 = 0) (h2 : kOut p1 2 4 = 0) (hc0 : ¬ gI S x 2 < 0) (hc1 : gI S x 2 < 8) : Met l yL_add (Cond.codeWith yL_add cL_add 6 (some .int) [(0, 12, 15, 13), (0, 12, 19, 15)] :: TT) ({ frames := 4, cells := 8, slots := 48, locals := 80 }) (va_Pc [.ref x, .int p0, .int p1, .int p2, .ref qo] (kPreX D cA (PW cA S ++ [oJ cA qo fo]) sz)) (va_Qi (fun (r_ : Int32) (x_ : Pool × (Nat → Int64)) => r_ = 0 ∧ x_.2 = vp_updL fo 0 (gI S x 2).toInt64) (fun x_ => kB D cA (va_A (PW cA S ++ [oJ cA qo fo]) sz) (PW cA x_.1 ++ [oJ cA qo x_.2])) (va_A (PW cA S ++ [oJ cA qo fo]) sz)) 8 48 (va_A (PW cA S ++ [oJ cA qo fo]) sz) := by
  refine kt_ofWH (cc := cL_add) (maxL := 6) (ret := (some .int)) (by decide) rfl ?_
  intro p e s m args below meth c s₁ B hml hTab hv
  obtain ⟨rfl, ⟨hsz, hP, hK, hD0, hTB⟩, hTX⟩ := hv
  have hx := B.exec
  have hb := B.bytes
  have hr := B.returns
  have hts := atoms_spec (ws := Cond.codeWith yL_add cL_add 6 (some .int) [(0, 12, 15, 13), (0, 12, 19, 15)] :: TT) B.pre
  have htT : ∀ w ∈ TT, w.before _ s = true := fun w h => hts w (List.mem_cons_of_mem _ h)
  have hown : s.vm.findClass RL = some m.cls := findClass_of_methodNamed B.named
  have hlocks := B.notSynchronized
  subst hsz
  have hD := hD0.self (sz := s.heap.size)
  generalize hAe : va_A (PW cA S ++ [oJ cA qo fo]) s.heap.size = A at hD hTX ⊢
  have hA : ∀ q : Nat, s.heap.size ≤ q → A q := fun q h => by rw [← hAe]; exact Or.inr h
  have hS : va_S A s.heap s.heap [] := va_S.rf
  have hl := lv_entry ([.ref x, .int p0, .int p1, .int p2, .ref qo]) (n := 6) (Nat.le_of_ble_eq_true rfl)
  rw [lg_entry_eq]
  generalize (lg_sl ([.ref x, .int p0, .int p1, .int p2, .ref qo]) ++ List.replicate (6 - (lg_sl ([.ref x, .int p0, .int p1, .int p2, .ref qo])).length) Slot.unset).toArray = ls at hl ⊢
  have hl : lv_has ls 6 [(0, .ref x), (1, .int p0), (2, .int p1), (3, .int p2), (4, .ref qo)] := hl
  refine lv_aload hx hb dL_add_0 (lv_at hl 4 rfl) ?_
  refine lv_iconst (v := 0) hx hb dL_add_2 (by decide) ?_
  refine lv_aload_n hx hb dL_add_3 rfl (lv_at hl 0 rfl) ?_
  refine lv_iload_n hx hb dL_add_4 rfl (lv_at hl 1 rfl) ?_
  refine lv_iload_n hx hb dL_add_5 rfl (lv_at hl 2 rfl) ?_
  refine lv_iload_n hx hb dL_add_6 rfl (lv_at hl 3 rfl) ?_
  refine kj_i (List.Perm.refl _) (va_runV (As := [.int p0, .int p1, .int p2]) (rest := [.int 0, .ref qo]) ⟨hx, hb, hml, hown, htT⟩ (c_add l D cA _ S x ho ar hq0 har p0 p1 p2 hz h1 h2 hc0 hc1) (cwV 3 htT (kg_V m_ml_L_7 m_im_X5_add m_sl_X5_add m_in_X5 m_cd_X5_add) rfl rfl rfl (by decide +kernel) ⟨Nat.le_of_ble_eq_true rfl, Nat.le_of_ble_eq_true rfl⟩) (kj_V (List.Perm.refl _) hK hP hD hTB (kj_rc (List.Perm.refl _) hK hP ho (Nat.le_of_ble_eq_true rfl) rfl)) rfl rfl hl.1 rfl (lv_room (Nat.le_of_ble_eq_true rfl)) dL_add_7 ⟨Nat.le_of_ble_eq_true rfl, Nat.le_of_ble_eq_true rfl⟩) hP hD hS hA (fun r_1 x_1 H locs hq_1 hP hD hS => ?_)
  rw [hq_1.1]
  refine lv_i2l (v := (gI S x 2).toInt64) hx hb dL_add_10 rfl ?_
  refine kw_last hx hb hK hP hD hS dL_add_11 (fun H locs hP hD hS => ?_)
  refine lv_goto (tgt := 23) hx hb dL_add_12 (by decide) ?_
  refine lv_iconst (v := 0) hx hb dL_add_23 (by decide) ?_
  exact W.iret (v := 0) hx hb hr (fun t ht hW => ⟨⟨0, (x_1, vp_updL fo 0 ((gI S x 2).toInt64)), rfl, ⟨rfl, rfl⟩, by rw [ht]; exact hP, va_K.moved hW.alike hK, hD⟩, hS.F ht⟩) hS.2.2 dL_add_24

