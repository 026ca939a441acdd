set_option maxRecDepth 100000 in
set_option maxHeartbeats 4000000 in
theorem w_weight (l : Launch) (hst : l.stackTraces = false) (D : va_G) (cA : Nat → ClassId) (sz : Nat) (S : Pool) (x qo : Nat) (fo : Nat → Int64) (n na : Nat) (hh cc : Int32) (ar ak : Nat) (h : INVC n na hh cc S x ar ak) (p0 p1 : Int32) : Met l yL_weight (Cond.codeWith yL_weight cL_weight 5 (some .int) [(0, 10, 13, 21)] :: TT) ({ frames := 8, cells := 1, slots := 6, locals := 127 }) (va_Pc [.ref x, .int p0, .int p1, .ref qo] (kPreX D cA (PW cA S ++ [oJ cA qo fo]) sz)) (va_Qi (fun (r_ : Int32) (x_ : Pool × (Nat → Int64)) => INVC n na hh cc x_.1 x ar ak ∧ QC S x_.1) (fun x_ => kB D cA (va_A (PW cA S ++ [oJ cA qo fo]) sz) (PW cA x_.1 ++ [oJ cA qo x_.2])) (va_A (PW cA S ++ [oJ cA qo fo]) sz)) 1 6 (va_A (PW cA S ++ [oJ cA qo fo]) sz) := by
  refine kt_ofWH (cc := cL_weight) (maxL := 5) (ret := (some .int)) (by decide) rfl ?_
  intro p e s m args below meth c s₁ B hml hTab hv
  obtain ⟨rfl, ⟨hsz, hP, hK, hD0, hTB⟩, hTX⟩ := hv
  have hx := B.exec
  have hb := B.bytes
  have hr := B.returns
  have hts := atoms_spec (ws := Cond.codeWith yL_weight cL_weight 5 (some .int) [(0, 10, 13, 21)] :: TT) B.pre
  have htT : ∀ w ∈ TT, w.before _ s = true := fun w h => hts w (List.mem_cons_of_mem _ h)
  have hown : s.vm.findClass RL = some m.cls := findClass_of_methodNamed B.named
  have hlocks := B.notSynchronized
  subst hsz
  have hD := hD0.self (sz := s.heap.size)
  generalize hAe : va_A (PW cA S ++ [oJ cA qo fo]) s.heap.size = A at hD hTX ⊢
  have hA : ∀ q : Nat, s.heap.size ≤ q → A q := fun q h => by rw [← hAe]; exact Or.inr h
  have hS : va_S A s.heap s.heap [] := va_S.rf
  have hl := lv_entry ([.ref x, .int p0, .int p1, .ref qo]) (n := 5) (Nat.le_of_ble_eq_true rfl)
  rw [lg_entry_eq]
  generalize (lg_sl ([.ref x, .int p0, .int p1, .ref qo]) ++ List.replicate (5 - (lg_sl ([.ref x, .int p0, .int p1, .ref qo])).length) Slot.unset).toArray = ls at hl ⊢
  have hl : lv_has ls 5 [(0, .ref x), (1, .int p0), (2, .int p1), (3, .ref qo)] := hl
  refine lv_aload_n hx hb dL_weight_0 rfl (lv_at hl 3 rfl) ?_
  refine lv_iconst (v := 0) hx hb dL_weight_1 (by decide) ?_
  refine lv_aload_n hx hb dL_weight_2 rfl (lv_at hl 0 rfl) ?_
  refine lv_iload_n hx hb dL_weight_3 rfl (lv_at hl 1 rfl) ?_
  refine lv_iload_n hx hb dL_weight_4 rfl (lv_at hl 2 rfl) ?_
  rcases h.at p0 with ⟨hsw, -⟩ | ⟨j, a, hjn, rfl, hja, hsw⟩
  · refine kj_t (List.Perm.refl _) (vx_runV (As := [.int p0, .int p1]) (rest := [.int 0, .ref qo]) ⟨hx, hb, hml, hown, htT⟩ (c_weight_t l hst D cA _ S x h.hx ar h.q0 h.R.1 p0 p1 hsw) (cwV 2 htT (kg_V m_ml_L_52 m_im_X5_weight m_sl_X5_weight m_in_X5 m_cd_X5_weight) rfl rfl rfl (by decide +kernel) ⟨Nat.le_of_ble_eq_true rfl, Nat.le_of_ble_eq_true rfl⟩) (kj_VX (List.Perm.refl _) hK hP hD hTB hTX hS hA (kj_rc (List.Perm.refl _) hK hP h.hx (Nat.le_of_ble_eq_true rfl) rfl)) rfl rfl hl.1 rfl (lv_room (Nat.le_of_ble_eq_true rfl)) dL_weight_5 ⟨Nat.le_of_ble_eq_true rfl, Nat.le_of_ble_eq_true rfl⟩) hP hD hS hA (fun ce q9 H locs hP hD hS hce hcv hcl => ?_)
    refine vx_catch hown [] ⟨0, 10, 13, 21⟩ [] (hTab.trans rfl) (fun z hz => nomatch hz) rfl (by decide) (htT _ m_cl_L_21) (hTB.use (n_ca _ (by decide))) hce hcv hcl ?_
    refine lv_astore (lv' := [(4, .ref q9), (0, .ref x), (1, .int p0), (2, .int p1), (3, .ref qo)]) hx hb dL_weight_13 hl (by decide) rfl (fun ls hl => ?_)
    refine lv_iconst (v := 1) hx hb dL_weight_15 (by decide) ?_
    exact W.iret (v := 1) hx hb hr (fun t ht hW => ⟨⟨1, (S, fo), rfl, ⟨h, QC.rf⟩, by rw [ht]; exact hP, va_K.moved hW.alike hK, hD⟩, hS.F ht⟩) hS.2.2 dL_weight_16
  · have hj : j < 8 := by have := h.n8; omega
    rcases kOut_01 p1 0 (gI S a 2 - 1) with hv | hv
    · refine kj_i (List.Perm.refl _) (va_runV (As := [.int (nI j), .int p1]) (rest := [.int 0, .ref qo]) ⟨hx, hb, hml, hown, htT⟩ (c_weight l D cA _ S x h.hx ar h.q0 ak h.q1 h.kk h.R j hj a hja (nI j) hsw p1 hv) (cwV 2 htT (kg_V m_ml_L_52 m_im_X5_weight m_sl_X5_weight m_in_X5 m_cd_X5_weight) rfl rfl rfl (by decide +kernel) ⟨Nat.le_of_ble_eq_true rfl, Nat.le_of_ble_eq_true rfl⟩) (kj_V (List.Perm.refl _) hK hP hD hTB (kj_rc (List.Perm.refl _) hK hP h.hx (Nat.le_of_ble_eq_true rfl) rfl)) rfl rfl hl.1 rfl (lv_room (Nat.le_of_ble_eq_true rfl)) dL_weight_5 ⟨Nat.le_of_ble_eq_true rfl, Nat.le_of_ble_eq_true rfl⟩) hP hD hS hA (fun r_1 x_1 H locs hq_1 hP hD hS => ?_)
      refine lv_i2l (v := r_1.toInt64) hx hb dL_weight_8 rfl ?_
      refine kw_last hx hb hK hP hD hS dL_weight_9 (fun H locs hP hD hS => ?_)
      refine lv_goto (tgt := 17) hx hb dL_weight_10 (by decide) ?_
      refine lv_iconst (v := 0) hx hb dL_weight_17 (by decide) ?_
      refine W.widen (k := 1) (n := 6) (Nat.le_of_ble_eq_true rfl) (Nat.le_of_ble_eq_true rfl) ?_
      exact W.iret (v := 0) hx hb hr (fun t ht hW => ⟨⟨0, (x_1, vp_updL fo 0 r_1.toInt64), rfl, ⟨by rw [hq_1.2]; exact h, by rw [hq_1.2]; exact QC.rf⟩, by rw [ht]; exact hP, va_K.moved hW.alike hK, hD⟩, hS.F ht⟩) hS.2.2 dL_weight_18
    · refine kj_t (List.Perm.refl _) (vx_runV (As := [.int (nI j), .int p1]) (rest := [.int 0, .ref qo]) ⟨hx, hb, hml, hown, htT⟩ (c_weight_v l hst D cA _ S x h.hx ar h.q0 ak h.q1 h.kk h.R j hj a hja (nI j) hsw p1 hv) (cwV 2 htT (kg_V m_ml_L_52 m_im_X5_weight m_sl_X5_weight m_in_X5 m_cd_X5_weight) rfl rfl rfl (by decide +kernel) ⟨Nat.le_of_ble_eq_true rfl, Nat.le_of_ble_eq_true rfl⟩) (kj_VX (List.Perm.refl _) hK hP hD hTB hTX hS hA (kj_rc (List.Perm.refl _) hK hP h.hx (Nat.le_of_ble_eq_true rfl) rfl)) rfl rfl hl.1 rfl (lv_room (Nat.le_of_ble_eq_true rfl)) dL_weight_5 ⟨Nat.le_of_ble_eq_true rfl, Nat.le_of_ble_eq_true rfl⟩) hP hD hS hA (fun ce q9 H locs hP hD hS hce hcv hcl => ?_)
      refine vx_catch hown [] ⟨0, 10, 13, 21⟩ [] (hTab.trans rfl) (fun z hz => nomatch hz) rfl (by decide) (htT _ m_cl_L_21) (hTB.use (n_ca _ (by decide))) hce hcv hcl ?_
      refine lv_astore (lv' := [(4, .ref q9), (0, .ref x), (1, .int (nI j)), (2, .int p1), (3, .ref qo)]) hx hb dL_weight_13 hl (by decide) rfl (fun ls hl => ?_)
      refine lv_iconst (v := 1) hx hb dL_weight_15 (by decide) ?_
      exact W.iret (v := 1) hx hb hr (fun t ht hW => ⟨⟨1, (S, fo), rfl, ⟨h, QC.rf⟩, by rw [ht]; exact hP, va_K.moved hW.alike hK, hD⟩, hS.F ht⟩) hS.2.2 dL_weight_16

set_option maxRecDepth 100000 in
set_option maxHeartbeats 4000000 in
theorem w_share (l : Launch) (hst : l.stackTraces = false) (D : va_G) (cA : Nat → ClassId) (sz : Nat) (S : Pool) (x qo : Nat) (fo : Nat → Int64) (n na : Nat) (hh cc : Int32) (ar ak : Nat) (h : INVC n na hh cc S x ar ak) (p0 : Int32) : Met l yL_share (Cond.codeWith yL_share cL_share 4 (some .int) [(0, 9, 12, 21)] :: TT) ({ frames := 8, cells := 1, slots := 6, locals := 125 }) (va_Pc [.ref x, .int p0, .ref qo] (kPreX D cA (PW cA S ++ [oJ cA qo fo]) sz)) (va_Qi (fun (r_ : Int32) (x_ : Pool × (Nat → Int64)) => INVC n na hh cc x_.1 x ar ak ∧ QC S x_.1) (fun x_ => kB D cA (va_A (PW cA S ++ [oJ cA qo fo]) sz) (PW cA x_.1 ++ [oJ cA qo x_.2])) (va_A (PW cA S ++ [oJ cA qo fo]) sz)) 1 6 (va_A (PW cA S ++ [oJ cA qo fo]) sz) := by
  refine kt_ofWH (cc := cL_share) (maxL := 4) (ret := (some .int)) (by decide) rfl ?_
  intro p e s m args below meth c s₁ B hml hTab hv
  obtain ⟨rfl, ⟨hsz, hP, hK, hD0, hTB⟩, hTX⟩ := hv
  have hx := B.exec
  have hb := B.bytes
  have hr := B.returns
  have hts := atoms_spec (ws := Cond.codeWith yL_share cL_share 4 (some .int) [(0, 9, 12, 21)] :: TT) B.pre
  have htT : ∀ w ∈ TT, w.before _ s = true := fun w h => hts w (List.mem_cons_of_mem _ h)
  have hown : s.vm.findClass RL = some m.cls := findClass_of_methodNamed B.named
  have hlocks := B.notSynchronized
  subst hsz
  have hD := hD0.self (sz := s.heap.size)
  generalize hAe : va_A (PW cA S ++ [oJ cA qo fo]) s.heap.size = A at hD hTX ⊢
  have hA : ∀ q : Nat, s.heap.size ≤ q → A q := fun q h => by rw [← hAe]; exact Or.inr h
  have hS : va_S A s.heap s.heap [] := va_S.rf
  have hl := lv_entry ([.ref x, .int p0, .ref qo]) (n := 4) (Nat.le_of_ble_eq_true rfl)
  rw [lg_entry_eq]
  generalize (lg_sl ([.ref x, .int p0, .ref qo]) ++ List.replicate (4 - (lg_sl ([.ref x, .int p0, .ref qo])).length) Slot.unset).toArray = ls at hl ⊢
  have hl : lv_has ls 4 [(0, .ref x), (1, .int p0), (2, .ref qo)] := hl
  refine lv_aload_n hx hb dL_share_0 rfl (lv_at hl 2 rfl) ?_
  refine lv_iconst (v := 0) hx hb dL_share_1 (by decide) ?_
  refine lv_aload_n hx hb dL_share_2 rfl (lv_at hl 0 rfl) ?_
  refine lv_iload_n hx hb dL_share_3 rfl (lv_at hl 1 rfl) ?_
  rcases h.at p0 with ⟨hsw, -⟩ | ⟨j, a, hjn, rfl, hja, hsw⟩
  · refine kj_t (List.Perm.refl _) (vx_runV (As := [.int p0]) (rest := [.int 0, .ref qo]) ⟨hx, hb, hml, hown, htT⟩ (c_share_t l hst D cA _ S x h.hx ar h.q0 h.R.1 p0 hsw) (cwV 1 htT (kg_V m_ml_L_55 m_im_X5_share m_sl_X5_share m_in_X5 m_cd_X5_share) rfl rfl rfl (by decide +kernel) ⟨Nat.le_of_ble_eq_true rfl, Nat.le_of_ble_eq_true rfl⟩) (kj_VX (List.Perm.refl _) hK hP hD hTB hTX hS hA (kj_rc (List.Perm.refl _) hK hP h.hx (Nat.le_of_ble_eq_true rfl) rfl)) rfl rfl hl.1 rfl (lv_room (Nat.le_of_ble_eq_true rfl)) dL_share_4 ⟨Nat.le_of_ble_eq_true rfl, Nat.le_of_ble_eq_true rfl⟩) hP hD hS hA (fun ce q9 H locs hP hD hS hce hcv hcl => ?_)
    refine vx_catch hown [] ⟨0, 9, 12, 21⟩ [] (hTab.trans rfl) (fun z hz => nomatch hz) rfl (by decide) (htT _ m_cl_L_21) (hTB.use (n_ca _ (by decide))) hce hcv hcl ?_
    refine lv_astore_n (lv' := [(3, .ref q9), (0, .ref x), (1, .int p0), (2, .ref qo)]) hx hb dL_share_12 rfl hl (by decide) rfl (fun ls hl => ?_)
    refine lv_iconst (v := 1) hx hb dL_share_13 (by decide) ?_
    exact W.iret (v := 1) hx hb hr (fun t ht hW => ⟨⟨1, (S, fo), rfl, ⟨h, QC.rf⟩, by rw [ht]; exact hP, va_K.moved hW.alike hK, hD⟩, hS.F ht⟩) hS.2.2 dL_share_14
  · have hj : j < 8 := by have := h.n8; omega
    refine kj_i (List.Perm.refl _) (va_runV (As := [.int (nI j)]) (rest := [.int 0, .ref qo]) ⟨hx, hb, hml, hown, htT⟩ (c_share l D cA _ S x h.hx ar h.q0 ak h.q1 h.kk h.R j hj a hja (nI j) hsw ) (cwV 1 htT (kg_V m_ml_L_55 m_im_X5_share m_sl_X5_share m_in_X5 m_cd_X5_share) rfl rfl rfl (by decide +kernel) ⟨Nat.le_of_ble_eq_true rfl, Nat.le_of_ble_eq_true rfl⟩) (kj_V (List.Perm.refl _) hK hP hD hTB (kj_rc (List.Perm.refl _) hK hP h.hx (Nat.le_of_ble_eq_true rfl) rfl)) rfl rfl hl.1 rfl (lv_room (Nat.le_of_ble_eq_true rfl)) dL_share_4 ⟨Nat.le_of_ble_eq_true rfl, Nat.le_of_ble_eq_true rfl⟩) hP hD hS hA (fun r_1 x_1 H locs hq_1 hP hD hS => ?_)
    refine lv_i2l (v := r_1.toInt64) hx hb dL_share_7 rfl ?_
    refine kw_last hx hb hK hP hD hS dL_share_8 (fun H locs hP hD hS => ?_)
    refine lv_goto (tgt := 15) hx hb dL_share_9 (by decide) ?_
    refine lv_iconst (v := 0) hx hb dL_share_15 (by decide) ?_
    refine W.widen (k := 1) (n := 6) (Nat.le_of_ble_eq_true rfl) (Nat.le_of_ble_eq_true rfl) ?_
    exact W.iret (v := 0) hx hb hr (fun t ht hW => ⟨⟨0, (x_1, vp_updL fo 0 r_1.toInt64), rfl, ⟨by rw [hq_1.2]; exact h, by rw [hq_1.2]; exact QC.rf⟩, by rw [ht]; exact hP, va_K.moved hW.alike hK, hD⟩, hS.F ht⟩) hS.2.2 dL_share_16

set_option maxRecDepth 100000 in
set_option maxHeartbeats 4000000 in
theorem w_left (l : Launch) (hst : l.stackTraces = false) (D : va_G) (cA : Nat → ClassId) (sz : Nat) (S : Pool) (x qo : Nat) (fo : Nat → Int64) (n na : Nat) (hh cc : Int32) (ar ak : Nat) (h : INVC n na hh cc S x ar ak) (p0 : Int32) : Met l yL_left (Cond.codeWith yL_left cL_left 4 (some .int) [(0, 9, 12, 21)] :: TT) ({ frames := 7, cells := 1, slots := 6, locals := 108 }) (va_Pc [.ref x, .int p0, .ref qo] (kPreX D cA (PW cA S ++ [oJ cA qo fo]) sz)) (va_Qi (fun (r_ : Int32) (x_ : Pool × (Nat → Int64)) => INVC n na hh cc x_.1 x ar ak ∧ QC S x_.1) (fun x_ => kB D cA (va_A (PW cA S ++ [oJ cA qo fo]) sz) (PW cA x_.1 ++ [oJ cA qo x_.2])) (va_A (PW cA S ++ [oJ cA qo fo]) sz)) 1 6 (va_A (PW cA S ++ [oJ cA qo fo]) sz) := by
  refine kt_ofWH (cc := cL_left) (maxL := 4) (ret := (some .int)) (by decide) rfl ?_
  intro p e s m args below meth c s₁ B hml hTab hv
  obtain ⟨rfl, ⟨hsz, hP, hK, hD0, hTB⟩, hTX⟩ := hv
  have hx := B.exec
  have hb := B.bytes
  have hr := B.returns
  have hts := atoms_spec (ws := Cond.codeWith yL_left cL_left 4 (some .int) [(0, 9, 12, 21)] :: TT) B.pre
  have htT : ∀ w ∈ TT, w.before _ s = true := fun w h => hts w (List.mem_cons_of_mem _ h)
  have hown : s.vm.findClass RL = some m.cls := findClass_of_methodNamed B.named
  have hlocks := B.notSynchronized
  subst hsz
  have hD := hD0.self (sz := s.heap.size)
  generalize hAe : va_A (PW cA S ++ [oJ cA qo fo]) s.heap.size = A at hD hTX ⊢
  have hA : ∀ q : Nat, s.heap.size ≤ q → A q := fun q h => by rw [← hAe]; exact Or.inr h
  have hS : va_S A s.heap s.heap [] := va_S.rf
  have hl := lv_entry ([.ref x, .int p0, .ref qo]) (n := 4) (Nat.le_of_ble_eq_true rfl)
  rw [lg_entry_eq]
  generalize (lg_sl ([.ref x, .int p0, .ref qo]) ++ List.replicate (4 - (lg_sl ([.ref x, .int p0, .ref qo])).length) Slot.unset).toArray = ls at hl ⊢
  have hl : lv_has ls 4 [(0, .ref x), (1, .int p0), (2, .ref qo)] := hl
  refine lv_aload_n hx hb dL_left_0 rfl (lv_at hl 2 rfl) ?_
  refine lv_iconst (v := 0) hx hb dL_left_1 (by decide) ?_
  refine lv_aload_n hx hb dL_left_2 rfl (lv_at hl 0 rfl) ?_
  refine lv_iload_n hx hb dL_left_3 rfl (lv_at hl 1 rfl) ?_
  rcases kOut_01 p0 0 2 with h1 | h1
  · refine kj_i (List.Perm.refl _) (va_runV (As := [.int p0]) (rest := [.int 0, .ref qo]) ⟨hx, hb, hml, hown, htT⟩ (c_left l D cA _ S x h.hx ar h.q0 h.R p0 h1) (cwV 1 htT (kg_V m_ml_L_58 m_im_X5_left m_sl_X5_left m_in_X5 m_cd_X5_left) rfl rfl rfl (by decide +kernel) ⟨Nat.le_of_ble_eq_true rfl, Nat.le_of_ble_eq_true rfl⟩) (kj_V (List.Perm.refl _) hK hP hD hTB (kj_rc (List.Perm.refl _) hK hP h.hx (Nat.le_of_ble_eq_true rfl) rfl)) rfl rfl hl.1 rfl (lv_room (Nat.le_of_ble_eq_true rfl)) dL_left_4 ⟨Nat.le_of_ble_eq_true rfl, Nat.le_of_ble_eq_true rfl⟩) hP hD hS hA (fun r_1 x_1 H locs hq_1 hP hD hS => ?_)
    refine lv_i2l (v := r_1.toInt64) hx hb dL_left_7 rfl ?_
    refine kw_last hx hb hK hP hD hS dL_left_8 (fun H locs hP hD hS => ?_)
    refine lv_goto (tgt := 15) hx hb dL_left_9 (by decide) ?_
    refine lv_iconst (v := 0) hx hb dL_left_15 (by decide) ?_
    refine W.widen (k := 1) (n := 6) (Nat.le_of_ble_eq_true rfl) (Nat.le_of_ble_eq_true rfl) ?_
    exact W.iret (v := 0) hx hb hr (fun t ht hW => ⟨⟨0, (x_1, vp_updL fo 0 r_1.toInt64), rfl, ⟨by rw [hq_1.2]; exact h, by rw [hq_1.2]; exact QC.rf⟩, by rw [ht]; exact hP, va_K.moved hW.alike hK, hD⟩, hS.F ht⟩) hS.2.2 dL_left_16
  · refine kj_t (List.Perm.refl _) (vx_runV (As := [.int p0]) (rest := [.int 0, .ref qo]) ⟨hx, hb, hml, hown, htT⟩ (c_left_t l hst D cA _ S x h.hx p0 h1) (cwV 1 htT (kg_V m_ml_L_58 m_im_X5_left m_sl_X5_left m_in_X5 m_cd_X5_left) rfl rfl rfl (by decide +kernel) ⟨Nat.le_of_ble_eq_true rfl, Nat.le_of_ble_eq_true rfl⟩) (kj_VX (List.Perm.refl _) hK hP hD hTB hTX hS hA (kj_rc (List.Perm.refl _) hK hP h.hx (Nat.le_of_ble_eq_true rfl) rfl)) rfl rfl hl.1 rfl (lv_room (Nat.le_of_ble_eq_true rfl)) dL_left_4 ⟨Nat.le_of_ble_eq_true rfl, Nat.le_of_ble_eq_true rfl⟩) hP hD hS hA (fun ce q9 H locs hP hD hS hce hcv hcl => ?_)
    refine vx_catch hown [] ⟨0, 9, 12, 21⟩ [] (hTab.trans rfl) (fun z hz => nomatch hz) rfl (by decide) (htT _ m_cl_L_21) (hTB.use (n_ca _ (by decide))) hce hcv hcl ?_
    refine lv_astore_n (lv' := [(3, .ref q9), (0, .ref x), (1, .int p0), (2, .ref qo)]) hx hb dL_left_12 rfl hl (by decide) rfl (fun ls hl => ?_)
    refine lv_iconst (v := 1) hx hb dL_left_13 (by decide) ?_
    exact W.iret (v := 1) hx hb hr (fun t ht hW => ⟨⟨1, (S, fo), rfl, ⟨h, QC.rf⟩, by rw [ht]; exact hP, va_K.moved hW.alike hK, hD⟩, hS.F ht⟩) hS.2.2 dL_left_14

set_option maxRecDepth 100000 in
set_option maxHeartbeats 4000000 in
theorem w_bucket (l : Launch) (hst : l.stackTraces = false) (D : va_G) (cA : Nat → ClassId) (sz : Nat) (S : Pool) (x qo : Nat) (fo : Nat → Int64) (n na : Nat) (hh cc : Int32) (ar ak : Nat) (h : INVC n na hh cc S x ar ak) (p0 p1 : Int32) : Met l yL_bucket (Cond.codeWith yL_bucket cL_bucket 5 (some .int) [(0, 10, 13, 13)] :: TT) ({ frames := 7, cells := 1, slots := 6, locals := 104 }) (va_Pc [.ref x, .int p0, .int p1, .ref qo] (kPreX D cA (PW cA S ++ [oJ cA qo fo]) sz)) (va_Qi (fun (r_ : Int32) (x_ : Pool × (Nat → Int64)) => INVC n na hh cc x_.1 x ar ak ∧ QC S x_.1) (fun x_ => kB D cA (va_A (PW cA S ++ [oJ cA qo fo]) sz) (PW cA x_.1 ++ [oJ cA qo x_.2])) (va_A (PW cA S ++ [oJ cA qo fo]) sz)) 1 6 (va_A (PW cA S ++ [oJ cA qo fo]) sz) := by
  refine kt_ofWH (cc := cL_bucket) (maxL := 5) (ret := (some .int)) (by decide) rfl ?_
  intro p e s m args below meth c s₁ B hml hTab hv
  obtain ⟨rfl, ⟨hsz, hP, hK, hD0, hTB⟩, hTX⟩ := hv
  have hx := B.exec
  have hb := B.bytes
  have hr := B.returns
  have hts := atoms_spec (ws := Cond.codeWith yL_bucket cL_bucket 5 (some .int) [(0, 10, 13, 13)] :: TT) B.pre
  have htT : ∀ w ∈ TT, w.before _ s = true := fun w h => hts w (List.mem_cons_of_mem _ h)
  have hown : s.vm.findClass RL = some m.cls := findClass_of_methodNamed B.named
  have hlocks := B.notSynchronized
  subst hsz
  have hD := hD0.self (sz := s.heap.size)
  generalize hAe : va_A (PW cA S ++ [oJ cA qo fo]) s.heap.size = A at hD hTX ⊢
  have hA : ∀ q : Nat, s.heap.size ≤ q → A q := fun q h => by rw [← hAe]; exact Or.inr h
  have hS : va_S A s.heap s.heap [] := va_S.rf
  have hl := lv_entry ([.ref x, .int p0, .int p1, .ref qo]) (n := 5) (Nat.le_of_ble_eq_true rfl)
  rw [lg_entry_eq]
  generalize (lg_sl ([.ref x, .int p0, .int p1, .ref qo]) ++ List.replicate (5 - (lg_sl ([.ref x, .int p0, .int p1, .ref qo])).length) Slot.unset).toArray = ls at hl ⊢
  have hl : lv_has ls 5 [(0, .ref x), (1, .int p0), (2, .int p1), (3, .ref qo)] := hl
  refine lv_aload_n hx hb dL_bucket_0 rfl (lv_at hl 3 rfl) ?_
  refine lv_iconst (v := 0) hx hb dL_bucket_1 (by decide) ?_
  refine lv_aload_n hx hb dL_bucket_2 rfl (lv_at hl 0 rfl) ?_
  refine lv_iload_n hx hb dL_bucket_3 rfl (lv_at hl 1 rfl) ?_
  refine lv_iload_n hx hb dL_bucket_4 rfl (lv_at hl 2 rfl) ?_
  rcases kOut_01 p0 0 999 with h1 | h1
  · rcases kOut_01 p1 0 9999 with h2 | h2
    · refine kj_i (List.Perm.refl _) (va_runV (As := [.int p0, .int p1]) (rest := [.int 0, .ref qo]) ⟨hx, hb, hml, hown, htT⟩ (c_bucket l D cA _ S x h.hx p0 p1 h1 h2) (cwV 2 htT (kg_V m_ml_L_61 m_im_X5_bucket m_sl_X5_bucket m_in_X5 m_cd_X5_bucket) rfl rfl rfl (by decide +kernel) ⟨Nat.le_of_ble_eq_true rfl, Nat.le_of_ble_eq_true rfl⟩) (kj_V (List.Perm.refl _) hK hP hD hTB (kj_rc (List.Perm.refl _) hK hP h.hx (Nat.le_of_ble_eq_true rfl) rfl)) rfl rfl hl.1 rfl (lv_room (Nat.le_of_ble_eq_true rfl)) dL_bucket_5 ⟨Nat.le_of_ble_eq_true rfl, Nat.le_of_ble_eq_true rfl⟩) hP hD hS hA (fun r_1 x_1 H locs hq_1 hP hD hS => ?_)
      refine lv_i2l (v := r_1.toInt64) hx hb dL_bucket_8 rfl ?_
      refine kw_last hx hb hK hP hD hS dL_bucket_9 (fun H locs hP hD hS => ?_)
      refine lv_goto (tgt := 17) hx hb dL_bucket_10 (by decide) ?_
      refine lv_iconst (v := 0) hx hb dL_bucket_17 (by decide) ?_
      refine W.widen (k := 1) (n := 6) (Nat.le_of_ble_eq_true rfl) (Nat.le_of_ble_eq_true rfl) ?_
      exact W.iret (v := 0) hx hb hr (fun t ht hW => ⟨⟨0, (x_1, vp_updL fo 0 r_1.toInt64), rfl, ⟨by rw [hq_1.2]; exact h, by rw [hq_1.2]; exact QC.rf⟩, by rw [ht]; exact hP, va_K.moved hW.alike hK, hD⟩, hS.F ht⟩) hS.2.2 dL_bucket_18
    · refine kj_t (List.Perm.refl _) (vx_runV (As := [.int p0, .int p1]) (rest := [.int 0, .ref qo]) ⟨hx, hb, hml, hown, htT⟩ (c_bucket_t2 l hst D cA _ S x h.hx p0 p1 h1 h2) (cwV 2 htT (kg_V m_ml_L_61 m_im_X5_bucket m_sl_X5_bucket m_in_X5 m_cd_X5_bucket) rfl rfl rfl (by decide +kernel) ⟨Nat.le_of_ble_eq_true rfl, Nat.le_of_ble_eq_true rfl⟩) (kj_VX (List.Perm.refl _) hK hP hD hTB hTX hS hA (kj_rc (List.Perm.refl _) hK hP h.hx (Nat.le_of_ble_eq_true rfl) rfl)) rfl rfl hl.1 rfl (lv_room (Nat.le_of_ble_eq_true rfl)) dL_bucket_5 ⟨Nat.le_of_ble_eq_true rfl, Nat.le_of_ble_eq_true rfl⟩) hP hD hS hA (fun ce q9 H locs hP hD hS hce hcv hcl => ?_)
      refine vx_catch hown [] ⟨0, 10, 13, 13⟩ [] (hTab.trans rfl) (fun z hz => nomatch hz) rfl (by decide) (htT _ m_cl_L_13) (hTB.use (n_ca _ (by decide))) hce hcv hcl ?_
      refine lv_astore (lv' := [(4, .ref q9), (0, .ref x), (1, .int p0), (2, .int p1), (3, .ref qo)]) hx hb dL_bucket_13 hl (by decide) rfl (fun ls hl => ?_)
      refine lv_iconst (v := 1) hx hb dL_bucket_15 (by decide) ?_
      exact W.iret (v := 1) hx hb hr (fun t ht hW => ⟨⟨1, (S, fo), rfl, ⟨h, QC.rf⟩, by rw [ht]; exact hP, va_K.moved hW.alike hK, hD⟩, hS.F ht⟩) hS.2.2 dL_bucket_16
  · refine kj_t (List.Perm.refl _) (vx_runV (As := [.int p0, .int p1]) (rest := [.int 0, .ref qo]) ⟨hx, hb, hml, hown, htT⟩ (c_bucket_t1 l hst D cA _ S x h.hx p0 p1 h1) (cwV 2 htT (kg_V m_ml_L_61 m_im_X5_bucket m_sl_X5_bucket m_in_X5 m_cd_X5_bucket) rfl rfl rfl (by decide +kernel) ⟨Nat.le_of_ble_eq_true rfl, Nat.le_of_ble_eq_true rfl⟩) (kj_VX (List.Perm.refl _) hK hP hD hTB hTX hS hA (kj_rc (List.Perm.refl _) hK hP h.hx (Nat.le_of_ble_eq_true rfl) rfl)) rfl rfl hl.1 rfl (lv_room (Nat.le_of_ble_eq_true rfl)) dL_bucket_5 ⟨Nat.le_of_ble_eq_true rfl, Nat.le_of_ble_eq_true rfl⟩) hP hD hS hA (fun ce q9 H locs hP hD hS hce hcv hcl => ?_)
    refine vx_catch hown [] ⟨0, 10, 13, 13⟩ [] (hTab.trans rfl) (fun z hz => nomatch hz) rfl (by decide) (htT _ m_cl_L_13) (hTB.use (n_ca _ (by decide))) hce hcv hcl ?_
    refine lv_astore (lv' := [(4, .ref q9), (0, .ref x), (1, .int p0), (2, .int p1), (3, .ref qo)]) hx hb dL_bucket_13 hl (by decide) rfl (fun ls hl => ?_)
    refine lv_iconst (v := 1) hx hb dL_bucket_15 (by decide) ?_
    exact W.iret (v := 1) hx hb hr (fun t ht hW => ⟨⟨1, (S, fo), rfl, ⟨h, QC.rf⟩, by rw [ht]; exact hP, va_K.moved hW.alike hK, hD⟩, hS.F ht⟩) hS.2.2 dL_bucket_16

set_option maxRecDepth 100000 in
set_option maxHeartbeats 4000000 in
theorem w_holds (l : Launch) (hst : l.stackTraces = false) (D : va_G) (cA : Nat → ClassId) (sz : Nat) (S : Pool) (x qo : Nat) (fo : Nat → Int64) (n na : Nat) (hh cc : Int32) (ar ak : Nat) (h : INVC n na hh cc S x ar ak) (p0 p1 p2 p3 : Int32) : Met l yL_holds (Cond.codeWith yL_holds cL_holds 7 (some .int) [(0, 14, 17, 21), (0, 14, 21, 13)] :: TT) ({ frames := 8, cells := 1, slots := 6, locals := 129 }) (va_Pc [.ref x, .int p0, .int p1, .int p2, .int p3, .ref qo] (kPreX D cA (PW cA S ++ [oJ cA qo fo]) sz)) (va_Qi (fun (r_ : Int32) (x_ : Pool × (Nat → Int64)) => INVC n na hh cc x_.1 x ar ak ∧ QC S x_.1) (fun x_ => kB D cA (va_A (PW cA S ++ [oJ cA qo fo]) sz) (PW cA x_.1 ++ [oJ cA qo x_.2])) (va_A (PW cA S ++ [oJ cA qo fo]) sz)) 1 6 (va_A (PW cA S ++ [oJ cA qo fo]) sz) := by
  refine kt_ofWH (cc := cL_holds) (maxL := 7) (ret := (some .int)) (by decide) rfl ?_
  intro p e s m args below meth c s₁ B hml hTab hv
  obtain ⟨rfl, ⟨hsz, hP, hK, hD0, hTB⟩, hTX⟩ := hv
  have hx := B.exec
  have hb := B.bytes
  have hr := B.returns
  have hts := atoms_spec (ws := Cond.codeWith yL_holds cL_holds 7 (some .int) [(0, 14, 17, 21), (0, 14, 21, 13)] :: TT) B.pre
  have htT : ∀ w ∈ TT, w.before _ s = true := fun w h => hts w (List.mem_cons_of_mem _ h)
  have hown : s.vm.findClass RL = some m.cls := findClass_of_methodNamed B.named
  have hlocks := B.notSynchronized
  subst hsz
  have hD := hD0.self (sz := s.heap.size)
  generalize hAe : va_A (PW cA S ++ [oJ cA qo fo]) s.heap.size = A at hD hTX ⊢
  have hA : ∀ q : Nat, s.heap.size ≤ q → A q := fun q h => by rw [← hAe]; exact Or.inr h
  have hS : va_S A s.heap s.heap [] := va_S.rf
  have hl := lv_entry ([.ref x, .int p0, .int p1, .int p2, .int p3, .ref qo]) (n := 7) (Nat.le_of_ble_eq_true rfl)
  rw [lg_entry_eq]
  generalize (lg_sl ([.ref x, .int p0, .int p1, .int p2, .int p3, .ref qo]) ++ List.replicate (7 - (lg_sl ([.ref x, .int p0, .int p1, .int p2, .int p3, .ref qo])).length) Slot.unset).toArray = ls at hl ⊢
  have hl : lv_has ls 7 [(0, .ref x), (1, .int p0), (2, .int p1), (3, .int p2), (4, .int p3), (5, .ref qo)] := hl
  refine lv_aload hx hb dL_holds_0 (lv_at hl 5 rfl) ?_
  refine lv_iconst (v := 0) hx hb dL_holds_2 (by decide) ?_
  refine lv_aload_n hx hb dL_holds_3 rfl (lv_at hl 0 rfl) ?_
  refine lv_iload_n hx hb dL_holds_4 rfl (lv_at hl 1 rfl) ?_
  refine lv_iload_n hx hb dL_holds_5 rfl (lv_at hl 2 rfl) ?_
  refine lv_iload_n hx hb dL_holds_6 rfl (lv_at hl 3 rfl) ?_
  refine lv_iload hx hb dL_holds_7 (lv_at hl 4 rfl) ?_
  rcases h.at p0 with ⟨hsw, -⟩ | ⟨j, a, hjn, rfl, hja, hsw⟩
  · refine kj_t (List.Perm.refl _) (vx_runV (As := [.int p0, .int p1, .int p2, .int p3]) (rest := [.int 0, .ref qo]) ⟨hx, hb, hml, hown, htT⟩ (c_holds_t l hst D cA _ S x h.hx ar h.q0 h.R.1 p0 p1 p2 p3 hsw) (cwV 4 htT (kg_V m_ml_L_70 m_im_X5_holds m_sl_X5_holds m_in_X5 m_cd_X5_holds) rfl rfl rfl (by decide +kernel) ⟨Nat.le_of_ble_eq_true rfl, Nat.le_of_ble_eq_true rfl⟩) (kj_VX (List.Perm.refl _) hK hP hD hTB hTX hS hA (kj_rc (List.Perm.refl _) hK hP h.hx (Nat.le_of_ble_eq_true rfl) rfl)) rfl rfl hl.1 rfl (lv_room (Nat.le_of_ble_eq_true rfl)) dL_holds_9 ⟨Nat.le_of_ble_eq_true rfl, Nat.le_of_ble_eq_true rfl⟩) hP hD hS hA (fun ce q9 H locs hP hD hS hce hcv hcl => ?_)
    refine vx_catch hown [] ⟨0, 14, 17, 21⟩ [⟨0, 14, 21, 13⟩] (hTab.trans rfl) (fun z hz => nomatch hz) rfl (by decide) (htT _ m_cl_L_21) (hTB.use (n_ca _ (by decide))) hce hcv hcl ?_
    refine lv_astore (lv' := [(6, .ref q9), (0, .ref x), (1, .int p0), (2, .int p1), (3, .int p2), (4, .int p3), (5, .ref qo)]) hx hb dL_holds_17 hl (by decide) rfl (fun ls hl => ?_)
    refine lv_iconst (v := 1) hx hb dL_holds_19 (by decide) ?_
    exact W.iret (v := 1) hx hb hr (fun t ht hW => ⟨⟨1, (S, fo), rfl, ⟨h, QC.rf⟩, by rw [ht]; exact hP, va_K.moved hW.alike hK, hD⟩, hS.F ht⟩) hS.2.2 dL_holds_20
  · have hj : j < 8 := by have := h.n8; omega
    rcases kOut_01 p1 0 9999 with h1 | h1
    · rcases kOut_01 p2 0 9 with h2 | h2
      · rcases kOut_01 p3 0 9 with h3 | h3
        · refine kj_i (List.Perm.refl _) (va_runV (As := [.int (nI j), .int p1, .int p2, .int p3]) (rest := [.int 0, .ref qo]) ⟨hx, hb, hml, hown, htT⟩ (c_holds l D cA _ S x h.hx ar h.q0 ak h.q1 h.kk h.R j hj a hja (nI j) hsw p1 p2 p3 h1 h2 h3) (cwV 4 htT (kg_V m_ml_L_70 m_im_X5_holds m_sl_X5_holds m_in_X5 m_cd_X5_holds) rfl rfl rfl (by decide +kernel) ⟨Nat.le_of_ble_eq_true rfl, Nat.le_of_ble_eq_true rfl⟩) (kj_V (List.Perm.refl _) hK hP hD hTB (kj_rc (List.Perm.refl _) hK hP h.hx (Nat.le_of_ble_eq_true rfl) rfl)) rfl rfl hl.1 rfl (lv_room (Nat.le_of_ble_eq_true rfl)) dL_holds_9 ⟨Nat.le_of_ble_eq_true rfl, Nat.le_of_ble_eq_true rfl⟩) hP hD hS hA (fun r_1 x_1 H locs hq_1 hP hD hS => ?_)
          refine lv_i2l (v := r_1.toInt64) hx hb dL_holds_12 rfl ?_
          refine kw_last hx hb hK hP hD hS dL_holds_13 (fun H locs hP hD hS => ?_)
          refine lv_goto (tgt := 25) hx hb dL_holds_14 (by decide) ?_
          refine lv_iconst (v := 0) hx hb dL_holds_25 (by decide) ?_
          refine W.widen (k := 1) (n := 6) (Nat.le_of_ble_eq_true rfl) (Nat.le_of_ble_eq_true rfl) ?_
          exact W.iret (v := 0) hx hb hr (fun t ht hW => ⟨⟨0, (x_1, vp_updL fo 0 r_1.toInt64), rfl, ⟨by rw [hq_1.2]; exact h, by rw [hq_1.2]; exact QC.rf⟩, by rw [ht]; exact hP, va_K.moved hW.alike hK, hD⟩, hS.F ht⟩) hS.2.2 dL_holds_26
        · refine kj_t (List.Perm.refl _) (vx_runV (As := [.int (nI j), .int p1, .int p2, .int p3]) (rest := [.int 0, .ref qo]) ⟨hx, hb, hml, hown, htT⟩ (c_holds_q3 l hst D cA _ S x h.hx ar h.q0 ak h.q1 h.kk h.R j hj a hja (nI j) hsw p1 p2 p3 h1 h2 h3) (cwV 4 htT (kg_V m_ml_L_70 m_im_X5_holds m_sl_X5_holds m_in_X5 m_cd_X5_holds) rfl rfl rfl (by decide +kernel) ⟨Nat.le_of_ble_eq_true rfl, Nat.le_of_ble_eq_true rfl⟩) (kj_VX (List.Perm.refl _) hK hP hD hTB hTX hS hA (kj_rc (List.Perm.refl _) hK hP h.hx (Nat.le_of_ble_eq_true rfl) rfl)) rfl rfl hl.1 rfl (lv_room (Nat.le_of_ble_eq_true rfl)) dL_holds_9 ⟨Nat.le_of_ble_eq_true rfl, Nat.le_of_ble_eq_true rfl⟩) hP hD hS hA (fun ce q9 H locs hP hD hS hce hcv hcl => ?_)
          refine vx_catch hown [⟨0, 14, 17, 21⟩] ⟨0, 14, 21, 13⟩ [] (hTab.trans rfl) (fun z hz => by obtain rfl := List.mem_singleton.mp hz; first | exact Or.inr ⟨by decide, _, htT _ m_cl_L_21, hTX.2.2.2 ("java/lang/IllegalArgumentException", "java/lang/IndexOutOfBoundsException") (by decide +kernel)⟩) rfl (by decide) (htT _ m_cl_L_13) (hTB.use (n_ca _ (by decide))) hce hcv hcl ?_
          refine lv_astore (lv' := [(6, .ref q9), (0, .ref x), (1, .int (nI j)), (2, .int p1), (3, .int p2), (4, .int p3), (5, .ref qo)]) hx hb dL_holds_21 hl (by decide) rfl (fun ls hl => ?_)
          refine lv_iconst (v := 2) hx hb dL_holds_23 (by decide) ?_
          exact W.iret (v := 2) hx hb hr (fun t ht hW => ⟨⟨2, (S, fo), rfl, ⟨h, QC.rf⟩, by rw [ht]; exact hP, va_K.moved hW.alike hK, hD⟩, hS.F ht⟩) hS.2.2 dL_holds_24
      · refine kj_t (List.Perm.refl _) (vx_runV (As := [.int (nI j), .int p1, .int p2, .int p3]) (rest := [.int 0, .ref qo]) ⟨hx, hb, hml, hown, htT⟩ (c_holds_q2 l hst D cA _ S x h.hx ar h.q0 ak h.q1 h.kk h.R j hj a hja (nI j) hsw p1 p2 p3 h1 h2) (cwV 4 htT (kg_V m_ml_L_70 m_im_X5_holds m_sl_X5_holds m_in_X5 m_cd_X5_holds) rfl rfl rfl (by decide +kernel) ⟨Nat.le_of_ble_eq_true rfl, Nat.le_of_ble_eq_true rfl⟩) (kj_VX (List.Perm.refl _) hK hP hD hTB hTX hS hA (kj_rc (List.Perm.refl _) hK hP h.hx (Nat.le_of_ble_eq_true rfl) rfl)) rfl rfl hl.1 rfl (lv_room (Nat.le_of_ble_eq_true rfl)) dL_holds_9 ⟨Nat.le_of_ble_eq_true rfl, Nat.le_of_ble_eq_true rfl⟩) hP hD hS hA (fun ce q9 H locs hP hD hS hce hcv hcl => ?_)
        refine vx_catch hown [⟨0, 14, 17, 21⟩] ⟨0, 14, 21, 13⟩ [] (hTab.trans rfl) (fun z hz => by obtain rfl := List.mem_singleton.mp hz; first | exact Or.inr ⟨by decide, _, htT _ m_cl_L_21, hTX.2.2.2 ("java/lang/IllegalArgumentException", "java/lang/IndexOutOfBoundsException") (by decide +kernel)⟩) rfl (by decide) (htT _ m_cl_L_13) (hTB.use (n_ca _ (by decide))) hce hcv hcl ?_
        refine lv_astore (lv' := [(6, .ref q9), (0, .ref x), (1, .int (nI j)), (2, .int p1), (3, .int p2), (4, .int p3), (5, .ref qo)]) hx hb dL_holds_21 hl (by decide) rfl (fun ls hl => ?_)
        refine lv_iconst (v := 2) hx hb dL_holds_23 (by decide) ?_
        exact W.iret (v := 2) hx hb hr (fun t ht hW => ⟨⟨2, (S, fo), rfl, ⟨h, QC.rf⟩, by rw [ht]; exact hP, va_K.moved hW.alike hK, hD⟩, hS.F ht⟩) hS.2.2 dL_holds_24
    · refine kj_t (List.Perm.refl _) (vx_runV (As := [.int (nI j), .int p1, .int p2, .int p3]) (rest := [.int 0, .ref qo]) ⟨hx, hb, hml, hown, htT⟩ (c_holds_q1 l hst D cA _ S x h.hx ar h.q0 ak h.q1 h.kk h.R j hj a hja (nI j) hsw p1 p2 p3 h1) (cwV 4 htT (kg_V m_ml_L_70 m_im_X5_holds m_sl_X5_holds m_in_X5 m_cd_X5_holds) rfl rfl rfl (by decide +kernel) ⟨Nat.le_of_ble_eq_true rfl, Nat.le_of_ble_eq_true rfl⟩) (kj_VX (List.Perm.refl _) hK hP hD hTB hTX hS hA (kj_rc (List.Perm.refl _) hK hP h.hx (Nat.le_of_ble_eq_true rfl) rfl)) rfl rfl hl.1 rfl (lv_room (Nat.le_of_ble_eq_true rfl)) dL_holds_9 ⟨Nat.le_of_ble_eq_true rfl, Nat.le_of_ble_eq_true rfl⟩) hP hD hS hA (fun ce q9 H locs hP hD hS hce hcv hcl => ?_)
      refine vx_catch hown [⟨0, 14, 17, 21⟩] ⟨0, 14, 21, 13⟩ [] (hTab.trans rfl) (fun z hz => by obtain rfl := List.mem_singleton.mp hz; first | exact Or.inr ⟨by decide, _, htT _ m_cl_L_21, hTX.2.2.2 ("java/lang/IllegalArgumentException", "java/lang/IndexOutOfBoundsException") (by decide +kernel)⟩) rfl (by decide) (htT _ m_cl_L_13) (hTB.use (n_ca _ (by decide))) hce hcv hcl ?_
      refine lv_astore (lv' := [(6, .ref q9), (0, .ref x), (1, .int (nI j)), (2, .int p1), (3, .int p2), (4, .int p3), (5, .ref qo)]) hx hb dL_holds_21 hl (by decide) rfl (fun ls hl => ?_)
      refine lv_iconst (v := 2) hx hb dL_holds_23 (by decide) ?_
      exact W.iret (v := 2) hx hb hr (fun t ht hW => ⟨⟨2, (S, fo), rfl, ⟨h, QC.rf⟩, by rw [ht]; exact hP, va_K.moved hW.alike hK, hD⟩, hS.F ht⟩) hS.2.2 dL_holds_24

set_option maxRecDepth 100000 in
set_option maxHeartbeats 4000000 in
theorem w_arm (l : Launch) (hst : l.stackTraces = false) (D : va_G) (cA : Nat → ClassId) (sz : Nat) (S : Pool) (x qo : Nat) (fo : Nat → Int64) (n na : Nat) (hh cc : Int32) (ar ak : Nat) (h : INVC n na hh cc S x ar ak) (p0 p1 : Int32) : Met l yL_arm (Cond.codeWith yL_arm cL_arm 5 (some .int) [(0, 10, 13, 21), (0, 10, 17, 13)] :: TT) ({ frames := 8, cells := 1, slots := 6, locals := 128 }) (va_Pc [.ref x, .int p0, .int p1, .ref qo] (kPreX D cA (PW cA S ++ [oJ cA qo fo]) sz)) (va_Qi (fun (r_ : Int32) (x_ : Pool × (Nat → Int64)) => INVC n na hh cc x_.1 x ar ak ∧ QC S x_.1) (fun x_ => kB D cA (va_A (PW cA S ++ [oJ cA qo fo]) sz) (PW cA x_.1 ++ [oJ cA qo x_.2])) (va_A (PW cA S ++ [oJ cA qo fo]) sz)) 1 6 (va_A (PW cA S ++ [oJ cA qo fo]) sz) := by
  refine kt_ofWH (cc := cL_arm) (maxL := 5) (ret := (some .int)) (by decide) rfl ?_
  intro p e s m args below meth c s₁ B hml hTab hv
  obtain ⟨rfl, ⟨hsz, hP, hK, hD0, hTB⟩, hTX⟩ := hv
  have hx := B.exec
  have hb := B.bytes
  have hr := B.returns
  have hts := atoms_spec (ws := Cond.codeWith yL_arm cL_arm 5 (some .int) [(0, 10, 13, 21), (0, 10, 17, 13)] :: TT) B.pre
  have htT : ∀ w ∈ TT, w.before _ s = true := fun w h => hts w (List.mem_cons_of_mem _ h)
  have hown : s.vm.findClass RL = some m.cls := findClass_of_methodNamed B.named
  have hlocks := B.notSynchronized
  subst hsz
  have hD := hD0.self (sz := s.heap.size)
  generalize hAe : va_A (PW cA S ++ [oJ cA qo fo]) s.heap.size = A at hD hTX ⊢
  have hA : ∀ q : Nat, s.heap.size ≤ q → A q := fun q h => by rw [← hAe]; exact Or.inr h
  have hS : va_S A s.heap s.heap [] := va_S.rf
  have hl := lv_entry ([.ref x, .int p0, .int p1, .ref qo]) (n := 5) (Nat.le_of_ble_eq_true rfl)
  rw [lg_entry_eq]
  generalize (lg_sl ([.ref x, .int p0, .int p1, .ref qo]) ++ List.replicate (5 - (lg_sl ([.ref x, .int p0, .int p1, .ref qo])).length) Slot.unset).toArray = ls at hl ⊢
  have hl : lv_has ls 5 [(0, .ref x), (1, .int p0), (2, .int p1), (3, .ref qo)] := hl
  refine lv_aload_n hx hb dL_arm_0 rfl (lv_at hl 3 rfl) ?_
  refine lv_iconst (v := 0) hx hb dL_arm_1 (by decide) ?_
  refine lv_aload_n hx hb dL_arm_2 rfl (lv_at hl 0 rfl) ?_
  refine lv_iload_n hx hb dL_arm_3 rfl (lv_at hl 1 rfl) ?_
  refine lv_iload_n hx hb dL_arm_4 rfl (lv_at hl 2 rfl) ?_
  rcases h.at p0 with ⟨hsw, -⟩ | ⟨j, a, hjn, rfl, hja, hsw⟩
  · refine kj_t (List.Perm.refl _) (vx_runV (As := [.int p0, .int p1]) (rest := [.int 0, .ref qo]) ⟨hx, hb, hml, hown, htT⟩ (c_arm_t l hst D cA _ S x h.hx ar h.q0 h.R.1 p0 p1 hsw) (cwV 2 htT (kg_V m_ml_L_79 m_im_X5_arm m_sl_X5_arm m_in_X5 m_cd_X5_arm) rfl rfl rfl (by decide +kernel) ⟨Nat.le_of_ble_eq_true rfl, Nat.le_of_ble_eq_true rfl⟩) (kj_VX (List.Perm.refl _) hK hP hD hTB hTX hS hA (kj_rc (List.Perm.refl _) hK hP h.hx (Nat.le_of_ble_eq_true rfl) rfl)) rfl rfl hl.1 rfl (lv_room (Nat.le_of_ble_eq_true rfl)) dL_arm_5 ⟨Nat.le_of_ble_eq_true rfl, Nat.le_of_ble_eq_true rfl⟩) hP hD hS hA (fun ce q9 H locs hP hD hS hce hcv hcl => ?_)
    refine vx_catch hown [] ⟨0, 10, 13, 21⟩ [⟨0, 10, 17, 13⟩] (hTab.trans rfl) (fun z hz => nomatch hz) rfl (by decide) (htT _ m_cl_L_21) (hTB.use (n_ca _ (by decide))) hce hcv hcl ?_
    refine lv_astore (lv' := [(4, .ref q9), (0, .ref x), (1, .int p0), (2, .int p1), (3, .ref qo)]) hx hb dL_arm_13 hl (by decide) rfl (fun ls hl => ?_)
    refine lv_iconst (v := 1) hx hb dL_arm_15 (by decide) ?_
    exact W.iret (v := 1) hx hb hr (fun t ht hW => ⟨⟨1, (S, fo), rfl, ⟨h, QC.rf⟩, by rw [ht]; exact hP, va_K.moved hW.alike hK, hD⟩, hS.F ht⟩) hS.2.2 dL_arm_16
  · have hj : j < 8 := by have := h.n8; omega
    rcases kOut_01 p1 0 9999 with h1 | h1
    · refine kj_i (List.Perm.refl _) (va_runV (As := [.int (nI j), .int p1]) (rest := [.int 0, .ref qo]) ⟨hx, hb, hml, hown, htT⟩ (c_arm l D cA _ S x h.hx ar h.q0 ak h.q1 h.kk h.R j hj a hja (nI j) hsw p1 h1) (cwV 2 htT (kg_V m_ml_L_79 m_im_X5_arm m_sl_X5_arm m_in_X5 m_cd_X5_arm) rfl rfl rfl (by decide +kernel) ⟨Nat.le_of_ble_eq_true rfl, Nat.le_of_ble_eq_true rfl⟩) (kj_V (List.Perm.refl _) hK hP hD hTB (kj_rc (List.Perm.refl _) hK hP h.hx (Nat.le_of_ble_eq_true rfl) rfl)) rfl rfl hl.1 rfl (lv_room (Nat.le_of_ble_eq_true rfl)) dL_arm_5 ⟨Nat.le_of_ble_eq_true rfl, Nat.le_of_ble_eq_true rfl⟩) hP hD hS hA (fun r_1 x_1 H locs hq_1 hP hD hS => ?_)
      refine lv_i2l (v := r_1.toInt64) hx hb dL_arm_8 rfl ?_
      refine kw_last hx hb hK hP hD hS dL_arm_9 (fun H locs hP hD hS => ?_)
      refine lv_goto (tgt := 21) hx hb dL_arm_10 (by decide) ?_
      refine lv_iconst (v := 0) hx hb dL_arm_21 (by decide) ?_
      refine W.widen (k := 1) (n := 6) (Nat.le_of_ble_eq_true rfl) (Nat.le_of_ble_eq_true rfl) ?_
      exact W.iret (v := 0) hx hb hr (fun t ht hW => ⟨⟨0, (x_1, vp_updL fo 0 r_1.toInt64), rfl, ⟨by rw [hq_1.2]; exact h, by rw [hq_1.2]; exact QC.rf⟩, by rw [ht]; exact hP, va_K.moved hW.alike hK, hD⟩, hS.F ht⟩) hS.2.2 dL_arm_22
    · refine kj_t (List.Perm.refl _) (vx_runV (As := [.int (nI j), .int p1]) (rest := [.int 0, .ref qo]) ⟨hx, hb, hml, hown, htT⟩ (c_arm_1 l hst D cA _ S x h.hx ar h.q0 ak h.q1 h.kk h.R j hj a hja (nI j) hsw p1 h1) (cwV 2 htT (kg_V m_ml_L_79 m_im_X5_arm m_sl_X5_arm m_in_X5 m_cd_X5_arm) rfl rfl rfl (by decide +kernel) ⟨Nat.le_of_ble_eq_true rfl, Nat.le_of_ble_eq_true rfl⟩) (kj_VX (List.Perm.refl _) hK hP hD hTB hTX hS hA (kj_rc (List.Perm.refl _) hK hP h.hx (Nat.le_of_ble_eq_true rfl) rfl)) rfl rfl hl.1 rfl (lv_room (Nat.le_of_ble_eq_true rfl)) dL_arm_5 ⟨Nat.le_of_ble_eq_true rfl, Nat.le_of_ble_eq_true rfl⟩) hP hD hS hA (fun ce q9 H locs hP hD hS hce hcv hcl => ?_)
      refine vx_catch hown [⟨0, 10, 13, 21⟩] ⟨0, 10, 17, 13⟩ [] (hTab.trans rfl) (fun z hz => by obtain rfl := List.mem_singleton.mp hz; first | exact Or.inr ⟨by decide, _, htT _ m_cl_L_21, hTX.2.2.2 ("java/lang/IllegalArgumentException", "java/lang/IndexOutOfBoundsException") (by decide +kernel)⟩) rfl (by decide) (htT _ m_cl_L_13) (hTB.use (n_ca _ (by decide))) hce hcv hcl ?_
      refine lv_astore (lv' := [(4, .ref q9), (0, .ref x), (1, .int (nI j)), (2, .int p1), (3, .ref qo)]) hx hb dL_arm_17 hl (by decide) rfl (fun ls hl => ?_)
      refine lv_iconst (v := 2) hx hb dL_arm_19 (by decide) ?_
      exact W.iret (v := 2) hx hb hr (fun t ht hW => ⟨⟨2, (S, fo), rfl, ⟨h, QC.rf⟩, by rw [ht]; exact hP, va_K.moved hW.alike hK, hD⟩, hS.F ht⟩) hS.2.2 dL_arm_20

set_option maxRecDepth 100000 in
set_option maxHeartbeats 4000000 in
theorem w_told (l : Launch) (hst : l.stackTraces = false) (D : va_G) (cA : Nat → ClassId) (sz : Nat) (S : Pool) (x qo : Nat) (fo : Nat → Int64) (n na : Nat) (hh cc : Int32) (ar ak : Nat) (h : INVC n na hh cc S x ar ak) (p0 p1 p2 : Int32) : Met l yL_told (Cond.codeWith yL_told cL_told 6 (some .int) [(0, 12, 15, 21), (0, 12, 19, 13)] :: TT) ({ frames := 8, cells := 1, slots := 6, locals := 128 }) (va_Pc [.ref x, .int p0, .int p1, .int p2, .ref qo] (kPreX D cA (PW cA S ++ [oJ cA qo fo]) sz)) (va_Qi (fun (r_ : Int32) (x_ : Pool × (Nat → Int64)) => INVC n na hh cc x_.1 x ar ak ∧ QC S x_.1) (fun x_ => kB D cA (va_A (PW cA S ++ [oJ cA qo fo]) sz) (PW cA x_.1 ++ [oJ cA qo x_.2])) (va_A (PW cA S ++ [oJ cA qo fo]) sz)) 1 6 (va_A (PW cA S ++ [oJ cA qo fo]) sz) := by
  refine kt_ofWH (cc := cL_told) (maxL := 6) (ret := (some .int)) (by decide) rfl ?_
  intro p e s m args below meth c s₁ B hml hTab hv
  obtain ⟨rfl, ⟨hsz, hP, hK, hD0, hTB⟩, hTX⟩ := hv
  have hx := B.exec
  have hb := B.bytes
  have hr := B.returns
  have hts := atoms_spec (ws := Cond.codeWith yL_told cL_told 6 (some .int) [(0, 12, 15, 21), (0, 12, 19, 13)] :: TT) B.pre
  have htT : ∀ w ∈ TT, w.before _ s = true := fun w h => hts w (List.mem_cons_of_mem _ h)
  have hown : s.vm.findClass RL = some m.cls := findClass_of_methodNamed B.named
  have hlocks := B.notSynchronized
  subst hsz
  have hD := hD0.self (sz := s.heap.size)
  generalize hAe : va_A (PW cA S ++ [oJ cA qo fo]) s.heap.size = A at hD hTX ⊢
  have hA : ∀ q : Nat, s.heap.size ≤ q → A q := fun q h => by rw [← hAe]; exact Or.inr h
  have hS : va_S A s.heap s.heap [] := va_S.rf
  have hl := lv_entry ([.ref x, .int p0, .int p1, .int p2, .ref qo]) (n := 6) (Nat.le_of_ble_eq_true rfl)
  rw [lg_entry_eq]
  generalize (lg_sl ([.ref x, .int p0, .int p1, .int p2, .ref qo]) ++ List.replicate (6 - (lg_sl ([.ref x, .int p0, .int p1, .int p2, .ref qo])).length) Slot.unset).toArray = ls at hl ⊢
  have hl : lv_has ls 6 [(0, .ref x), (1, .int p0), (2, .int p1), (3, .int p2), (4, .ref qo)] := hl
  refine lv_aload hx hb dL_told_0 (lv_at hl 4 rfl) ?_
  refine lv_iconst (v := 0) hx hb dL_told_2 (by decide) ?_
  refine lv_aload_n hx hb dL_told_3 rfl (lv_at hl 0 rfl) ?_
  refine lv_iload_n hx hb dL_told_4 rfl (lv_at hl 1 rfl) ?_
  refine lv_iload_n hx hb dL_told_5 rfl (lv_at hl 2 rfl) ?_
  refine lv_iload_n hx hb dL_told_6 rfl (lv_at hl 3 rfl) ?_
  rcases h.at p0 with ⟨hsw, -⟩ | ⟨j, a, hjn, rfl, hja, hsw⟩
  · refine kj_t (List.Perm.refl _) (vx_runV (As := [.int p0, .int p1, .int p2]) (rest := [.int 0, .ref qo]) ⟨hx, hb, hml, hown, htT⟩ (c_told_t l hst D cA _ S x h.hx ar h.q0 h.R.1 p0 p1 p2 hsw) (cwV 3 htT (kg_V m_ml_L_82 m_im_X5_told m_sl_X5_told m_in_X5 m_cd_X5_told) rfl rfl rfl (by decide +kernel) ⟨Nat.le_of_ble_eq_true rfl, Nat.le_of_ble_eq_true rfl⟩) (kj_VX (List.Perm.refl _) hK hP hD hTB hTX hS hA (kj_rc (List.Perm.refl _) hK hP h.hx (Nat.le_of_ble_eq_true rfl) rfl)) rfl rfl hl.1 rfl (lv_room (Nat.le_of_ble_eq_true rfl)) dL_told_7 ⟨Nat.le_of_ble_eq_true rfl, Nat.le_of_ble_eq_true rfl⟩) hP hD hS hA (fun ce q9 H locs hP hD hS hce hcv hcl => ?_)
    refine vx_catch hown [] ⟨0, 12, 15, 21⟩ [⟨0, 12, 19, 13⟩] (hTab.trans rfl) (fun z hz => nomatch hz) rfl (by decide) (htT _ m_cl_L_21) (hTB.use (n_ca _ (by decide))) hce hcv hcl ?_
    refine lv_astore (lv' := [(5, .ref q9), (0, .ref x), (1, .int p0), (2, .int p1), (3, .int p2), (4, .ref qo)]) hx hb dL_told_15 hl (by decide) rfl (fun ls hl => ?_)
    refine lv_iconst (v := 1) hx hb dL_told_17 (by decide) ?_
    exact W.iret (v := 1) hx hb hr (fun t ht hW => ⟨⟨1, (S, fo), rfl, ⟨h, QC.rf⟩, by rw [ht]; exact hP, va_K.moved hW.alike hK, hD⟩, hS.F ht⟩) hS.2.2 dL_told_18
  · have hj : j < 8 := by have := h.n8; omega
    rcases kOut_01 p1 0 (gI S a 2 - 1) with hv | hv
    · rcases kOut_01 p2 0 3 with h1 | h1
      · have h1_9 := h1
        obtain ⟨q, hlo_q, hhi_q, rfl⟩ := kIn_nat 0 3 (by omega) (by omega) (kIn_out.mpr h1_9)
        refine kj_i (List.Perm.refl _) (va_runV (As := [.int (nI j), .int p1, .int (nI q)]) (rest := [.int 0, .ref qo]) ⟨hx, hb, hml, hown, htT⟩ (c_told l D cA _ S x h.hx ar h.q0 ak h.q1 h.kk h.R j hj a hja (nI j) hsw p1 hv q (by omega)) (cwV 3 htT (kg_V m_ml_L_82 m_im_X5_told m_sl_X5_told m_in_X5 m_cd_X5_told) rfl rfl rfl (by decide +kernel) ⟨Nat.le_of_ble_eq_true rfl, Nat.le_of_ble_eq_true rfl⟩) (kj_V (List.Perm.refl _) hK hP hD hTB (kj_rc (List.Perm.refl _) hK hP h.hx (Nat.le_of_ble_eq_true rfl) rfl)) rfl rfl hl.1 rfl (lv_room (Nat.le_of_ble_eq_true rfl)) dL_told_7 ⟨Nat.le_of_ble_eq_true rfl, Nat.le_of_ble_eq_true rfl⟩) hP hD hS hA (fun r_1 x_1 H locs hq_1 hP hD hS => ?_)
        refine lv_i2l (v := r_1.toInt64) hx hb dL_told_10 rfl ?_
        refine kw_last hx hb hK hP hD hS dL_told_11 (fun H locs hP hD hS => ?_)
        refine lv_goto (tgt := 23) hx hb dL_told_12 (by decide) ?_
        refine lv_iconst (v := 0) hx hb dL_told_23 (by decide) ?_
        refine W.widen (k := 1) (n := 6) (Nat.le_of_ble_eq_true rfl) (Nat.le_of_ble_eq_true rfl) ?_
        exact W.iret (v := 0) hx hb hr (fun t ht hW => ⟨⟨0, (x_1, vp_updL fo 0 r_1.toInt64), rfl, ⟨by rw [hq_1.2]; exact h, by rw [hq_1.2]; exact QC.rf⟩, by rw [ht]; exact hP, va_K.moved hW.alike hK, hD⟩, hS.F ht⟩) hS.2.2 dL_told_24
      · refine kj_t (List.Perm.refl _) (vx_runV (As := [.int (nI j), .int p1, .int p2]) (rest := [.int 0, .ref qo]) ⟨hx, hb, hml, hown, htT⟩ (c_told_1 l hst D cA _ S x h.hx ar h.q0 ak h.q1 h.kk h.R j hj a hja (nI j) hsw p1 p2 hv h1) (cwV 3 htT (kg_V m_ml_L_82 m_im_X5_told m_sl_X5_told m_in_X5 m_cd_X5_told) rfl rfl rfl (by decide +kernel) ⟨Nat.le_of_ble_eq_true rfl, Nat.le_of_ble_eq_true rfl⟩) (kj_VX (List.Perm.refl _) hK hP hD hTB hTX hS hA (kj_rc (List.Perm.refl _) hK hP h.hx (Nat.le_of_ble_eq_true rfl) rfl)) rfl rfl hl.1 rfl (lv_room (Nat.le_of_ble_eq_true rfl)) dL_told_7 ⟨Nat.le_of_ble_eq_true rfl, Nat.le_of_ble_eq_true rfl⟩) hP hD hS hA (fun ce q9 H locs hP hD hS hce hcv hcl => ?_)
        refine vx_catch hown [⟨0, 12, 15, 21⟩] ⟨0, 12, 19, 13⟩ [] (hTab.trans rfl) (fun z hz => by obtain rfl := List.mem_singleton.mp hz; first | exact Or.inr ⟨by decide, _, htT _ m_cl_L_21, hTX.2.2.2 ("java/lang/IllegalArgumentException", "java/lang/IndexOutOfBoundsException") (by decide +kernel)⟩) rfl (by decide) (htT _ m_cl_L_13) (hTB.use (n_ca _ (by decide))) hce hcv hcl ?_
        refine lv_astore (lv' := [(5, .ref q9), (0, .ref x), (1, .int (nI j)), (2, .int p1), (3, .int p2), (4, .ref qo)]) hx hb dL_told_19 hl (by decide) rfl (fun ls hl => ?_)
        refine lv_iconst (v := 2) hx hb dL_told_21 (by decide) ?_
        exact W.iret (v := 2) hx hb hr (fun t ht hW => ⟨⟨2, (S, fo), rfl, ⟨h, QC.rf⟩, by rw [ht]; exact hP, va_K.moved hW.alike hK, hD⟩, hS.F ht⟩) hS.2.2 dL_told_22
    · refine kj_t (List.Perm.refl _) (vx_runV (As := [.int (nI j), .int p1, .int p2]) (rest := [.int 0, .ref qo]) ⟨hx, hb, hml, hown, htT⟩ (c_told_v l hst D cA _ S x h.hx ar h.q0 ak h.q1 h.kk h.R j hj a hja (nI j) hsw p1 p2 hv) (cwV 3 htT (kg_V m_ml_L_82 m_im_X5_told m_sl_X5_told m_in_X5 m_cd_X5_told) rfl rfl rfl (by decide +kernel) ⟨Nat.le_of_ble_eq_true rfl, Nat.le_of_ble_eq_true rfl⟩) (kj_VX (List.Perm.refl _) hK hP hD hTB hTX hS hA (kj_rc (List.Perm.refl _) hK hP h.hx (Nat.le_of_ble_eq_true rfl) rfl)) rfl rfl hl.1 rfl (lv_room (Nat.le_of_ble_eq_true rfl)) dL_told_7 ⟨Nat.le_of_ble_eq_true rfl, Nat.le_of_ble_eq_true rfl⟩) hP hD hS hA (fun ce q9 H locs hP hD hS hce hcv hcl => ?_)
      refine vx_catch hown [] ⟨0, 12, 15, 21⟩ [⟨0, 12, 19, 13⟩] (hTab.trans rfl) (fun z hz => nomatch hz) rfl (by decide) (htT _ m_cl_L_21) (hTB.use (n_ca _ (by decide))) hce hcv hcl ?_
      refine lv_astore (lv' := [(5, .ref q9), (0, .ref x), (1, .int (nI j)), (2, .int p1), (3, .int p2), (4, .ref qo)]) hx hb dL_told_15 hl (by decide) rfl (fun ls hl => ?_)
      refine lv_iconst (v := 1) hx hb dL_told_17 (by decide) ?_
      exact W.iret (v := 1) hx hb hr (fun t ht hW => ⟨⟨1, (S, fo), rfl, ⟨h, QC.rf⟩, by rw [ht]; exact hP, va_K.moved hW.alike hK, hD⟩, hS.F ht⟩) hS.2.2 dL_told_18

set_option maxRecDepth 100000 in
set_option maxHeartbeats 4000000 in
theorem w_reach (l : Launch) (hst : l.stackTraces = false) (D : va_G) (cA : Nat → ClassId) (sz : Nat) (S : Pool) (x qo : Nat) (fo : Nat → Int64) (n na : Nat) (hh cc : Int32) (ar ak : Nat) (h : INVC n na hh cc S x ar ak) (p0 p1 p2 : Int32) : Met l yL_reach (Cond.codeWith yL_reach cL_reach 6 (some .int) [(0, 12, 15, 21), (0, 12, 19, 13)] :: TT) ({ frames := 27, cells := 1, slots := 6, locals := 646 }) (va_Pc [.ref x, .int p0, .int p1, .int p2, .ref qo] (kPreX D cA (PW cA S ++ [oJ cA qo fo]) sz)) (va_Qi (fun (r_ : Int32) (x_ : Pool × (Nat → Int64)) => INVC n na hh cc x_.1 x ar ak ∧ QC S x_.1) (fun x_ => kB D cA (va_A (PW cA S ++ [oJ cA qo fo]) sz) (PW cA x_.1 ++ [oJ cA qo x_.2])) (va_A (PW cA S ++ [oJ cA qo fo]) sz)) 1 6 (va_A (PW cA S ++ [oJ cA qo fo]) sz) := by
  refine kt_ofWH (cc := cL_reach) (maxL := 6) (ret := (some .int)) (by decide) rfl ?_
  intro p e s m args below meth c s₁ B hml hTab hv
  obtain ⟨rfl, ⟨hsz, hP, hK, hD0, hTB⟩, hTX⟩ := hv
  have hx := B.exec
  have hb := B.bytes
  have hr := B.returns
  have hts := atoms_spec (ws := Cond.codeWith yL_reach cL_reach 6 (some .int) [(0, 12, 15, 21), (0, 12, 19, 13)] :: TT) B.pre
  have htT : ∀ w ∈ TT, w.before _ s = true := fun w h => hts w (List.mem_cons_of_mem _ h)
  have hown : s.vm.findClass RL = some m.cls := findClass_of_methodNamed B.named
  have hlocks := B.notSynchronized
  subst hsz
  have hD := hD0.self (sz := s.heap.size)
  generalize hAe : va_A (PW cA S ++ [oJ cA qo fo]) s.heap.size = A at hD hTX ⊢
  have hA : ∀ q : Nat, s.heap.size ≤ q → A q := fun q h => by rw [← hAe]; exact Or.inr h
  have hS : va_S A s.heap s.heap [] := va_S.rf
  have hl := lv_entry ([.ref x, .int p0, .int p1, .int p2, .ref qo]) (n := 6) (Nat.le_of_ble_eq_true rfl)
  rw [lg_entry_eq]
  generalize (lg_sl ([.ref x, .int p0, .int p1, .int p2, .ref qo]) ++ List.replicate (6 - (lg_sl ([.ref x, .int p0, .int p1, .int p2, .ref qo])).length) Slot.unset).toArray = ls at hl ⊢
  have hl : lv_has ls 6 [(0, .ref x), (1, .int p0), (2, .int p1), (3, .int p2), (4, .ref qo)] := hl
  refine lv_aload hx hb dL_reach_0 (lv_at hl 4 rfl) ?_
  refine lv_iconst (v := 0) hx hb dL_reach_2 (by decide) ?_
  refine lv_aload_n hx hb dL_reach_3 rfl (lv_at hl 0 rfl) ?_
  refine lv_iload_n hx hb dL_reach_4 rfl (lv_at hl 1 rfl) ?_
  refine lv_iload_n hx hb dL_reach_5 rfl (lv_at hl 2 rfl) ?_
  refine lv_iload_n hx hb dL_reach_6 rfl (lv_at hl 3 rfl) ?_
  rcases h.at p0 with ⟨hsw, -⟩ | ⟨j, a, hjn, rfl, hja, hsw⟩
  · refine kj_t (List.Perm.refl _) (vx_runV (As := [.int p0, .int p1, .int p2]) (rest := [.int 0, .ref qo]) ⟨hx, hb, hml, hown, htT⟩ (c_reach_t l hst D cA _ S x h.hx ar h.q0 h.R.1 p0 p1 p2 hsw) (cwV 3 htT (kg_V m_ml_L_105 m_im_X5_reach m_sl_X5_reach m_in_X5 m_cd_X5_reach) rfl rfl rfl (by decide +kernel) ⟨Nat.le_of_ble_eq_true rfl, Nat.le_of_ble_eq_true rfl⟩) (kj_VX (List.Perm.refl _) hK hP hD hTB hTX hS hA (kj_rc (List.Perm.refl _) hK hP h.hx (Nat.le_of_ble_eq_true rfl) rfl)) rfl rfl hl.1 rfl (lv_room (Nat.le_of_ble_eq_true rfl)) dL_reach_7 ⟨Nat.le_of_ble_eq_true rfl, Nat.le_of_ble_eq_true rfl⟩) hP hD hS hA (fun ce q9 H locs hP hD hS hce hcv hcl => ?_)
    refine vx_catch hown [] ⟨0, 12, 15, 21⟩ [⟨0, 12, 19, 13⟩] (hTab.trans rfl) (fun z hz => nomatch hz) rfl (by decide) (htT _ m_cl_L_21) (hTB.use (n_ca _ (by decide))) hce hcv hcl ?_
    refine lv_astore (lv' := [(5, .ref q9), (0, .ref x), (1, .int p0), (2, .int p1), (3, .int p2), (4, .ref qo)]) hx hb dL_reach_15 hl (by decide) rfl (fun ls hl => ?_)
    refine lv_iconst (v := 1) hx hb dL_reach_17 (by decide) ?_
    exact W.iret (v := 1) hx hb hr (fun t ht hW => ⟨⟨1, (S, fo), rfl, ⟨h, QC.rf⟩, by rw [ht]; exact hP, va_K.moved hW.alike hK, hD⟩, hS.F ht⟩) hS.2.2 dL_reach_18
  · have hj : j < 8 := by have := h.n8; omega
    rcases kOut_01 p1 0 (gI S a 2 - 1) with hv | hv
    · rcases kOut_01 p2 1 200 with h1 | h1
      · have h1_9 := h1
        obtain ⟨mm, hlo_mm, hhi_mm, rfl⟩ := kIn_nat 1 200 (by omega) (by omega) (kIn_out.mpr h1_9)
        refine kj_i (List.Perm.refl _) (va_runV (As := [.int (nI j), .int p1, .int (nI mm)]) (rest := [.int 0, .ref qo]) ⟨hx, hb, hml, hown, htT⟩ (c_reach l D cA _ S x h.hx ar h.q0 ak h.q1 h.kk h.R j hj a hja (nI j) hsw p1 hv mm hlo_mm hhi_mm h1) (cwV 3 htT (kg_V m_ml_L_105 m_im_X5_reach m_sl_X5_reach m_in_X5 m_cd_X5_reach) rfl rfl rfl (by decide +kernel) ⟨Nat.le_of_ble_eq_true rfl, Nat.le_of_ble_eq_true rfl⟩) (kj_V (List.Perm.refl _) hK hP hD hTB (kj_rc (List.Perm.refl _) hK hP h.hx (Nat.le_of_ble_eq_true rfl) rfl)) rfl rfl hl.1 rfl (lv_room (Nat.le_of_ble_eq_true rfl)) dL_reach_7 ⟨Nat.le_of_ble_eq_true rfl, Nat.le_of_ble_eq_true rfl⟩) hP hD hS hA (fun r_1 x_1 H locs hq_1 hP hD hS => ?_)
        refine lv_i2l (v := r_1.toInt64) hx hb dL_reach_10 rfl ?_
        refine kw_last hx hb hK hP hD hS dL_reach_11 (fun H locs hP hD hS => ?_)
        refine lv_goto (tgt := 23) hx hb dL_reach_12 (by decide) ?_
        refine lv_iconst (v := 0) hx hb dL_reach_23 (by decide) ?_
        refine W.widen (k := 1) (n := 6) (Nat.le_of_ble_eq_true rfl) (Nat.le_of_ble_eq_true rfl) ?_
        exact W.iret (v := 0) hx hb hr (fun t ht hW => ⟨⟨0, (x_1, vp_updL fo 0 r_1.toInt64), rfl, ⟨h.eA hq_1, eqA.qc hq_1 h.kk⟩, by rw [ht]; exact hP, va_K.moved hW.alike hK, hD⟩, hS.F ht⟩) hS.2.2 dL_reach_24
      · refine kj_t (List.Perm.refl _) (vx_runV (As := [.int (nI j), .int p1, .int p2]) (rest := [.int 0, .ref qo]) ⟨hx, hb, hml, hown, htT⟩ (c_reach_1 l hst D cA _ S x h.hx ar h.q0 ak h.q1 h.kk h.R j hj a hja (nI j) hsw p1 p2 hv h1) (cwV 3 htT (kg_V m_ml_L_105 m_im_X5_reach m_sl_X5_reach m_in_X5 m_cd_X5_reach) rfl rfl rfl (by decide +kernel) ⟨Nat.le_of_ble_eq_true rfl, Nat.le_of_ble_eq_true rfl⟩) (kj_VX (List.Perm.refl _) hK hP hD hTB hTX hS hA (kj_rc (List.Perm.refl _) hK hP h.hx (Nat.le_of_ble_eq_true rfl) rfl)) rfl rfl hl.1 rfl (lv_room (Nat.le_of_ble_eq_true rfl)) dL_reach_7 ⟨Nat.le_of_ble_eq_true rfl, Nat.le_of_ble_eq_true rfl⟩) hP hD hS hA (fun ce q9 H locs hP hD hS hce hcv hcl => ?_)
        refine vx_catch hown [⟨0, 12, 15, 21⟩] ⟨0, 12, 19, 13⟩ [] (hTab.trans rfl) (fun z hz => by obtain rfl := List.mem_singleton.mp hz; first | exact Or.inr ⟨by decide, _, htT _ m_cl_L_21, hTX.2.2.2 ("java/lang/IllegalArgumentException", "java/lang/IndexOutOfBoundsException") (by decide +kernel)⟩) rfl (by decide) (htT _ m_cl_L_13) (hTB.use (n_ca _ (by decide))) hce hcv hcl ?_
        refine lv_astore (lv' := [(5, .ref q9), (0, .ref x), (1, .int (nI j)), (2, .int p1), (3, .int p2), (4, .ref qo)]) hx hb dL_reach_19 hl (by decide) rfl (fun ls hl => ?_)
        refine lv_iconst (v := 2) hx hb dL_reach_21 (by decide) ?_
        exact W.iret (v := 2) hx hb hr (fun t ht hW => ⟨⟨2, (S, fo), rfl, ⟨h, QC.rf⟩, by rw [ht]; exact hP, va_K.moved hW.alike hK, hD⟩, hS.F ht⟩) hS.2.2 dL_reach_22
    · refine kj_t (List.Perm.refl _) (vx_runV (As := [.int (nI j), .int p1, .int p2]) (rest := [.int 0, .ref qo]) ⟨hx, hb, hml, hown, htT⟩ (c_reach_v l hst D cA _ S x h.hx ar h.q0 ak h.q1 h.kk h.R j hj a hja (nI j) hsw p1 p2 hv) (cwV 3 htT (kg_V m_ml_L_105 m_im_X5_reach m_sl_X5_reach m_in_X5 m_cd_X5_reach) rfl rfl rfl (by decide +kernel) ⟨Nat.le_of_ble_eq_true rfl, Nat.le_of_ble_eq_true rfl⟩) (kj_VX (List.Perm.refl _) hK hP hD hTB hTX hS hA (kj_rc (List.Perm.refl _) hK hP h.hx (Nat.le_of_ble_eq_true rfl) rfl)) rfl rfl hl.1 rfl (lv_room (Nat.le_of_ble_eq_true rfl)) dL_reach_7 ⟨Nat.le_of_ble_eq_true rfl, Nat.le_of_ble_eq_true rfl⟩) hP hD hS hA (fun ce q9 H locs hP hD hS hce hcv hcl => ?_)
      refine vx_catch hown [] ⟨0, 12, 15, 21⟩ [⟨0, 12, 19, 13⟩] (hTab.trans rfl) (fun z hz => nomatch hz) rfl (by decide) (htT _ m_cl_L_21) (hTB.use (n_ca _ (by decide))) hce hcv hcl ?_
      refine lv_astore (lv' := [(5, .ref q9), (0, .ref x), (1, .int (nI j)), (2, .int p1), (3, .int p2), (4, .ref qo)]) hx hb dL_reach_15 hl (by decide) rfl (fun ls hl => ?_)
      refine lv_iconst (v := 1) hx hb dL_reach_17 (by decide) ?_
      exact W.iret (v := 1) hx hb hr (fun t ht hW => ⟨⟨1, (S, fo), rfl, ⟨h, QC.rf⟩, by rw [ht]; exact hP, va_K.moved hW.alike hK, hD⟩, hS.F ht⟩) hS.2.2 dL_reach_18

set_option maxRecDepth 100000 in
set_option maxHeartbeats 4000000 in
theorem w_wouldChange (l : Launch) (hst : l.stackTraces = false) (D : va_G) (cA : Nat → ClassId) (sz : Nat) (S : Pool) (x qo : Nat) (fo : Nat → Int64) (n na : Nat) (hh cc : Int32) (ar ak : Nat) (h : INVC n na hh cc S x ar ak) (p0 p1 p2 : Int32) : Met l yL_wouldChange (Cond.codeWith yL_wouldChange cL_wouldChange 6 (some .int) [(0, 12, 15, 21), (0, 12, 19, 13)] :: TT) ({ frames := 27, cells := 1, slots := 6, locals := 647 }) (va_Pc [.ref x, .int p0, .int p1, .int p2, .ref qo] (kPreX D cA (PW cA S ++ [oJ cA qo fo]) sz)) (va_Qi (fun (r_ : Int32) (x_ : Pool × (Nat → Int64)) => INVC n na hh cc x_.1 x ar ak ∧ QC S x_.1) (fun x_ => kB D cA (va_A (PW cA S ++ [oJ cA qo fo]) sz) (PW cA x_.1 ++ [oJ cA qo x_.2])) (va_A (PW cA S ++ [oJ cA qo fo]) sz)) 1 6 (va_A (PW cA S ++ [oJ cA qo fo]) sz) := by
  refine kt_ofWH (cc := cL_wouldChange) (maxL := 6) (ret := (some .int)) (by decide) rfl ?_
  intro p e s m args below meth c s₁ B hml hTab hv
  obtain ⟨rfl, ⟨hsz, hP, hK, hD0, hTB⟩, hTX⟩ := hv
  have hx := B.exec
  have hb := B.bytes
  have hr := B.returns
  have hts := atoms_spec (ws := Cond.codeWith yL_wouldChange cL_wouldChange 6 (some .int) [(0, 12, 15, 21), (0, 12, 19, 13)] :: TT) B.pre
  have htT : ∀ w ∈ TT, w.before _ s = true := fun w h => hts w (List.mem_cons_of_mem _ h)
  have hown : s.vm.findClass RL = some m.cls := findClass_of_methodNamed B.named
  have hlocks := B.notSynchronized
  subst hsz
  have hD := hD0.self (sz := s.heap.size)
  generalize hAe : va_A (PW cA S ++ [oJ cA qo fo]) s.heap.size = A at hD hTX ⊢
  have hA : ∀ q : Nat, s.heap.size ≤ q → A q := fun q h => by rw [← hAe]; exact Or.inr h
  have hS : va_S A s.heap s.heap [] := va_S.rf
  have hl := lv_entry ([.ref x, .int p0, .int p1, .int p2, .ref qo]) (n := 6) (Nat.le_of_ble_eq_true rfl)
  rw [lg_entry_eq]
  generalize (lg_sl ([.ref x, .int p0, .int p1, .int p2, .ref qo]) ++ List.replicate (6 - (lg_sl ([.ref x, .int p0, .int p1, .int p2, .ref qo])).length) Slot.unset).toArray = ls at hl ⊢
  have hl : lv_has ls 6 [(0, .ref x), (1, .int p0), (2, .int p1), (3, .int p2), (4, .ref qo)] := hl
  refine lv_aload hx hb dL_wouldChange_0 (lv_at hl 4 rfl) ?_
  refine lv_iconst (v := 0) hx hb dL_wouldChange_2 (by decide) ?_
  refine lv_aload_n hx hb dL_wouldChange_3 rfl (lv_at hl 0 rfl) ?_
  refine lv_iload_n hx hb dL_wouldChange_4 rfl (lv_at hl 1 rfl) ?_
  refine lv_iload_n hx hb dL_wouldChange_5 rfl (lv_at hl 2 rfl) ?_
  refine lv_iload_n hx hb dL_wouldChange_6 rfl (lv_at hl 3 rfl) ?_
  rcases h.at p0 with ⟨hsw, -⟩ | ⟨j, a, hjn, rfl, hja, hsw⟩
  · refine kj_t (List.Perm.refl _) (vx_runV (As := [.int p0, .int p1, .int p2]) (rest := [.int 0, .ref qo]) ⟨hx, hb, hml, hown, htT⟩ (c_wouldChange_t l hst D cA _ S x h.hx ar h.q0 h.R.1 p0 p1 p2 hsw) (cwV 3 htT (kg_V m_ml_L_111 m_im_X5_wouldChange m_sl_X5_wouldChange m_in_X5 m_cd_X5_wouldChange) rfl rfl rfl (by decide +kernel) ⟨Nat.le_of_ble_eq_true rfl, Nat.le_of_ble_eq_true rfl⟩) (kj_VX (List.Perm.refl _) hK hP hD hTB hTX hS hA (kj_rc (List.Perm.refl _) hK hP h.hx (Nat.le_of_ble_eq_true rfl) rfl)) rfl rfl hl.1 rfl (lv_room (Nat.le_of_ble_eq_true rfl)) dL_wouldChange_7 ⟨Nat.le_of_ble_eq_true rfl, Nat.le_of_ble_eq_true rfl⟩) hP hD hS hA (fun ce q9 H locs hP hD hS hce hcv hcl => ?_)
    refine vx_catch hown [] ⟨0, 12, 15, 21⟩ [⟨0, 12, 19, 13⟩] (hTab.trans rfl) (fun z hz => nomatch hz) rfl (by decide) (htT _ m_cl_L_21) (hTB.use (n_ca _ (by decide))) hce hcv hcl ?_
    refine lv_astore (lv' := [(5, .ref q9), (0, .ref x), (1, .int p0), (2, .int p1), (3, .int p2), (4, .ref qo)]) hx hb dL_wouldChange_15 hl (by decide) rfl (fun ls hl => ?_)
    refine lv_iconst (v := 1) hx hb dL_wouldChange_17 (by decide) ?_
    exact W.iret (v := 1) hx hb hr (fun t ht hW => ⟨⟨1, (S, fo), rfl, ⟨h, QC.rf⟩, by rw [ht]; exact hP, va_K.moved hW.alike hK, hD⟩, hS.F ht⟩) hS.2.2 dL_wouldChange_18
  · have hj : j < 8 := by have := h.n8; omega
    rcases kOut_01 p1 0 1000 with h2 | h2
    · rcases kOut_01 p2 1 200 with h1 | h1
      · have h1_9 := h1
        obtain ⟨mm, hlo_mm, hhi_mm, rfl⟩ := kIn_nat 1 200 (by omega) (by omega) (kIn_out.mpr h1_9)
        refine kj_i (List.Perm.refl _) (va_runV (As := [.int (nI j), .int p1, .int (nI mm)]) (rest := [.int 0, .ref qo]) ⟨hx, hb, hml, hown, htT⟩ (c_wouldChange l D cA _ S x h.hx ar h.q0 ak h.q1 h.kk h.R j hj a hja (nI j) hsw p1 h2 mm hlo_mm hhi_mm h1) (cwV 3 htT (kg_V m_ml_L_111 m_im_X5_wouldChange m_sl_X5_wouldChange m_in_X5 m_cd_X5_wouldChange) rfl rfl rfl (by decide +kernel) ⟨Nat.le_of_ble_eq_true rfl, Nat.le_of_ble_eq_true rfl⟩) (kj_V (List.Perm.refl _) hK hP hD hTB (kj_rc (List.Perm.refl _) hK hP h.hx (Nat.le_of_ble_eq_true rfl) rfl)) rfl rfl hl.1 rfl (lv_room (Nat.le_of_ble_eq_true rfl)) dL_wouldChange_7 ⟨Nat.le_of_ble_eq_true rfl, Nat.le_of_ble_eq_true rfl⟩) hP hD hS hA (fun r_1 x_1 H locs hq_1 hP hD hS => ?_)
        refine lv_i2l (v := r_1.toInt64) hx hb dL_wouldChange_10 rfl ?_
        refine kw_last hx hb hK hP hD hS dL_wouldChange_11 (fun H locs hP hD hS => ?_)
        refine lv_goto (tgt := 23) hx hb dL_wouldChange_12 (by decide) ?_
        refine lv_iconst (v := 0) hx hb dL_wouldChange_23 (by decide) ?_
        refine W.widen (k := 1) (n := 6) (Nat.le_of_ble_eq_true rfl) (Nat.le_of_ble_eq_true rfl) ?_
        exact W.iret (v := 0) hx hb hr (fun t ht hW => ⟨⟨0, (x_1, vp_updL fo 0 r_1.toInt64), rfl, ⟨h.eA hq_1, eqA.qc hq_1 h.kk⟩, by rw [ht]; exact hP, va_K.moved hW.alike hK, hD⟩, hS.F ht⟩) hS.2.2 dL_wouldChange_24
      · refine kj_t (List.Perm.refl _) (vx_runV (As := [.int (nI j), .int p1, .int p2]) (rest := [.int 0, .ref qo]) ⟨hx, hb, hml, hown, htT⟩ (c_wouldChange_2 l hst D cA _ S x h.hx ar h.q0 ak h.q1 h.kk h.R j hj a hja (nI j) hsw p1 p2 h2 h1) (cwV 3 htT (kg_V m_ml_L_111 m_im_X5_wouldChange m_sl_X5_wouldChange m_in_X5 m_cd_X5_wouldChange) rfl rfl rfl (by decide +kernel) ⟨Nat.le_of_ble_eq_true rfl, Nat.le_of_ble_eq_true rfl⟩) (kj_VX (List.Perm.refl _) hK hP hD hTB hTX hS hA (kj_rc (List.Perm.refl _) hK hP h.hx (Nat.le_of_ble_eq_true rfl) rfl)) rfl rfl hl.1 rfl (lv_room (Nat.le_of_ble_eq_true rfl)) dL_wouldChange_7 ⟨Nat.le_of_ble_eq_true rfl, Nat.le_of_ble_eq_true rfl⟩) hP hD hS hA (fun ce q9 H locs hP hD hS hce hcv hcl => ?_)
        refine vx_catch hown [⟨0, 12, 15, 21⟩] ⟨0, 12, 19, 13⟩ [] (hTab.trans rfl) (fun z hz => by obtain rfl := List.mem_singleton.mp hz; first | exact Or.inr ⟨by decide, _, htT _ m_cl_L_21, hTX.2.2.2 ("java/lang/IllegalArgumentException", "java/lang/IndexOutOfBoundsException") (by decide +kernel)⟩) rfl (by decide) (htT _ m_cl_L_13) (hTB.use (n_ca _ (by decide))) hce hcv hcl ?_
        refine lv_astore (lv' := [(5, .ref q9), (0, .ref x), (1, .int (nI j)), (2, .int p1), (3, .int p2), (4, .ref qo)]) hx hb dL_wouldChange_19 hl (by decide) rfl (fun ls hl => ?_)
        refine lv_iconst (v := 2) hx hb dL_wouldChange_21 (by decide) ?_
        exact W.iret (v := 2) hx hb hr (fun t ht hW => ⟨⟨2, (S, fo), rfl, ⟨h, QC.rf⟩, by rw [ht]; exact hP, va_K.moved hW.alike hK, hD⟩, hS.F ht⟩) hS.2.2 dL_wouldChange_22
    · refine kj_t (List.Perm.refl _) (vx_runV (As := [.int (nI j), .int p1, .int p2]) (rest := [.int 0, .ref qo]) ⟨hx, hb, hml, hown, htT⟩ (c_wouldChange_1 l hst D cA _ S x h.hx ar h.q0 ak h.q1 h.kk h.R j hj a hja (nI j) hsw p1 p2 h2) (cwV 3 htT (kg_V m_ml_L_111 m_im_X5_wouldChange m_sl_X5_wouldChange m_in_X5 m_cd_X5_wouldChange) rfl rfl rfl (by decide +kernel) ⟨Nat.le_of_ble_eq_true rfl, Nat.le_of_ble_eq_true rfl⟩) (kj_VX (List.Perm.refl _) hK hP hD hTB hTX hS hA (kj_rc (List.Perm.refl _) hK hP h.hx (Nat.le_of_ble_eq_true rfl) rfl)) rfl rfl hl.1 rfl (lv_room (Nat.le_of_ble_eq_true rfl)) dL_wouldChange_7 ⟨Nat.le_of_ble_eq_true rfl, Nat.le_of_ble_eq_true rfl⟩) hP hD hS hA (fun ce q9 H locs hP hD hS hce hcv hcl => ?_)
      refine vx_catch hown [⟨0, 12, 15, 21⟩] ⟨0, 12, 19, 13⟩ [] (hTab.trans rfl) (fun z hz => by obtain rfl := List.mem_singleton.mp hz; first | exact Or.inr ⟨by decide, _, htT _ m_cl_L_21, hTX.2.2.2 ("java/lang/IllegalArgumentException", "java/lang/IndexOutOfBoundsException") (by decide +kernel)⟩) rfl (by decide) (htT _ m_cl_L_13) (hTB.use (n_ca _ (by decide))) hce hcv hcl ?_
      refine lv_astore (lv' := [(5, .ref q9), (0, .ref x), (1, .int (nI j)), (2, .int p1), (3, .int p2), (4, .ref qo)]) hx hb dL_wouldChange_19 hl (by decide) rfl (fun ls hl => ?_)
      refine lv_iconst (v := 2) hx hb dL_wouldChange_21 (by decide) ?_
      exact W.iret (v := 2) hx hb hr (fun t ht hW => ⟨⟨2, (S, fo), rfl, ⟨h, QC.rf⟩, by rw [ht]; exact hP, va_K.moved hW.alike hK, hD⟩, hS.F ht⟩) hS.2.2 dL_wouldChange_22

set_option maxRecDepth 100000 in
set_option maxHeartbeats 4000000 in
theorem w_wouldTurn (l : Launch) (hst : l.stackTraces = false) (D : va_G) (cA : Nat → ClassId) (sz : Nat) (S : Pool) (x qo : Nat) (fo : Nat → Int64) (n na : Nat) (hh cc : Int32) (ar ak : Nat) (h : INVC n na hh cc S x ar ak) (p0 p1 : Int32) : Met l yL_wouldTurn (Cond.codeWith yL_wouldTurn cL_wouldTurn 5 (some .int) [(0, 10, 13, 21), (0, 10, 17, 13)] :: TT) ({ frames := 28, cells := 1, slots := 6, locals := 669 }) (va_Pc [.ref x, .int p0, .int p1, .ref qo] (kPreX D cA (PW cA S ++ [oJ cA qo fo]) sz)) (va_Qi (fun (r_ : Int32) (x_ : Pool × (Nat → Int64)) => INVC n na hh cc x_.1 x ar ak ∧ QC S x_.1) (fun x_ => kB D cA (va_A (PW cA S ++ [oJ cA qo fo]) sz) (PW cA x_.1 ++ [oJ cA qo x_.2])) (va_A (PW cA S ++ [oJ cA qo fo]) sz)) 1 6 (va_A (PW cA S ++ [oJ cA qo fo]) sz) := by
  refine kt_ofWH (cc := cL_wouldTurn) (maxL := 5) (ret := (some .int)) (by decide) rfl ?_
  intro p e s m args below meth c s₁ B hml hTab hv
  obtain ⟨rfl, ⟨hsz, hP, hK, hD0, hTB⟩, hTX⟩ := hv
  have hx := B.exec
  have hb := B.bytes
  have hr := B.returns
  have hts := atoms_spec (ws := Cond.codeWith yL_wouldTurn cL_wouldTurn 5 (some .int) [(0, 10, 13, 21), (0, 10, 17, 13)] :: TT) B.pre
  have htT : ∀ w ∈ TT, w.before _ s = true := fun w h => hts w (List.mem_cons_of_mem _ h)
  have hown : s.vm.findClass RL = some m.cls := findClass_of_methodNamed B.named
  have hlocks := B.notSynchronized
  subst hsz
  have hD := hD0.self (sz := s.heap.size)
  generalize hAe : va_A (PW cA S ++ [oJ cA qo fo]) s.heap.size = A at hD hTX ⊢
  have hA : ∀ q : Nat, s.heap.size ≤ q → A q := fun q h => by rw [← hAe]; exact Or.inr h
  have hS : va_S A s.heap s.heap [] := va_S.rf
  have hl := lv_entry ([.ref x, .int p0, .int p1, .ref qo]) (n := 5) (Nat.le_of_ble_eq_true rfl)
  rw [lg_entry_eq]
  generalize (lg_sl ([.ref x, .int p0, .int p1, .ref qo]) ++ List.replicate (5 - (lg_sl ([.ref x, .int p0, .int p1, .ref qo])).length) Slot.unset).toArray = ls at hl ⊢
  have hl : lv_has ls 5 [(0, .ref x), (1, .int p0), (2, .int p1), (3, .ref qo)] := hl
  refine lv_aload_n hx hb dL_wouldTurn_0 rfl (lv_at hl 3 rfl) ?_
  refine lv_iconst (v := 0) hx hb dL_wouldTurn_1 (by decide) ?_
  refine lv_aload_n hx hb dL_wouldTurn_2 rfl (lv_at hl 0 rfl) ?_
  refine lv_iload_n hx hb dL_wouldTurn_3 rfl (lv_at hl 1 rfl) ?_
  refine lv_iload_n hx hb dL_wouldTurn_4 rfl (lv_at hl 2 rfl) ?_
  rcases h.at p0 with ⟨hsw, -⟩ | ⟨j, a, hjn, rfl, hja, hsw⟩
  · refine kj_t (List.Perm.refl _) (vx_runV (As := [.int p0, .int p1]) (rest := [.int 0, .ref qo]) ⟨hx, hb, hml, hown, htT⟩ (c_wouldTurn_t l hst D cA _ S x h.hx ar h.q0 h.R.1 p0 p1 hsw) (cwV 2 htT (kg_V m_ml_L_114 m_im_X5_wouldTurn m_sl_X5_wouldTurn m_in_X5 m_cd_X5_wouldTurn) rfl rfl rfl (by decide +kernel) ⟨Nat.le_of_ble_eq_true rfl, Nat.le_of_ble_eq_true rfl⟩) (kj_VX (List.Perm.refl _) hK hP hD hTB hTX hS hA (kj_rc (List.Perm.refl _) hK hP h.hx (Nat.le_of_ble_eq_true rfl) rfl)) rfl rfl hl.1 rfl (lv_room (Nat.le_of_ble_eq_true rfl)) dL_wouldTurn_5 ⟨Nat.le_of_ble_eq_true rfl, Nat.le_of_ble_eq_true rfl⟩) hP hD hS hA (fun ce q9 H locs hP hD hS hce hcv hcl => ?_)
    refine vx_catch hown [] ⟨0, 10, 13, 21⟩ [⟨0, 10, 17, 13⟩] (hTab.trans rfl) (fun z hz => nomatch hz) rfl (by decide) (htT _ m_cl_L_21) (hTB.use (n_ca _ (by decide))) hce hcv hcl ?_
    refine lv_astore (lv' := [(4, .ref q9), (0, .ref x), (1, .int p0), (2, .int p1), (3, .ref qo)]) hx hb dL_wouldTurn_13 hl (by decide) rfl (fun ls hl => ?_)
    refine lv_iconst (v := 1) hx hb dL_wouldTurn_15 (by decide) ?_
    exact W.iret (v := 1) hx hb hr (fun t ht hW => ⟨⟨1, (S, fo), rfl, ⟨h, QC.rf⟩, by rw [ht]; exact hP, va_K.moved hW.alike hK, hD⟩, hS.F ht⟩) hS.2.2 dL_wouldTurn_16
  · have hj : j < 8 := by have := h.n8; omega
    rcases kOut_01 p1 1 200 with h1 | h1
    · have h1_9 := h1
      obtain ⟨mm, hlo_mm, hhi_mm, rfl⟩ := kIn_nat 1 200 (by omega) (by omega) (kIn_out.mpr h1_9)
      refine kj_i (List.Perm.refl _) (va_runV (As := [.int (nI j), .int (nI mm)]) (rest := [.int 0, .ref qo]) ⟨hx, hb, hml, hown, htT⟩ (c_wouldTurn l D cA _ S x h.hx ar h.q0 ak h.q1 h.kk h.R j hj a hja j hsw n h.n8 h.x2 hjn mm hlo_mm hhi_mm h1) (cwV 2 htT (kg_V m_ml_L_114 m_im_X5_wouldTurn m_sl_X5_wouldTurn m_in_X5 m_cd_X5_wouldTurn) rfl rfl rfl (by decide +kernel) ⟨Nat.le_of_ble_eq_true rfl, Nat.le_of_ble_eq_true rfl⟩) (kj_V (List.Perm.refl _) hK hP hD hTB (kj_rc (List.Perm.refl _) hK hP h.hx (Nat.le_of_ble_eq_true rfl) rfl)) rfl rfl hl.1 rfl (lv_room (Nat.le_of_ble_eq_true rfl)) dL_wouldTurn_5 ⟨Nat.le_of_ble_eq_true rfl, Nat.le_of_ble_eq_true rfl⟩) hP hD hS hA (fun r_1 x_1 H locs hq_1 hP hD hS => ?_)
      refine lv_i2l (v := r_1.toInt64) hx hb dL_wouldTurn_8 rfl ?_
      refine kw_last hx hb hK hP hD hS dL_wouldTurn_9 (fun H locs hP hD hS => ?_)
      refine lv_goto (tgt := 21) hx hb dL_wouldTurn_10 (by decide) ?_
      refine lv_iconst (v := 0) hx hb dL_wouldTurn_21 (by decide) ?_
      refine W.widen (k := 1) (n := 6) (Nat.le_of_ble_eq_true rfl) (Nat.le_of_ble_eq_true rfl) ?_
      exact W.iret (v := 0) hx hb hr (fun t ht hW => ⟨⟨0, (x_1, vp_updL fo 0 r_1.toInt64), rfl, ⟨h.eA hq_1, eqA.qc hq_1 h.kk⟩, by rw [ht]; exact hP, va_K.moved hW.alike hK, hD⟩, hS.F ht⟩) hS.2.2 dL_wouldTurn_22
    · refine kj_t (List.Perm.refl _) (vx_runV (As := [.int (nI j), .int p1]) (rest := [.int 0, .ref qo]) ⟨hx, hb, hml, hown, htT⟩ (c_wouldTurn_1 l hst D cA _ S x h.hx ar h.q0 ak h.q1 h.kk h.R j hj a hja (nI j) hsw p1 h1) (cwV 2 htT (kg_V m_ml_L_114 m_im_X5_wouldTurn m_sl_X5_wouldTurn m_in_X5 m_cd_X5_wouldTurn) rfl rfl rfl (by decide +kernel) ⟨Nat.le_of_ble_eq_true rfl, Nat.le_of_ble_eq_true rfl⟩) (kj_VX (List.Perm.refl _) hK hP hD hTB hTX hS hA (kj_rc (List.Perm.refl _) hK hP h.hx (Nat.le_of_ble_eq_true rfl) rfl)) rfl rfl hl.1 rfl (lv_room (Nat.le_of_ble_eq_true rfl)) dL_wouldTurn_5 ⟨Nat.le_of_ble_eq_true rfl, Nat.le_of_ble_eq_true rfl⟩) hP hD hS hA (fun ce q9 H locs hP hD hS hce hcv hcl => ?_)
      refine vx_catch hown [⟨0, 10, 13, 21⟩] ⟨0, 10, 17, 13⟩ [] (hTab.trans rfl) (fun z hz => by obtain rfl := List.mem_singleton.mp hz; first | exact Or.inr ⟨by decide, _, htT _ m_cl_L_21, hTX.2.2.2 ("java/lang/IllegalArgumentException", "java/lang/IndexOutOfBoundsException") (by decide +kernel)⟩) rfl (by decide) (htT _ m_cl_L_13) (hTB.use (n_ca _ (by decide))) hce hcv hcl ?_
      refine lv_astore (lv' := [(4, .ref q9), (0, .ref x), (1, .int (nI j)), (2, .int p1), (3, .ref qo)]) hx hb dL_wouldTurn_17 hl (by decide) rfl (fun ls hl => ?_)
      refine lv_iconst (v := 2) hx hb dL_wouldTurn_19 (by decide) ?_
      exact W.iret (v := 2) hx hb hr (fun t ht hW => ⟨⟨2, (S, fo), rfl, ⟨h, QC.rf⟩, by rw [ht]; exact hP, va_K.moved hW.alike hK, hD⟩, hS.F ht⟩) hS.2.2 dL_wouldTurn_20

set_option maxRecDepth 100000 in
set_option maxHeartbeats 4000000 in
theorem w_shareIn (l : Launch) (hst : l.stackTraces = false) (D : va_G) (cA : Nat → ClassId) (sz : Nat) (S : Pool) (x qo : Nat) (fo : Nat → Int64) (n na : Nat) (hh cc : Int32) (ar ak : Nat) (h : INVC n na hh cc S x ar ak) (p0 p1 : Int32) : Met l yL_shareIn (Cond.codeWith yL_shareIn cL_shareIn 5 (some .int) [(0, 10, 13, 21), (0, 10, 17, 13)] :: TT) ({ frames := 8, cells := 1, slots := 6, locals := 127 }) (va_Pc [.ref x, .int p0, .int p1, .ref qo] (kPreX D cA (PW cA S ++ [oJ cA qo fo]) sz)) (va_Qi (fun (r_ : Int32) (x_ : Pool × (Nat → Int64)) => INVC n na hh cc x_.1 x ar ak ∧ QC S x_.1) (fun x_ => kB D cA (va_A (PW cA S ++ [oJ cA qo fo]) sz) (PW cA x_.1 ++ [oJ cA qo x_.2])) (va_A (PW cA S ++ [oJ cA qo fo]) sz)) 1 6 (va_A (PW cA S ++ [oJ cA qo fo]) sz) := by
  refine kt_ofWH (cc := cL_shareIn) (maxL := 5) (ret := (some .int)) (by decide) rfl ?_
  intro p e s m args below meth c s₁ B hml hTab hv
  obtain ⟨rfl, ⟨hsz, hP, hK, hD0, hTB⟩, hTX⟩ := hv
  have hx := B.exec
  have hb := B.bytes
  have hr := B.returns
  have hts := atoms_spec (ws := Cond.codeWith yL_shareIn cL_shareIn 5 (some .int) [(0, 10, 13, 21), (0, 10, 17, 13)] :: TT) B.pre
  have htT : ∀ w ∈ TT, w.before _ s = true := fun w h => hts w (List.mem_cons_of_mem _ h)
  have hown : s.vm.findClass RL = some m.cls := findClass_of_methodNamed B.named
  have hlocks := B.notSynchronized
  subst hsz
  have hD := hD0.self (sz := s.heap.size)
  generalize hAe : va_A (PW cA S ++ [oJ cA qo fo]) s.heap.size = A at hD hTX ⊢
  have hA : ∀ q : Nat, s.heap.size ≤ q → A q := fun q h => by rw [← hAe]; exact Or.inr h
  have hS : va_S A s.heap s.heap [] := va_S.rf
  have hl := lv_entry ([.ref x, .int p0, .int p1, .ref qo]) (n := 5) (Nat.le_of_ble_eq_true rfl)
  rw [lg_entry_eq]
  generalize (lg_sl ([.ref x, .int p0, .int p1, .ref qo]) ++ List.replicate (5 - (lg_sl ([.ref x, .int p0, .int p1, .ref qo])).length) Slot.unset).toArray = ls at hl ⊢
  have hl : lv_has ls 5 [(0, .ref x), (1, .int p0), (2, .int p1), (3, .ref qo)] := hl
  refine lv_aload_n hx hb dL_shareIn_0 rfl (lv_at hl 3 rfl) ?_
  refine lv_iconst (v := 0) hx hb dL_shareIn_1 (by decide) ?_
  refine lv_aload_n hx hb dL_shareIn_2 rfl (lv_at hl 0 rfl) ?_
  refine lv_iload_n hx hb dL_shareIn_3 rfl (lv_at hl 1 rfl) ?_
  refine lv_iload_n hx hb dL_shareIn_4 rfl (lv_at hl 2 rfl) ?_
  rcases h.at p0 with ⟨hsw, -⟩ | ⟨j, a, hjn, rfl, hja, hsw⟩
  · refine kj_t (List.Perm.refl _) (vx_runV (As := [.int p0, .int p1]) (rest := [.int 0, .ref qo]) ⟨hx, hb, hml, hown, htT⟩ (c_shareIn_t l hst D cA _ S x h.hx ar h.q0 h.R.1 p0 p1 hsw) (cwV 2 htT (kg_V m_ml_L_117 m_im_X5_shareIn m_sl_X5_shareIn m_in_X5 m_cd_X5_shareIn) rfl rfl rfl (by decide +kernel) ⟨Nat.le_of_ble_eq_true rfl, Nat.le_of_ble_eq_true rfl⟩) (kj_VX (List.Perm.refl _) hK hP hD hTB hTX hS hA (kj_rc (List.Perm.refl _) hK hP h.hx (Nat.le_of_ble_eq_true rfl) rfl)) rfl rfl hl.1 rfl (lv_room (Nat.le_of_ble_eq_true rfl)) dL_shareIn_5 ⟨Nat.le_of_ble_eq_true rfl, Nat.le_of_ble_eq_true rfl⟩) hP hD hS hA (fun ce q9 H locs hP hD hS hce hcv hcl => ?_)
    refine vx_catch hown [] ⟨0, 10, 13, 21⟩ [⟨0, 10, 17, 13⟩] (hTab.trans rfl) (fun z hz => nomatch hz) rfl (by decide) (htT _ m_cl_L_21) (hTB.use (n_ca _ (by decide))) hce hcv hcl ?_
    refine lv_astore (lv' := [(4, .ref q9), (0, .ref x), (1, .int p0), (2, .int p1), (3, .ref qo)]) hx hb dL_shareIn_13 hl (by decide) rfl (fun ls hl => ?_)
    refine lv_iconst (v := 1) hx hb dL_shareIn_15 (by decide) ?_
    exact W.iret (v := 1) hx hb hr (fun t ht hW => ⟨⟨1, (S, fo), rfl, ⟨h, QC.rf⟩, by rw [ht]; exact hP, va_K.moved hW.alike hK, hD⟩, hS.F ht⟩) hS.2.2 dL_shareIn_16
  · have hj : j < 8 := by have := h.n8; omega
    rcases kOut_01 p1 0 1000 with h1 | h1
    · refine kj_i (List.Perm.refl _) (va_runV (As := [.int (nI j), .int p1]) (rest := [.int 0, .ref qo]) ⟨hx, hb, hml, hown, htT⟩ (c_shareIn l D cA _ S x h.hx ar h.q0 ak h.q1 h.kk h.R j hj a hja (nI j) hsw p1 h1) (cwV 2 htT (kg_V m_ml_L_117 m_im_X5_shareIn m_sl_X5_shareIn m_in_X5 m_cd_X5_shareIn) rfl rfl rfl (by decide +kernel) ⟨Nat.le_of_ble_eq_true rfl, Nat.le_of_ble_eq_true rfl⟩) (kj_V (List.Perm.refl _) hK hP hD hTB (kj_rc (List.Perm.refl _) hK hP h.hx (Nat.le_of_ble_eq_true rfl) rfl)) rfl rfl hl.1 rfl (lv_room (Nat.le_of_ble_eq_true rfl)) dL_shareIn_5 ⟨Nat.le_of_ble_eq_true rfl, Nat.le_of_ble_eq_true rfl⟩) hP hD hS hA (fun r_1 x_1 H locs hq_1 hP hD hS => ?_)
      refine lv_i2l (v := r_1.toInt64) hx hb dL_shareIn_8 rfl ?_
      refine kw_last hx hb hK hP hD hS dL_shareIn_9 (fun H locs hP hD hS => ?_)
      refine lv_goto (tgt := 21) hx hb dL_shareIn_10 (by decide) ?_
      refine lv_iconst (v := 0) hx hb dL_shareIn_21 (by decide) ?_
      refine W.widen (k := 1) (n := 6) (Nat.le_of_ble_eq_true rfl) (Nat.le_of_ble_eq_true rfl) ?_
      exact W.iret (v := 0) hx hb hr (fun t ht hW => ⟨⟨0, (x_1, vp_updL fo 0 r_1.toInt64), rfl, ⟨by rw [hq_1.2]; exact h, by rw [hq_1.2]; exact QC.rf⟩, by rw [ht]; exact hP, va_K.moved hW.alike hK, hD⟩, hS.F ht⟩) hS.2.2 dL_shareIn_22
    · refine kj_t (List.Perm.refl _) (vx_runV (As := [.int (nI j), .int p1]) (rest := [.int 0, .ref qo]) ⟨hx, hb, hml, hown, htT⟩ (c_shareIn_1 l hst D cA _ S x h.hx ar h.q0 ak h.q1 h.kk h.R j hj a hja (nI j) hsw p1 h1) (cwV 2 htT (kg_V m_ml_L_117 m_im_X5_shareIn m_sl_X5_shareIn m_in_X5 m_cd_X5_shareIn) rfl rfl rfl (by decide +kernel) ⟨Nat.le_of_ble_eq_true rfl, Nat.le_of_ble_eq_true rfl⟩) (kj_VX (List.Perm.refl _) hK hP hD hTB hTX hS hA (kj_rc (List.Perm.refl _) hK hP h.hx (Nat.le_of_ble_eq_true rfl) rfl)) rfl rfl hl.1 rfl (lv_room (Nat.le_of_ble_eq_true rfl)) dL_shareIn_5 ⟨Nat.le_of_ble_eq_true rfl, Nat.le_of_ble_eq_true rfl⟩) hP hD hS hA (fun ce q9 H locs hP hD hS hce hcv hcl => ?_)
      refine vx_catch hown [⟨0, 10, 13, 21⟩] ⟨0, 10, 17, 13⟩ [] (hTab.trans rfl) (fun z hz => by obtain rfl := List.mem_singleton.mp hz; first | exact Or.inr ⟨by decide, _, htT _ m_cl_L_21, hTX.2.2.2 ("java/lang/IllegalArgumentException", "java/lang/IndexOutOfBoundsException") (by decide +kernel)⟩) rfl (by decide) (htT _ m_cl_L_13) (hTB.use (n_ca _ (by decide))) hce hcv hcl ?_
      refine lv_astore (lv' := [(4, .ref q9), (0, .ref x), (1, .int (nI j)), (2, .int p1), (3, .ref qo)]) hx hb dL_shareIn_17 hl (by decide) rfl (fun ls hl => ?_)
      refine lv_iconst (v := 2) hx hb dL_shareIn_19 (by decide) ?_
      exact W.iret (v := 2) hx hb hr (fun t ht hW => ⟨⟨2, (S, fo), rfl, ⟨h, QC.rf⟩, by rw [ht]; exact hP, va_K.moved hW.alike hK, hD⟩, hS.F ht⟩) hS.2.2 dL_shareIn_20

set_option maxRecDepth 100000 in
set_option maxHeartbeats 4000000 in
theorem w_both (l : Launch) (hst : l.stackTraces = false) (D : va_G) (cA : Nat → ClassId) (sz : Nat) (S : Pool) (x qo : Nat) (fo : Nat → Int64) (n na : Nat) (hh cc : Int32) (ar ak : Nat) (h : INVC n na hh cc S x ar ak) (p0 p1 p2 : Int32) : Met l yL_both (Cond.codeWith yL_both cL_both 6 (some .int) [(0, 12, 15, 21), (0, 12, 19, 13)] :: TT) ({ frames := 26, cells := 1, slots := 6, locals := 626 }) (va_Pc [.ref x, .int p0, .int p1, .int p2, .ref qo] (kPreX D cA (PW cA S ++ [oJ cA qo fo]) sz)) (va_Qi (fun (r_ : Int32) (x_ : Pool × (Nat → Int64)) => INVC n na hh cc x_.1 x ar ak ∧ QC S x_.1) (fun x_ => kB D cA (va_A (PW cA S ++ [oJ cA qo fo]) sz) (PW cA x_.1 ++ [oJ cA qo x_.2])) (va_A (PW cA S ++ [oJ cA qo fo]) sz)) 1 6 (va_A (PW cA S ++ [oJ cA qo fo]) sz) := by
  refine kt_ofWH (cc := cL_both) (maxL := 6) (ret := (some .int)) (by decide) rfl ?_
  intro p e s m args below meth c s₁ B hml hTab hv
  obtain ⟨rfl, ⟨hsz, hP, hK, hD0, hTB⟩, hTX⟩ := hv
  have hx := B.exec
  have hb := B.bytes
  have hr := B.returns
  have hts := atoms_spec (ws := Cond.codeWith yL_both cL_both 6 (some .int) [(0, 12, 15, 21), (0, 12, 19, 13)] :: TT) B.pre
  have htT : ∀ w ∈ TT, w.before _ s = true := fun w h => hts w (List.mem_cons_of_mem _ h)
  have hown : s.vm.findClass RL = some m.cls := findClass_of_methodNamed B.named
  have hlocks := B.notSynchronized
  subst hsz
  have hD := hD0.self (sz := s.heap.size)
  generalize hAe : va_A (PW cA S ++ [oJ cA qo fo]) s.heap.size = A at hD hTX ⊢
  have hA : ∀ q : Nat, s.heap.size ≤ q → A q := fun q h => by rw [← hAe]; exact Or.inr h
  have hS : va_S A s.heap s.heap [] := va_S.rf
  have hl := lv_entry ([.ref x, .int p0, .int p1, .int p2, .ref qo]) (n := 6) (Nat.le_of_ble_eq_true rfl)
  rw [lg_entry_eq]
  generalize (lg_sl ([.ref x, .int p0, .int p1, .int p2, .ref qo]) ++ List.replicate (6 - (lg_sl ([.ref x, .int p0, .int p1, .int p2, .ref qo])).length) Slot.unset).toArray = ls at hl ⊢
  have hl : lv_has ls 6 [(0, .ref x), (1, .int p0), (2, .int p1), (3, .int p2), (4, .ref qo)] := hl
  refine lv_aload hx hb dL_both_0 (lv_at hl 4 rfl) ?_
  refine lv_iconst (v := 0) hx hb dL_both_2 (by decide) ?_
  refine lv_aload_n hx hb dL_both_3 rfl (lv_at hl 0 rfl) ?_
  refine lv_iload_n hx hb dL_both_4 rfl (lv_at hl 1 rfl) ?_
  refine lv_iload_n hx hb dL_both_5 rfl (lv_at hl 2 rfl) ?_
  refine lv_iload_n hx hb dL_both_6 rfl (lv_at hl 3 rfl) ?_
  rcases h.at p0 with ⟨hsw, -⟩ | ⟨j, a, hjn, rfl, hja, hsw⟩
  · refine kj_t (List.Perm.refl _) (vx_runV (As := [.int p0, .int p1, .int p2]) (rest := [.int 0, .ref qo]) ⟨hx, hb, hml, hown, htT⟩ (c_both_t l hst D cA _ S x h.hx ar h.q0 h.R.1 p0 p1 p2 hsw) (cwV 3 htT (kg_V m_ml_L_108 m_im_X5_both m_sl_X5_both m_in_X5 m_cd_X5_both) rfl rfl rfl (by decide +kernel) ⟨Nat.le_of_ble_eq_true rfl, Nat.le_of_ble_eq_true rfl⟩) (kj_VX (List.Perm.refl _) hK hP hD hTB hTX hS hA (kj_rc (List.Perm.refl _) hK hP h.hx (Nat.le_of_ble_eq_true rfl) rfl)) rfl rfl hl.1 rfl (lv_room (Nat.le_of_ble_eq_true rfl)) dL_both_7 ⟨Nat.le_of_ble_eq_true rfl, Nat.le_of_ble_eq_true rfl⟩) hP hD hS hA (fun ce q9 H locs hP hD hS hce hcv hcl => ?_)
    refine vx_catch hown [] ⟨0, 12, 15, 21⟩ [⟨0, 12, 19, 13⟩] (hTab.trans rfl) (fun z hz => nomatch hz) rfl (by decide) (htT _ m_cl_L_21) (hTB.use (n_ca _ (by decide))) hce hcv hcl ?_
    refine lv_astore (lv' := [(5, .ref q9), (0, .ref x), (1, .int p0), (2, .int p1), (3, .int p2), (4, .ref qo)]) hx hb dL_both_15 hl (by decide) rfl (fun ls hl => ?_)
    refine lv_iconst (v := 1) hx hb dL_both_17 (by decide) ?_
    exact W.iret (v := 1) hx hb hr (fun t ht hW => ⟨⟨1, (S, fo), rfl, ⟨h, QC.rf⟩, by rw [ht]; exact hP, va_K.moved hW.alike hK, hD⟩, hS.F ht⟩) hS.2.2 dL_both_18
  · have hj : j < 8 := by have := h.n8; omega
    rcases h.at p1 with ⟨hs2, -⟩ | ⟨j2, b2, hj2n, rfl, hjb, hs2⟩
    · refine kj_t (List.Perm.refl _) (vx_runV (As := [.int (nI j), .int p1, .int p2]) (rest := [.int 0, .ref qo]) ⟨hx, hb, hml, hown, htT⟩ (c_both_o l hst D cA _ S x h.hx ar h.q0 ak h.q1 h.kk h.R j hj a hja (nI j) hsw p1 p2 hs2) (cwV 3 htT (kg_V m_ml_L_108 m_im_X5_both m_sl_X5_both m_in_X5 m_cd_X5_both) rfl rfl rfl (by decide +kernel) ⟨Nat.le_of_ble_eq_true rfl, Nat.le_of_ble_eq_true rfl⟩) (kj_VX (List.Perm.refl _) hK hP hD hTB hTX hS hA (kj_rc (List.Perm.refl _) hK hP h.hx (Nat.le_of_ble_eq_true rfl) rfl)) rfl rfl hl.1 rfl (lv_room (Nat.le_of_ble_eq_true rfl)) dL_both_7 ⟨Nat.le_of_ble_eq_true rfl, Nat.le_of_ble_eq_true rfl⟩) hP hD hS hA (fun ce q9 H locs hP hD hS hce hcv hcl => ?_)
      refine vx_catch hown [] ⟨0, 12, 15, 21⟩ [⟨0, 12, 19, 13⟩] (hTab.trans rfl) (fun z hz => nomatch hz) rfl (by decide) (htT _ m_cl_L_21) (hTB.use (n_ca _ (by decide))) hce hcv hcl ?_
      refine lv_astore (lv' := [(5, .ref q9), (0, .ref x), (1, .int (nI j)), (2, .int p1), (3, .int p2), (4, .ref qo)]) hx hb dL_both_15 hl (by decide) rfl (fun ls hl => ?_)
      refine lv_iconst (v := 1) hx hb dL_both_17 (by decide) ?_
      exact W.iret (v := 1) hx hb hr (fun t ht hW => ⟨⟨1, (S, fo), rfl, ⟨h, QC.rf⟩, by rw [ht]; exact hP, va_K.moved hW.alike hK, hD⟩, hS.F ht⟩) hS.2.2 dL_both_18
    · have hj2 : j2 < 8 := by have := h.n8; omega
      rcases kOut_01 p2 1 200 with h1 | h1
      · have h1_9 := h1
        obtain ⟨mm, hlo_mm, hhi_mm, rfl⟩ := kIn_nat 1 200 (by omega) (by omega) (kIn_out.mpr h1_9)
        refine kj_i (List.Perm.refl _) (va_runV (As := [.int (nI j), .int (nI j2), .int (nI mm)]) (rest := [.int 0, .ref qo]) ⟨hx, hb, hml, hown, htT⟩ (c_both l D cA _ S x h.hx ar h.q0 ak h.q1 h.kk h.R j hj a hja (nI j) hsw j2 hj2 b2 hjb (nI j2) hs2 mm hlo_mm hhi_mm h1) (cwV 3 htT (kg_V m_ml_L_108 m_im_X5_both m_sl_X5_both m_in_X5 m_cd_X5_both) rfl rfl rfl (by decide +kernel) ⟨Nat.le_of_ble_eq_true rfl, Nat.le_of_ble_eq_true rfl⟩) (kj_V (List.Perm.refl _) hK hP hD hTB (kj_rc (List.Perm.refl _) hK hP h.hx (Nat.le_of_ble_eq_true rfl) rfl)) rfl rfl hl.1 rfl (lv_room (Nat.le_of_ble_eq_true rfl)) dL_both_7 ⟨Nat.le_of_ble_eq_true rfl, Nat.le_of_ble_eq_true rfl⟩) hP hD hS hA (fun r_1 x_1 H locs hq_1 hP hD hS => ?_)
        refine lv_i2l (v := r_1.toInt64) hx hb dL_both_10 rfl ?_
        refine kw_last hx hb hK hP hD hS dL_both_11 (fun H locs hP hD hS => ?_)
        refine lv_goto (tgt := 23) hx hb dL_both_12 (by decide) ?_
        refine lv_iconst (v := 0) hx hb dL_both_23 (by decide) ?_
        refine W.widen (k := 1) (n := 6) (Nat.le_of_ble_eq_true rfl) (Nat.le_of_ble_eq_true rfl) ?_
        exact W.iret (v := 0) hx hb hr (fun t ht hW => ⟨⟨0, (x_1, vp_updL fo 0 r_1.toInt64), rfl, ⟨h.eA hq_1, eqA.qc hq_1 h.kk⟩, by rw [ht]; exact hP, va_K.moved hW.alike hK, hD⟩, hS.F ht⟩) hS.2.2 dL_both_24
      · refine kj_t (List.Perm.refl _) (vx_runV (As := [.int (nI j), .int (nI j2), .int p2]) (rest := [.int 0, .ref qo]) ⟨hx, hb, hml, hown, htT⟩ (c_both_1 l hst D cA _ S x h.hx ar h.q0 ak h.q1 h.kk h.R j hj a hja (nI j) hsw j2 hj2 b2 hjb (nI j2) hs2 p2 h1) (cwV 3 htT (kg_V m_ml_L_108 m_im_X5_both m_sl_X5_both m_in_X5 m_cd_X5_both) rfl rfl rfl (by decide +kernel) ⟨Nat.le_of_ble_eq_true rfl, Nat.le_of_ble_eq_true rfl⟩) (kj_VX (List.Perm.refl _) hK hP hD hTB hTX hS hA (kj_rc (List.Perm.refl _) hK hP h.hx (Nat.le_of_ble_eq_true rfl) rfl)) rfl rfl hl.1 rfl (lv_room (Nat.le_of_ble_eq_true rfl)) dL_both_7 ⟨Nat.le_of_ble_eq_true rfl, Nat.le_of_ble_eq_true rfl⟩) hP hD hS hA (fun ce q9 H locs hP hD hS hce hcv hcl => ?_)
        refine vx_catch hown [⟨0, 12, 15, 21⟩] ⟨0, 12, 19, 13⟩ [] (hTab.trans rfl) (fun z hz => by obtain rfl := List.mem_singleton.mp hz; first | exact Or.inr ⟨by decide, _, htT _ m_cl_L_21, hTX.2.2.2 ("java/lang/IllegalArgumentException", "java/lang/IndexOutOfBoundsException") (by decide +kernel)⟩) rfl (by decide) (htT _ m_cl_L_13) (hTB.use (n_ca _ (by decide))) hce hcv hcl ?_
        refine lv_astore (lv' := [(5, .ref q9), (0, .ref x), (1, .int (nI j)), (2, .int (nI j2)), (3, .int p2), (4, .ref qo)]) hx hb dL_both_19 hl (by decide) rfl (fun ls hl => ?_)
        refine lv_iconst (v := 2) hx hb dL_both_21 (by decide) ?_
        exact W.iret (v := 2) hx hb hr (fun t ht hW => ⟨⟨2, (S, fo), rfl, ⟨h, QC.rf⟩, by rw [ht]; exact hP, va_K.moved hW.alike hK, hD⟩, hS.F ht⟩) hS.2.2 dL_both_22

set_option maxRecDepth 100000 in
set_option maxHeartbeats 4000000 in
theorem w_gets (l : Launch) (hst : l.stackTraces = false) (D : va_G) (cA : Nat → ClassId) (sz : Nat) (S : Pool) (x qo : Nat) (fo : Nat → Int64) (n na : Nat) (hh cc : Int32) (ar ak : Nat) (h : INVC n na hh cc S x ar ak) (p0 p1 p2 p3 : Int32) : Met l yL_gets (Cond.codeWith yL_gets cL_gets 7 (some .int) [(0, 14, 17, 21), (0, 14, 21, 13)] :: TT) ({ frames := 27, cells := 1, slots := 6, locals := 645 }) (va_Pc [.ref x, .int p0, .int p1, .int p2, .int p3, .ref qo] (kPreX D cA (PW cA S ++ [oJ cA qo fo]) sz)) (va_Qi (fun (r_ : Int32) (x_ : Pool × (Nat → Int64)) => INVC n na hh cc x_.1 x ar ak ∧ QC S x_.1) (fun x_ => kB D cA (va_A (PW cA S ++ [oJ cA qo fo]) sz) (PW cA x_.1 ++ [oJ cA qo x_.2])) (va_A (PW cA S ++ [oJ cA qo fo]) sz)) 1 6 (va_A (PW cA S ++ [oJ cA qo fo]) sz) := by
  refine kt_ofWH (cc := cL_gets) (maxL := 7) (ret := (some .int)) (by decide) rfl ?_
  intro p e s m args below meth c s₁ B hml hTab hv
  obtain ⟨rfl, ⟨hsz, hP, hK, hD0, hTB⟩, hTX⟩ := hv
  have hx := B.exec
  have hb := B.bytes
  have hr := B.returns
  have hts := atoms_spec (ws := Cond.codeWith yL_gets cL_gets 7 (some .int) [(0, 14, 17, 21), (0, 14, 21, 13)] :: TT) B.pre
  have htT : ∀ w ∈ TT, w.before _ s = true := fun w h => hts w (List.mem_cons_of_mem _ h)
  have hown : s.vm.findClass RL = some m.cls := findClass_of_methodNamed B.named
  have hlocks := B.notSynchronized
  subst hsz
  have hD := hD0.self (sz := s.heap.size)
  generalize hAe : va_A (PW cA S ++ [oJ cA qo fo]) s.heap.size = A at hD hTX ⊢
  have hA : ∀ q : Nat, s.heap.size ≤ q → A q := fun q h => by rw [← hAe]; exact Or.inr h
  have hS : va_S A s.heap s.heap [] := va_S.rf
  have hl := lv_entry ([.ref x, .int p0, .int p1, .int p2, .int p3, .ref qo]) (n := 7) (Nat.le_of_ble_eq_true rfl)
  rw [lg_entry_eq]
  generalize (lg_sl ([.ref x, .int p0, .int p1, .int p2, .int p3, .ref qo]) ++ List.replicate (7 - (lg_sl ([.ref x, .int p0, .int p1, .int p2, .int p3, .ref qo])).length) Slot.unset).toArray = ls at hl ⊢
  have hl : lv_has ls 7 [(0, .ref x), (1, .int p0), (2, .int p1), (3, .int p2), (4, .int p3), (5, .ref qo)] := hl
  refine lv_aload hx hb dL_gets_0 (lv_at hl 5 rfl) ?_
  refine lv_iconst (v := 0) hx hb dL_gets_2 (by decide) ?_
  refine lv_aload_n hx hb dL_gets_3 rfl (lv_at hl 0 rfl) ?_
  refine lv_iload_n hx hb dL_gets_4 rfl (lv_at hl 1 rfl) ?_
  refine lv_iload_n hx hb dL_gets_5 rfl (lv_at hl 2 rfl) ?_
  refine lv_iload_n hx hb dL_gets_6 rfl (lv_at hl 3 rfl) ?_
  refine lv_iload hx hb dL_gets_7 (lv_at hl 4 rfl) ?_
  rcases h.at p0 with ⟨hsw, -⟩ | ⟨j, a, hjn, rfl, hja, hsw⟩
  · refine kj_t (List.Perm.refl _) (vx_runV (As := [.int p0, .int p1, .int p2, .int p3]) (rest := [.int 0, .ref qo]) ⟨hx, hb, hml, hown, htT⟩ (c_gets_t l hst D cA _ S x h.hx ar h.q0 h.R.1 p0 p1 p2 p3 hsw) (cwV 4 htT (kg_V m_ml_L_64 m_im_X5_gets m_sl_X5_gets m_in_X5 m_cd_X5_gets) rfl rfl rfl (by decide +kernel) ⟨Nat.le_of_ble_eq_true rfl, Nat.le_of_ble_eq_true rfl⟩) (kj_VX (List.Perm.refl _) hK hP hD hTB hTX hS hA (kj_rc (List.Perm.refl _) hK hP h.hx (Nat.le_of_ble_eq_true rfl) rfl)) rfl rfl hl.1 rfl (lv_room (Nat.le_of_ble_eq_true rfl)) dL_gets_9 ⟨Nat.le_of_ble_eq_true rfl, Nat.le_of_ble_eq_true rfl⟩) hP hD hS hA (fun ce q9 H locs hP hD hS hce hcv hcl => ?_)
    refine vx_catch hown [] ⟨0, 14, 17, 21⟩ [⟨0, 14, 21, 13⟩] (hTab.trans rfl) (fun z hz => nomatch hz) rfl (by decide) (htT _ m_cl_L_21) (hTB.use (n_ca _ (by decide))) hce hcv hcl ?_
    refine lv_astore (lv' := [(6, .ref q9), (0, .ref x), (1, .int p0), (2, .int p1), (3, .int p2), (4, .int p3), (5, .ref qo)]) hx hb dL_gets_17 hl (by decide) rfl (fun ls hl => ?_)
    refine lv_iconst (v := 1) hx hb dL_gets_19 (by decide) ?_
    exact W.iret (v := 1) hx hb hr (fun t ht hW => ⟨⟨1, (S, fo), rfl, ⟨h, QC.rf⟩, by rw [ht]; exact hP, va_K.moved hW.alike hK, hD⟩, hS.F ht⟩) hS.2.2 dL_gets_20
  · have hj : j < 8 := by have := h.n8; omega
    rcases kOut_01 p1 0 9999 with h1 | h1
    · rcases kOut_01 p2 0 9 with h2 | h2
      · rcases kOut_01 p3 0 9 with h3 | h3
        · refine kj_i (List.Perm.refl _) (va_runV (As := [.int (nI j), .int p1, .int p2, .int p3]) (rest := [.int 0, .ref qo]) ⟨hx, hb, hml, hown, htT⟩ (c_gets l D cA _ S x h.hx ar h.q0 ak h.q1 h.kk h.R j hj a hja (nI j) hsw p1 p2 p3 h1 h2 h3) (cwV 4 htT (kg_V m_ml_L_64 m_im_X5_gets m_sl_X5_gets m_in_X5 m_cd_X5_gets) rfl rfl rfl (by decide +kernel) ⟨Nat.le_of_ble_eq_true rfl, Nat.le_of_ble_eq_true rfl⟩) (kj_V (List.Perm.refl _) hK hP hD hTB (kj_rc (List.Perm.refl _) hK hP h.hx (Nat.le_of_ble_eq_true rfl) rfl)) rfl rfl hl.1 rfl (lv_room (Nat.le_of_ble_eq_true rfl)) dL_gets_9 ⟨Nat.le_of_ble_eq_true rfl, Nat.le_of_ble_eq_true rfl⟩) hP hD hS hA (fun r_1 x_1 H locs hq_1 hP hD hS => ?_)
          refine lv_i2l (v := r_1.toInt64) hx hb dL_gets_12 rfl ?_
          refine kw_last hx hb hK hP hD hS dL_gets_13 (fun H locs hP hD hS => ?_)
          refine lv_goto (tgt := 25) hx hb dL_gets_14 (by decide) ?_
          refine lv_iconst (v := 0) hx hb dL_gets_25 (by decide) ?_
          refine W.widen (k := 1) (n := 6) (Nat.le_of_ble_eq_true rfl) (Nat.le_of_ble_eq_true rfl) ?_
          exact W.iret (v := 0) hx hb hr (fun t ht hW => ⟨⟨0, (x_1, vp_updL fo 0 r_1.toInt64), rfl, ⟨by rw [hq_1.2]; exact h.eA eqA.bec, by rw [hq_1.2]; exact eqA.bec.qc h.kk⟩, by rw [ht]; exact hP, va_K.moved hW.alike hK, hD⟩, hS.F ht⟩) hS.2.2 dL_gets_26
        · refine kj_t (List.Perm.refl _) (vx_runV (As := [.int (nI j), .int p1, .int p2, .int p3]) (rest := [.int 0, .ref qo]) ⟨hx, hb, hml, hown, htT⟩ (c_gets_q3 l hst D cA _ S x h.hx ar h.q0 ak h.q1 h.kk h.R j hj a hja (nI j) hsw p1 p2 p3 h1 h2 h3) (cwV 4 htT (kg_V m_ml_L_64 m_im_X5_gets m_sl_X5_gets m_in_X5 m_cd_X5_gets) rfl rfl rfl (by decide +kernel) ⟨Nat.le_of_ble_eq_true rfl, Nat.le_of_ble_eq_true rfl⟩) (kj_VX (List.Perm.refl _) hK hP hD hTB hTX hS hA (kj_rc (List.Perm.refl _) hK hP h.hx (Nat.le_of_ble_eq_true rfl) rfl)) rfl rfl hl.1 rfl (lv_room (Nat.le_of_ble_eq_true rfl)) dL_gets_9 ⟨Nat.le_of_ble_eq_true rfl, Nat.le_of_ble_eq_true rfl⟩) hP hD hS hA (fun ce q9 H locs hP hD hS hce hcv hcl => ?_)
          refine vx_catch hown [⟨0, 14, 17, 21⟩] ⟨0, 14, 21, 13⟩ [] (hTab.trans rfl) (fun z hz => by obtain rfl := List.mem_singleton.mp hz; first | exact Or.inr ⟨by decide, _, htT _ m_cl_L_21, hTX.2.2.2 ("java/lang/IllegalArgumentException", "java/lang/IndexOutOfBoundsException") (by decide +kernel)⟩) rfl (by decide) (htT _ m_cl_L_13) (hTB.use (n_ca _ (by decide))) hce hcv hcl ?_
          refine lv_astore (lv' := [(6, .ref q9), (0, .ref x), (1, .int (nI j)), (2, .int p1), (3, .int p2), (4, .int p3), (5, .ref qo)]) hx hb dL_gets_21 hl (by decide) rfl (fun ls hl => ?_)
          refine lv_iconst (v := 2) hx hb dL_gets_23 (by decide) ?_
          exact W.iret (v := 2) hx hb hr (fun t ht hW => ⟨⟨2, (S, fo), rfl, ⟨h, QC.rf⟩, by rw [ht]; exact hP, va_K.moved hW.alike hK, hD⟩, hS.F ht⟩) hS.2.2 dL_gets_24
      · refine kj_t (List.Perm.refl _) (vx_runV (As := [.int (nI j), .int p1, .int p2, .int p3]) (rest := [.int 0, .ref qo]) ⟨hx, hb, hml, hown, htT⟩ (c_gets_q2 l hst D cA _ S x h.hx ar h.q0 ak h.q1 h.kk h.R j hj a hja (nI j) hsw p1 p2 p3 h1 h2) (cwV 4 htT (kg_V m_ml_L_64 m_im_X5_gets m_sl_X5_gets m_in_X5 m_cd_X5_gets) rfl rfl rfl (by decide +kernel) ⟨Nat.le_of_ble_eq_true rfl, Nat.le_of_ble_eq_true rfl⟩) (kj_VX (List.Perm.refl _) hK hP hD hTB hTX hS hA (kj_rc (List.Perm.refl _) hK hP h.hx (Nat.le_of_ble_eq_true rfl) rfl)) rfl rfl hl.1 rfl (lv_room (Nat.le_of_ble_eq_true rfl)) dL_gets_9 ⟨Nat.le_of_ble_eq_true rfl, Nat.le_of_ble_eq_true rfl⟩) hP hD hS hA (fun ce q9 H locs hP hD hS hce hcv hcl => ?_)
        refine vx_catch hown [⟨0, 14, 17, 21⟩] ⟨0, 14, 21, 13⟩ [] (hTab.trans rfl) (fun z hz => by obtain rfl := List.mem_singleton.mp hz; first | exact Or.inr ⟨by decide, _, htT _ m_cl_L_21, hTX.2.2.2 ("java/lang/IllegalArgumentException", "java/lang/IndexOutOfBoundsException") (by decide +kernel)⟩) rfl (by decide) (htT _ m_cl_L_13) (hTB.use (n_ca _ (by decide))) hce hcv hcl ?_
        refine lv_astore (lv' := [(6, .ref q9), (0, .ref x), (1, .int (nI j)), (2, .int p1), (3, .int p2), (4, .int p3), (5, .ref qo)]) hx hb dL_gets_21 hl (by decide) rfl (fun ls hl => ?_)
        refine lv_iconst (v := 2) hx hb dL_gets_23 (by decide) ?_
        exact W.iret (v := 2) hx hb hr (fun t ht hW => ⟨⟨2, (S, fo), rfl, ⟨h, QC.rf⟩, by rw [ht]; exact hP, va_K.moved hW.alike hK, hD⟩, hS.F ht⟩) hS.2.2 dL_gets_24
    · refine kj_t (List.Perm.refl _) (vx_runV (As := [.int (nI j), .int p1, .int p2, .int p3]) (rest := [.int 0, .ref qo]) ⟨hx, hb, hml, hown, htT⟩ (c_gets_q1 l hst D cA _ S x h.hx ar h.q0 ak h.q1 h.kk h.R j hj a hja (nI j) hsw p1 p2 p3 h1) (cwV 4 htT (kg_V m_ml_L_64 m_im_X5_gets m_sl_X5_gets m_in_X5 m_cd_X5_gets) rfl rfl rfl (by decide +kernel) ⟨Nat.le_of_ble_eq_true rfl, Nat.le_of_ble_eq_true rfl⟩) (kj_VX (List.Perm.refl _) hK hP hD hTB hTX hS hA (kj_rc (List.Perm.refl _) hK hP h.hx (Nat.le_of_ble_eq_true rfl) rfl)) rfl rfl hl.1 rfl (lv_room (Nat.le_of_ble_eq_true rfl)) dL_gets_9 ⟨Nat.le_of_ble_eq_true rfl, Nat.le_of_ble_eq_true rfl⟩) hP hD hS hA (fun ce q9 H locs hP hD hS hce hcv hcl => ?_)
      refine vx_catch hown [⟨0, 14, 17, 21⟩] ⟨0, 14, 21, 13⟩ [] (hTab.trans rfl) (fun z hz => by obtain rfl := List.mem_singleton.mp hz; first | exact Or.inr ⟨by decide, _, htT _ m_cl_L_21, hTX.2.2.2 ("java/lang/IllegalArgumentException", "java/lang/IndexOutOfBoundsException") (by decide +kernel)⟩) rfl (by decide) (htT _ m_cl_L_13) (hTB.use (n_ca _ (by decide))) hce hcv hcl ?_
      refine lv_astore (lv' := [(6, .ref q9), (0, .ref x), (1, .int (nI j)), (2, .int p1), (3, .int p2), (4, .int p3), (5, .ref qo)]) hx hb dL_gets_21 hl (by decide) rfl (fun ls hl => ?_)
      refine lv_iconst (v := 2) hx hb dL_gets_23 (by decide) ?_
      exact W.iret (v := 2) hx hb hr (fun t ht hW => ⟨⟨2, (S, fo), rfl, ⟨h, QC.rf⟩, by rw [ht]; exact hP, va_K.moved hW.alike hK, hD⟩, hS.F ht⟩) hS.2.2 dL_gets_24

set_option maxRecDepth 100000 in
set_option maxHeartbeats 4000000 in
theorem w_why (l : Launch) (hst : l.stackTraces = false) (D : va_G) (cA : Nat → ClassId) (sz : Nat) (S : Pool) (x qo : Nat) (fo : Nat → Int64) (n na : Nat) (hh cc : Int32) (ar ak : Nat) (h : INVC n na hh cc S x ar ak) (p0 p1 p2 p3 : Int32) : Met l yL_why (Cond.codeWith yL_why cL_why 7 (some .int) [(0, 14, 17, 21), (0, 14, 21, 13)] :: TT) ({ frames := 26, cells := 1, slots := 6, locals := 624 }) (va_Pc [.ref x, .int p0, .int p1, .int p2, .int p3, .ref qo] (kPreX D cA (PW cA S ++ [oJ cA qo fo]) sz)) (va_Qi (fun (r_ : Int32) (x_ : Pool × (Nat → Int64)) => INVC n na hh cc x_.1 x ar ak ∧ QC S x_.1) (fun x_ => kB D cA (va_A (PW cA S ++ [oJ cA qo fo]) sz) (PW cA x_.1 ++ [oJ cA qo x_.2])) (va_A (PW cA S ++ [oJ cA qo fo]) sz)) 1 6 (va_A (PW cA S ++ [oJ cA qo fo]) sz) := by
  refine kt_ofWH (cc := cL_why) (maxL := 7) (ret := (some .int)) (by decide) rfl ?_
  intro p e s m args below meth c s₁ B hml hTab hv
  obtain ⟨rfl, ⟨hsz, hP, hK, hD0, hTB⟩, hTX⟩ := hv
  have hx := B.exec
  have hb := B.bytes
  have hr := B.returns
  have hts := atoms_spec (ws := Cond.codeWith yL_why cL_why 7 (some .int) [(0, 14, 17, 21), (0, 14, 21, 13)] :: TT) B.pre
  have htT : ∀ w ∈ TT, w.before _ s = true := fun w h => hts w (List.mem_cons_of_mem _ h)
  have hown : s.vm.findClass RL = some m.cls := findClass_of_methodNamed B.named
  have hlocks := B.notSynchronized
  subst hsz
  have hD := hD0.self (sz := s.heap.size)
  generalize hAe : va_A (PW cA S ++ [oJ cA qo fo]) s.heap.size = A at hD hTX ⊢
  have hA : ∀ q : Nat, s.heap.size ≤ q → A q := fun q h => by rw [← hAe]; exact Or.inr h
  have hS : va_S A s.heap s.heap [] := va_S.rf
  have hl := lv_entry ([.ref x, .int p0, .int p1, .int p2, .int p3, .ref qo]) (n := 7) (Nat.le_of_ble_eq_true rfl)
  rw [lg_entry_eq]
  generalize (lg_sl ([.ref x, .int p0, .int p1, .int p2, .int p3, .ref qo]) ++ List.replicate (7 - (lg_sl ([.ref x, .int p0, .int p1, .int p2, .int p3, .ref qo])).length) Slot.unset).toArray = ls at hl ⊢
  have hl : lv_has ls 7 [(0, .ref x), (1, .int p0), (2, .int p1), (3, .int p2), (4, .int p3), (5, .ref qo)] := hl
  refine lv_aload hx hb dL_why_0 (lv_at hl 5 rfl) ?_
  refine lv_iconst (v := 0) hx hb dL_why_2 (by decide) ?_
  refine lv_aload_n hx hb dL_why_3 rfl (lv_at hl 0 rfl) ?_
  refine lv_iload_n hx hb dL_why_4 rfl (lv_at hl 1 rfl) ?_
  refine lv_iload_n hx hb dL_why_5 rfl (lv_at hl 2 rfl) ?_
  refine lv_iload_n hx hb dL_why_6 rfl (lv_at hl 3 rfl) ?_
  refine lv_iload hx hb dL_why_7 (lv_at hl 4 rfl) ?_
  rcases h.at p0 with ⟨hsw, -⟩ | ⟨j, a, hjn, rfl, hja, hsw⟩
  · refine kj_t (List.Perm.refl _) (vx_runV (As := [.int p0, .int p1, .int p2, .int p3]) (rest := [.int 0, .ref qo]) ⟨hx, hb, hml, hown, htT⟩ (c_why_t l hst D cA _ S x h.hx ar h.q0 h.R.1 p0 p1 p2 p3 hsw) (cwV 4 htT (kg_V m_ml_L_67 m_im_X5_why m_sl_X5_why m_in_X5 m_cd_X5_why) rfl rfl rfl (by decide +kernel) ⟨Nat.le_of_ble_eq_true rfl, Nat.le_of_ble_eq_true rfl⟩) (kj_VX (List.Perm.refl _) hK hP hD hTB hTX hS hA (kj_rc (List.Perm.refl _) hK hP h.hx (Nat.le_of_ble_eq_true rfl) rfl)) rfl rfl hl.1 rfl (lv_room (Nat.le_of_ble_eq_true rfl)) dL_why_9 ⟨Nat.le_of_ble_eq_true rfl, Nat.le_of_ble_eq_true rfl⟩) hP hD hS hA (fun ce q9 H locs hP hD hS hce hcv hcl => ?_)
    refine vx_catch hown [] ⟨0, 14, 17, 21⟩ [⟨0, 14, 21, 13⟩] (hTab.trans rfl) (fun z hz => nomatch hz) rfl (by decide) (htT _ m_cl_L_21) (hTB.use (n_ca _ (by decide))) hce hcv hcl ?_
    refine lv_astore (lv' := [(6, .ref q9), (0, .ref x), (1, .int p0), (2, .int p1), (3, .int p2), (4, .int p3), (5, .ref qo)]) hx hb dL_why_17 hl (by decide) rfl (fun ls hl => ?_)
    refine lv_iconst (v := 1) hx hb dL_why_19 (by decide) ?_
    exact W.iret (v := 1) hx hb hr (fun t ht hW => ⟨⟨1, (S, fo), rfl, ⟨h, QC.rf⟩, by rw [ht]; exact hP, va_K.moved hW.alike hK, hD⟩, hS.F ht⟩) hS.2.2 dL_why_20
  · have hj : j < 8 := by have := h.n8; omega
    rcases kOut_01 p1 0 9999 with h1 | h1
    · rcases kOut_01 p2 0 9 with h2 | h2
      · rcases kOut_01 p3 0 9 with h3 | h3
        · refine kj_i (List.Perm.refl _) (va_runV (As := [.int (nI j), .int p1, .int p2, .int p3]) (rest := [.int 0, .ref qo]) ⟨hx, hb, hml, hown, htT⟩ (c_why l D cA _ S x h.hx ar h.q0 ak h.q1 h.kk h.R j hj a hja (nI j) hsw p1 p2 p3 h1 h2 h3) (cwV 4 htT (kg_V m_ml_L_67 m_im_X5_why m_sl_X5_why m_in_X5 m_cd_X5_why) rfl rfl rfl (by decide +kernel) ⟨Nat.le_of_ble_eq_true rfl, Nat.le_of_ble_eq_true rfl⟩) (kj_V (List.Perm.refl _) hK hP hD hTB (kj_rc (List.Perm.refl _) hK hP h.hx (Nat.le_of_ble_eq_true rfl) rfl)) rfl rfl hl.1 rfl (lv_room (Nat.le_of_ble_eq_true rfl)) dL_why_9 ⟨Nat.le_of_ble_eq_true rfl, Nat.le_of_ble_eq_true rfl⟩) hP hD hS hA (fun r_1 x_1 H locs hq_1 hP hD hS => ?_)
          refine lv_i2l (v := r_1.toInt64) hx hb dL_why_12 rfl ?_
          refine kw_last hx hb hK hP hD hS dL_why_13 (fun H locs hP hD hS => ?_)
          refine lv_goto (tgt := 25) hx hb dL_why_14 (by decide) ?_
          refine lv_iconst (v := 0) hx hb dL_why_25 (by decide) ?_
          refine W.widen (k := 1) (n := 6) (Nat.le_of_ble_eq_true rfl) (Nat.le_of_ble_eq_true rfl) ?_
          exact W.iret (v := 0) hx hb hr (fun t ht hW => ⟨⟨0, (x_1, vp_updL fo 0 r_1.toInt64), rfl, ⟨by rw [hq_1.2]; exact h.eA eqA.bec, by rw [hq_1.2]; exact eqA.bec.qc h.kk⟩, by rw [ht]; exact hP, va_K.moved hW.alike hK, hD⟩, hS.F ht⟩) hS.2.2 dL_why_26
        · refine kj_t (List.Perm.refl _) (vx_runV (As := [.int (nI j), .int p1, .int p2, .int p3]) (rest := [.int 0, .ref qo]) ⟨hx, hb, hml, hown, htT⟩ (c_why_q3 l hst D cA _ S x h.hx ar h.q0 ak h.q1 h.kk h.R j hj a hja (nI j) hsw p1 p2 p3 h1 h2 h3) (cwV 4 htT (kg_V m_ml_L_67 m_im_X5_why m_sl_X5_why m_in_X5 m_cd_X5_why) rfl rfl rfl (by decide +kernel) ⟨Nat.le_of_ble_eq_true rfl, Nat.le_of_ble_eq_true rfl⟩) (kj_VX (List.Perm.refl _) hK hP hD hTB hTX hS hA (kj_rc (List.Perm.refl _) hK hP h.hx (Nat.le_of_ble_eq_true rfl) rfl)) rfl rfl hl.1 rfl (lv_room (Nat.le_of_ble_eq_true rfl)) dL_why_9 ⟨Nat.le_of_ble_eq_true rfl, Nat.le_of_ble_eq_true rfl⟩) hP hD hS hA (fun ce q9 H locs hP hD hS hce hcv hcl => ?_)
          refine vx_catch hown [⟨0, 14, 17, 21⟩] ⟨0, 14, 21, 13⟩ [] (hTab.trans rfl) (fun z hz => by obtain rfl := List.mem_singleton.mp hz; first | exact Or.inr ⟨by decide, _, htT _ m_cl_L_21, hTX.2.2.2 ("java/lang/IllegalArgumentException", "java/lang/IndexOutOfBoundsException") (by decide +kernel)⟩) rfl (by decide) (htT _ m_cl_L_13) (hTB.use (n_ca _ (by decide))) hce hcv hcl ?_
          refine lv_astore (lv' := [(6, .ref q9), (0, .ref x), (1, .int (nI j)), (2, .int p1), (3, .int p2), (4, .int p3), (5, .ref qo)]) hx hb dL_why_21 hl (by decide) rfl (fun ls hl => ?_)
          refine lv_iconst (v := 2) hx hb dL_why_23 (by decide) ?_
          exact W.iret (v := 2) hx hb hr (fun t ht hW => ⟨⟨2, (S, fo), rfl, ⟨h, QC.rf⟩, by rw [ht]; exact hP, va_K.moved hW.alike hK, hD⟩, hS.F ht⟩) hS.2.2 dL_why_24
      · refine kj_t (List.Perm.refl _) (vx_runV (As := [.int (nI j), .int p1, .int p2, .int p3]) (rest := [.int 0, .ref qo]) ⟨hx, hb, hml, hown, htT⟩ (c_why_q2 l hst D cA _ S x h.hx ar h.q0 ak h.q1 h.kk h.R j hj a hja (nI j) hsw p1 p2 p3 h1 h2) (cwV 4 htT (kg_V m_ml_L_67 m_im_X5_why m_sl_X5_why m_in_X5 m_cd_X5_why) rfl rfl rfl (by decide +kernel) ⟨Nat.le_of_ble_eq_true rfl, Nat.le_of_ble_eq_true rfl⟩) (kj_VX (List.Perm.refl _) hK hP hD hTB hTX hS hA (kj_rc (List.Perm.refl _) hK hP h.hx (Nat.le_of_ble_eq_true rfl) rfl)) rfl rfl hl.1 rfl (lv_room (Nat.le_of_ble_eq_true rfl)) dL_why_9 ⟨Nat.le_of_ble_eq_true rfl, Nat.le_of_ble_eq_true rfl⟩) hP hD hS hA (fun ce q9 H locs hP hD hS hce hcv hcl => ?_)
        refine vx_catch hown [⟨0, 14, 17, 21⟩] ⟨0, 14, 21, 13⟩ [] (hTab.trans rfl) (fun z hz => by obtain rfl := List.mem_singleton.mp hz; first | exact Or.inr ⟨by decide, _, htT _ m_cl_L_21, hTX.2.2.2 ("java/lang/IllegalArgumentException", "java/lang/IndexOutOfBoundsException") (by decide +kernel)⟩) rfl (by decide) (htT _ m_cl_L_13) (hTB.use (n_ca _ (by decide))) hce hcv hcl ?_
        refine lv_astore (lv' := [(6, .ref q9), (0, .ref x), (1, .int (nI j)), (2, .int p1), (3, .int p2), (4, .int p3), (5, .ref qo)]) hx hb dL_why_21 hl (by decide) rfl (fun ls hl => ?_)
        refine lv_iconst (v := 2) hx hb dL_why_23 (by decide) ?_
        exact W.iret (v := 2) hx hb hr (fun t ht hW => ⟨⟨2, (S, fo), rfl, ⟨h, QC.rf⟩, by rw [ht]; exact hP, va_K.moved hW.alike hK, hD⟩, hS.F ht⟩) hS.2.2 dL_why_24
    · refine kj_t (List.Perm.refl _) (vx_runV (As := [.int (nI j), .int p1, .int p2, .int p3]) (rest := [.int 0, .ref qo]) ⟨hx, hb, hml, hown, htT⟩ (c_why_q1 l hst D cA _ S x h.hx ar h.q0 ak h.q1 h.kk h.R j hj a hja (nI j) hsw p1 p2 p3 h1) (cwV 4 htT (kg_V m_ml_L_67 m_im_X5_why m_sl_X5_why m_in_X5 m_cd_X5_why) rfl rfl rfl (by decide +kernel) ⟨Nat.le_of_ble_eq_true rfl, Nat.le_of_ble_eq_true rfl⟩) (kj_VX (List.Perm.refl _) hK hP hD hTB hTX hS hA (kj_rc (List.Perm.refl _) hK hP h.hx (Nat.le_of_ble_eq_true rfl) rfl)) rfl rfl hl.1 rfl (lv_room (Nat.le_of_ble_eq_true rfl)) dL_why_9 ⟨Nat.le_of_ble_eq_true rfl, Nat.le_of_ble_eq_true rfl⟩) hP hD hS hA (fun ce q9 H locs hP hD hS hce hcv hcl => ?_)
      refine vx_catch hown [⟨0, 14, 17, 21⟩] ⟨0, 14, 21, 13⟩ [] (hTab.trans rfl) (fun z hz => by obtain rfl := List.mem_singleton.mp hz; first | exact Or.inr ⟨by decide, _, htT _ m_cl_L_21, hTX.2.2.2 ("java/lang/IllegalArgumentException", "java/lang/IndexOutOfBoundsException") (by decide +kernel)⟩) rfl (by decide) (htT _ m_cl_L_13) (hTB.use (n_ca _ (by decide))) hce hcv hcl ?_
      refine lv_astore (lv' := [(6, .ref q9), (0, .ref x), (1, .int (nI j)), (2, .int p1), (3, .int p2), (4, .int p3), (5, .ref qo)]) hx hb dL_why_21 hl (by decide) rfl (fun ls hl => ?_)
      refine lv_iconst (v := 2) hx hb dL_why_23 (by decide) ?_
      exact W.iret (v := 2) hx hb hr (fun t ht hW => ⟨⟨2, (S, fo), rfl, ⟨h, QC.rf⟩, by rw [ht]; exact hP, va_K.moved hW.alike hK, hD⟩, hS.F ht⟩) hS.2.2 dL_why_24

set_option maxRecDepth 100000 in
set_option maxHeartbeats 4000000 in
theorem w_mean (l : Launch) (hst : l.stackTraces = false) (D : va_G) (cA : Nat → ClassId) (sz : Nat) (S : Pool) (x qo : Nat) (fo : Nat → UInt64) (n na : Nat) (hh cc : Int32) (ar ak : Nat) (h : INVC n na hh cc S x ar ak) (p0 p1 : Int32) : MetD lw_cs l yL_mean (Cond.codeWith yL_mean cL_mean 5 (some .int) [(0, 9, 12, 21)] :: TT) ({ frames := 8, cells := 1, slots := 6, locals := 127 }) (va_Pc [.ref x, .int p0, .int p1, .ref qo] (kPreX D cA (PW cA S ++ [oD cA qo fo]) sz)) (va_Qi (fun (r_ : Int32) (x_ : Pool × (Nat → UInt64)) => INVC n na hh cc x_.1 x ar ak ∧ QC S x_.1) (fun x_ => kB D cA (va_A (PW cA S ++ [oD cA qo fo]) sz) (PW cA x_.1 ++ [oD cA qo x_.2])) (va_A (PW cA S ++ [oD cA qo fo]) sz)) 1 6 (va_A (PW cA S ++ [oD cA qo fo]) sz) := by
  refine kd_ofWH (cc := cL_mean) (maxL := 5) (ret := (some .int)) (by decide) rfl ?_
  intro p e s m args below meth c s₁ B hml hTab hv hd0
  obtain ⟨rfl, ⟨hsz, hP, hK, hD0, hTB⟩, hTX⟩ := hv
  have hx := B.exec
  have hb := B.bytes
  have hr := B.returns
  have hts := atoms_spec (ws := Cond.codeWith yL_mean cL_mean 5 (some .int) [(0, 9, 12, 21)] :: TT) B.pre
  have htT : ∀ w ∈ TT, w.before _ s = true := fun w h => hts w (List.mem_cons_of_mem _ h)
  have hown : s.vm.findClass RL = some m.cls := findClass_of_methodNamed B.named
  have hlocks := B.notSynchronized
  subst hsz
  have hD := hD0.self (sz := s.heap.size)
  generalize hAe : va_A (PW cA S ++ [oD cA qo fo]) s.heap.size = A at hD hTX ⊢
  have hA : ∀ q : Nat, s.heap.size ≤ q → A q := fun q h => by rw [← hAe]; exact Or.inr h
  have hS : va_S A s.heap s.heap [] := va_S.rf
  have hl := lv_entry ([.ref x, .int p0, .int p1, .ref qo]) (n := 5) (Nat.le_of_ble_eq_true rfl)
  rw [lg_entry_eq]
  generalize (lg_sl ([.ref x, .int p0, .int p1, .ref qo]) ++ List.replicate (5 - (lg_sl ([.ref x, .int p0, .int p1, .ref qo])).length) Slot.unset).toArray = ls at hl ⊢
  have hl : lv_has ls 5 [(0, .ref x), (1, .int p0), (2, .int p1), (3, .ref qo)] := hl
  have htT0 := htT
  have hTB0 := hTB
  have hK0 := hK
  have hown0 := hown
  have hTX0 := hTX
  have htT : ∀ w ∈ TT, w.before _ (s.setDrawn s.drawn) = true := dr_words htT0 s.drawn
  have hTB : TBok (s.setDrawn s.drawn) := TBok.same (u := s) (U := s.setDrawn s.drawn) rfl (Vm.Alike.refl s.vm) hTB0
  have hK : va_K D vwCl (ty6 cA) (s.setDrawn s.drawn) := hK0
  have hown : (s.setDrawn s.drawn).vm.findClass RL = some m.cls := hown0
  have hTX : TXok A (s.setDrawn s.drawn) := hTX0.dr s.drawn
  refine lv_aload_n hx hb dL_mean_0 rfl (lv_at hl 3 rfl) ?_
  refine lv_iconst (v := 0) hx hb dL_mean_1 (by decide) ?_
  refine lv_aload_n hx hb dL_mean_2 rfl (lv_at hl 0 rfl) ?_
  refine lv_iload_n hx hb dL_mean_3 rfl (lv_at hl 1 rfl) ?_
  refine lv_iload_n hx hb dL_mean_4 rfl (lv_at hl 2 rfl) ?_
  rcases h.at p0 with ⟨hsw, -⟩ | ⟨j, a, hjn, rfl, hja, hsw⟩
  · refine kj_t (List.Perm.refl _) (vx_runV (As := [.int p0, .int p1]) (rest := [.int 0, .ref qo]) ⟨hx, hb, hml, hown, htT⟩ (c_mean_t l hst D cA _ S x h.hx ar h.q0 h.R.1 p0 p1 hsw) (cwV 2 htT (kg_V m_ml_L_85 m_im_X5_mean m_sl_X5_mean m_in_X5 m_cd_X5_mean) rfl rfl rfl (by decide +kernel) ⟨Nat.le_of_ble_eq_true rfl, Nat.le_of_ble_eq_true rfl⟩) (kj_VX (List.Perm.refl _) hK hP hD hTB hTX hS hA (kj_rc (List.Perm.refl _) hK hP h.hx (Nat.le_of_ble_eq_true rfl) rfl)) rfl rfl hl.1 rfl (lv_room (Nat.le_of_ble_eq_true rfl)) dL_mean_5 ⟨Nat.le_of_ble_eq_true rfl, Nat.le_of_ble_eq_true rfl⟩) hP hD hS hA (fun ce q9 H locs hP hD hS hce hcv hcl => ?_)
    refine vx_catch hown [] ⟨0, 9, 12, 21⟩ [] (hTab.trans rfl) (fun z hz => nomatch hz) rfl (by decide) (htT _ m_cl_L_21) (hTB.use (n_ca _ (by decide))) hce hcv hcl ?_
    refine lv_astore (lv' := [(4, .ref q9), (0, .ref x), (1, .int p0), (2, .int p1), (3, .ref qo)]) hx hb dL_mean_12 hl (by decide) rfl (fun ls hl => ?_)
    refine lv_iconst (v := 1) hx hb dL_mean_14 (by decide) ?_
    refine W.endD hd0 ?_
    exact W.iret (v := 1) hx hb hr (fun t ht hW => ⟨⟨1, (S, fo), rfl, ⟨h, QC.rf⟩, by rw [ht]; exact hP, va_K.moved hW.alike hK, hD⟩, hS.F ht⟩) hS.2.2 dL_mean_15
  · have hj : j < 8 := by have := h.n8; omega
    rcases kOut_01 p1 0 (gI S a 2 - 1) with hv | hv
    · refine kjD_d hd0 (List.Perm.refl _) (va_runV_D (As := [.int (nI j), .int p1]) (rest := [.int 0, .ref qo]) ⟨hx, hb, hml, hown, htT⟩ (c_mean l D cA _ S x h.hx ar h.q0 ak h.q1 h.kk h.R j hj a hja (nI j) hsw p1 hv) (cwV 2 htT (kg_V m_ml_L_85 m_im_X5_mean m_sl_X5_mean m_in_X5 m_cd_X5_mean) rfl rfl rfl (by decide +kernel) ⟨Nat.le_of_ble_eq_true rfl, Nat.le_of_ble_eq_true rfl⟩) (kj_V (List.Perm.refl _) hK hP hD hTB (kj_rc (List.Perm.refl _) hK hP h.hx (Nat.le_of_ble_eq_true rfl) rfl)) rfl rfl hl.1 rfl (lv_room (Nat.le_of_ble_eq_true rfl)) dL_mean_5 ⟨Nat.le_of_ble_eq_true rfl, Nat.le_of_ble_eq_true rfl⟩) hP hD hS hA (fun r_1 x_1 H locs hq_1 hP hD hS d_1 hd0 => ?_)
      have htT : ∀ w ∈ TT, w.before _ (s.setDrawn d_1) = true := dr_words htT0 d_1
      have hTB : TBok (s.setDrawn d_1) := TBok.same (u := s) (U := s.setDrawn d_1) rfl (Vm.Alike.refl s.vm) hTB0
      have hK : va_K D vwCl (ty6 cA) (s.setDrawn d_1) := hK0
      have hown : (s.setDrawn d_1).vm.findClass RL = some m.cls := hown0
      have hTX : TXok A (s.setDrawn d_1) := hTX0.dr d_1
      refine kw_dast hx hb hK hP hD hS dL_mean_8 (fun H locs hP hD hS => ?_)
      refine lv_goto (tgt := 16) hx hb dL_mean_9 (by decide) ?_
      refine lv_iconst (v := 0) hx hb dL_mean_16 (by decide) ?_
      refine W.widen (k := 1) (n := 6) (Nat.le_of_ble_eq_true rfl) (Nat.le_of_ble_eq_true rfl) ?_
      refine W.endD hd0 ?_
      exact W.iret (v := 0) hx hb hr (fun t ht hW => ⟨⟨0, (x_1, vf_upd fo 0 r_1), rfl, ⟨by rw [hq_1.2]; exact h, by rw [hq_1.2]; exact QC.rf⟩, by rw [ht]; exact hP, va_K.moved hW.alike hK, hD⟩, hS.F ht⟩) hS.2.2 dL_mean_17
    · refine kj_t (List.Perm.refl _) (vx_runV (As := [.int (nI j), .int p1]) (rest := [.int 0, .ref qo]) ⟨hx, hb, hml, hown, htT⟩ (c_mean_v l hst D cA _ S x h.hx ar h.q0 ak h.q1 h.kk h.R j hj a hja (nI j) hsw p1 hv) (cwV 2 htT (kg_V m_ml_L_85 m_im_X5_mean m_sl_X5_mean m_in_X5 m_cd_X5_mean) rfl rfl rfl (by decide +kernel) ⟨Nat.le_of_ble_eq_true rfl, Nat.le_of_ble_eq_true rfl⟩) (kj_VX (List.Perm.refl _) hK hP hD hTB hTX hS hA (kj_rc (List.Perm.refl _) hK hP h.hx (Nat.le_of_ble_eq_true rfl) rfl)) rfl rfl hl.1 rfl (lv_room (Nat.le_of_ble_eq_true rfl)) dL_mean_5 ⟨Nat.le_of_ble_eq_true rfl, Nat.le_of_ble_eq_true rfl⟩) hP hD hS hA (fun ce q9 H locs hP hD hS hce hcv hcl => ?_)
      refine vx_catch hown [] ⟨0, 9, 12, 21⟩ [] (hTab.trans rfl) (fun z hz => nomatch hz) rfl (by decide) (htT _ m_cl_L_21) (hTB.use (n_ca _ (by decide))) hce hcv hcl ?_
      refine lv_astore (lv' := [(4, .ref q9), (0, .ref x), (1, .int (nI j)), (2, .int p1), (3, .ref qo)]) hx hb dL_mean_12 hl (by decide) rfl (fun ls hl => ?_)
      refine lv_iconst (v := 1) hx hb dL_mean_14 (by decide) ?_
      refine W.endD hd0 ?_
      exact W.iret (v := 1) hx hb hr (fun t ht hW => ⟨⟨1, (S, fo), rfl, ⟨h, QC.rf⟩, by rw [ht]; exact hP, va_K.moved hW.alike hK, hD⟩, hS.F ht⟩) hS.2.2 dL_mean_15

set_option maxRecDepth 100000 in
set_option maxHeartbeats 4000000 in
theorem w_lift (l : Launch) (hst : l.stackTraces = false) (D : va_G) (cA : Nat → ClassId) (sz : Nat) (S : Pool) (x qo : Nat) (fo : Nat → UInt64) (n na : Nat) (hh cc : Int32) (ar ak : Nat) (h : INVC n na hh cc S x ar ak) (p0 p1 : Int32) : MetD lw_cs l yL_lift (Cond.codeWith yL_lift cL_lift 5 (some .int) [(0, 9, 12, 21)] :: TT) ({ frames := 8, cells := 1, slots := 6, locals := 127 }) (va_Pc [.ref x, .int p0, .int p1, .ref qo] (kPreX D cA (PW cA S ++ [oD cA qo fo]) sz)) (va_Qi (fun (r_ : Int32) (x_ : Pool × (Nat → UInt64)) => INVC n na hh cc x_.1 x ar ak ∧ QC S x_.1) (fun x_ => kB D cA (va_A (PW cA S ++ [oD cA qo fo]) sz) (PW cA x_.1 ++ [oD cA qo x_.2])) (va_A (PW cA S ++ [oD cA qo fo]) sz)) 1 6 (va_A (PW cA S ++ [oD cA qo fo]) sz) := by
  refine kd_ofWH (cc := cL_lift) (maxL := 5) (ret := (some .int)) (by decide) rfl ?_
  intro p e s m args below meth c s₁ B hml hTab hv hd0
  obtain ⟨rfl, ⟨hsz, hP, hK, hD0, hTB⟩, hTX⟩ := hv
  have hx := B.exec
  have hb := B.bytes
  have hr := B.returns
  have hts := atoms_spec (ws := Cond.codeWith yL_lift cL_lift 5 (some .int) [(0, 9, 12, 21)] :: TT) B.pre
  have htT : ∀ w ∈ TT, w.before _ s = true := fun w h => hts w (List.mem_cons_of_mem _ h)
  have hown : s.vm.findClass RL = some m.cls := findClass_of_methodNamed B.named
  have hlocks := B.notSynchronized
  subst hsz
  have hD := hD0.self (sz := s.heap.size)
  generalize hAe : va_A (PW cA S ++ [oD cA qo fo]) s.heap.size = A at hD hTX ⊢
  have hA : ∀ q : Nat, s.heap.size ≤ q → A q := fun q h => by rw [← hAe]; exact Or.inr h
  have hS : va_S A s.heap s.heap [] := va_S.rf
  have hl := lv_entry ([.ref x, .int p0, .int p1, .ref qo]) (n := 5) (Nat.le_of_ble_eq_true rfl)
  rw [lg_entry_eq]
  generalize (lg_sl ([.ref x, .int p0, .int p1, .ref qo]) ++ List.replicate (5 - (lg_sl ([.ref x, .int p0, .int p1, .ref qo])).length) Slot.unset).toArray = ls at hl ⊢
  have hl : lv_has ls 5 [(0, .ref x), (1, .int p0), (2, .int p1), (3, .ref qo)] := hl
  have htT0 := htT
  have hTB0 := hTB
  have hK0 := hK
  have hown0 := hown
  have hTX0 := hTX
  have htT : ∀ w ∈ TT, w.before _ (s.setDrawn s.drawn) = true := dr_words htT0 s.drawn
  have hTB : TBok (s.setDrawn s.drawn) := TBok.same (u := s) (U := s.setDrawn s.drawn) rfl (Vm.Alike.refl s.vm) hTB0
  have hK : va_K D vwCl (ty6 cA) (s.setDrawn s.drawn) := hK0
  have hown : (s.setDrawn s.drawn).vm.findClass RL = some m.cls := hown0
  have hTX : TXok A (s.setDrawn s.drawn) := hTX0.dr s.drawn
  refine lv_aload_n hx hb dL_lift_0 rfl (lv_at hl 3 rfl) ?_
  refine lv_iconst (v := 0) hx hb dL_lift_1 (by decide) ?_
  refine lv_aload_n hx hb dL_lift_2 rfl (lv_at hl 0 rfl) ?_
  refine lv_iload_n hx hb dL_lift_3 rfl (lv_at hl 1 rfl) ?_
  refine lv_iload_n hx hb dL_lift_4 rfl (lv_at hl 2 rfl) ?_
  rcases h.at p0 with ⟨hsw, -⟩ | ⟨j, a, hjn, rfl, hja, hsw⟩
  · refine kj_t (List.Perm.refl _) (vx_runV (As := [.int p0, .int p1]) (rest := [.int 0, .ref qo]) ⟨hx, hb, hml, hown, htT⟩ (c_lift_t l hst D cA _ S x h.hx ar h.q0 h.R.1 p0 p1 hsw) (cwV 2 htT (kg_V m_ml_L_89 m_im_X5_lift m_sl_X5_lift m_in_X5 m_cd_X5_lift) rfl rfl rfl (by decide +kernel) ⟨Nat.le_of_ble_eq_true rfl, Nat.le_of_ble_eq_true rfl⟩) (kj_VX (List.Perm.refl _) hK hP hD hTB hTX hS hA (kj_rc (List.Perm.refl _) hK hP h.hx (Nat.le_of_ble_eq_true rfl) rfl)) rfl rfl hl.1 rfl (lv_room (Nat.le_of_ble_eq_true rfl)) dL_lift_5 ⟨Nat.le_of_ble_eq_true rfl, Nat.le_of_ble_eq_true rfl⟩) hP hD hS hA (fun ce q9 H locs hP hD hS hce hcv hcl => ?_)
    refine vx_catch hown [] ⟨0, 9, 12, 21⟩ [] (hTab.trans rfl) (fun z hz => nomatch hz) rfl (by decide) (htT _ m_cl_L_21) (hTB.use (n_ca _ (by decide))) hce hcv hcl ?_
    refine lv_astore (lv' := [(4, .ref q9), (0, .ref x), (1, .int p0), (2, .int p1), (3, .ref qo)]) hx hb dL_lift_12 hl (by decide) rfl (fun ls hl => ?_)
    refine lv_iconst (v := 1) hx hb dL_lift_14 (by decide) ?_
    refine W.endD hd0 ?_
    exact W.iret (v := 1) hx hb hr (fun t ht hW => ⟨⟨1, (S, fo), rfl, ⟨h, QC.rf⟩, by rw [ht]; exact hP, va_K.moved hW.alike hK, hD⟩, hS.F ht⟩) hS.2.2 dL_lift_15
  · have hj : j < 8 := by have := h.n8; omega
    rcases kOut_01 p1 0 (gI S a 2 - 1) with hv | hv
    · refine kjD_d hd0 (List.Perm.refl _) (va_runV_D (As := [.int (nI j), .int p1]) (rest := [.int 0, .ref qo]) ⟨hx, hb, hml, hown, htT⟩ (c_lift l D cA _ S x h.hx ar h.q0 ak h.q1 h.kk h.R j hj a hja (nI j) hsw p1 hv) (cwV 2 htT (kg_V m_ml_L_89 m_im_X5_lift m_sl_X5_lift m_in_X5 m_cd_X5_lift) rfl rfl rfl (by decide +kernel) ⟨Nat.le_of_ble_eq_true rfl, Nat.le_of_ble_eq_true rfl⟩) (kj_V (List.Perm.refl _) hK hP hD hTB (kj_rc (List.Perm.refl _) hK hP h.hx (Nat.le_of_ble_eq_true rfl) rfl)) rfl rfl hl.1 rfl (lv_room (Nat.le_of_ble_eq_true rfl)) dL_lift_5 ⟨Nat.le_of_ble_eq_true rfl, Nat.le_of_ble_eq_true rfl⟩) hP hD hS hA (fun r_1 x_1 H locs hq_1 hP hD hS d_1 hd0 => ?_)
      have htT : ∀ w ∈ TT, w.before _ (s.setDrawn d_1) = true := dr_words htT0 d_1
      have hTB : TBok (s.setDrawn d_1) := TBok.same (u := s) (U := s.setDrawn d_1) rfl (Vm.Alike.refl s.vm) hTB0
      have hK : va_K D vwCl (ty6 cA) (s.setDrawn d_1) := hK0
      have hown : (s.setDrawn d_1).vm.findClass RL = some m.cls := hown0
      have hTX : TXok A (s.setDrawn d_1) := hTX0.dr d_1
      refine kw_dast hx hb hK hP hD hS dL_lift_8 (fun H locs hP hD hS => ?_)
      refine lv_goto (tgt := 16) hx hb dL_lift_9 (by decide) ?_
      refine lv_iconst (v := 0) hx hb dL_lift_16 (by decide) ?_
      refine W.widen (k := 1) (n := 6) (Nat.le_of_ble_eq_true rfl) (Nat.le_of_ble_eq_true rfl) ?_
      refine W.endD hd0 ?_
      exact W.iret (v := 0) hx hb hr (fun t ht hW => ⟨⟨0, (x_1, vf_upd fo 0 r_1), rfl, ⟨by rw [hq_1.2]; exact h, by rw [hq_1.2]; exact QC.rf⟩, by rw [ht]; exact hP, va_K.moved hW.alike hK, hD⟩, hS.F ht⟩) hS.2.2 dL_lift_17
    · refine kj_t (List.Perm.refl _) (vx_runV (As := [.int (nI j), .int p1]) (rest := [.int 0, .ref qo]) ⟨hx, hb, hml, hown, htT⟩ (c_lift_v l hst D cA _ S x h.hx ar h.q0 ak h.q1 h.kk h.R j hj a hja (nI j) hsw p1 hv) (cwV 2 htT (kg_V m_ml_L_89 m_im_X5_lift m_sl_X5_lift m_in_X5 m_cd_X5_lift) rfl rfl rfl (by decide +kernel) ⟨Nat.le_of_ble_eq_true rfl, Nat.le_of_ble_eq_true rfl⟩) (kj_VX (List.Perm.refl _) hK hP hD hTB hTX hS hA (kj_rc (List.Perm.refl _) hK hP h.hx (Nat.le_of_ble_eq_true rfl) rfl)) rfl rfl hl.1 rfl (lv_room (Nat.le_of_ble_eq_true rfl)) dL_lift_5 ⟨Nat.le_of_ble_eq_true rfl, Nat.le_of_ble_eq_true rfl⟩) hP hD hS hA (fun ce q9 H locs hP hD hS hce hcv hcl => ?_)
      refine vx_catch hown [] ⟨0, 9, 12, 21⟩ [] (hTab.trans rfl) (fun z hz => nomatch hz) rfl (by decide) (htT _ m_cl_L_21) (hTB.use (n_ca _ (by decide))) hce hcv hcl ?_
      refine lv_astore (lv' := [(4, .ref q9), (0, .ref x), (1, .int (nI j)), (2, .int p1), (3, .ref qo)]) hx hb dL_lift_12 hl (by decide) rfl (fun ls hl => ?_)
      refine lv_iconst (v := 1) hx hb dL_lift_14 (by decide) ?_
      refine W.endD hd0 ?_
      exact W.iret (v := 1) hx hb hr (fun t ht hW => ⟨⟨1, (S, fo), rfl, ⟨h, QC.rf⟩, by rw [ht]; exact hP, va_K.moved hW.alike hK, hD⟩, hS.F ht⟩) hS.2.2 dL_lift_15

set_option maxRecDepth 100000 in
set_option maxHeartbeats 4000000 in
theorem w_sure (l : Launch) (hst : l.stackTraces = false) (D : va_G) (cA : Nat → ClassId) (sz : Nat) (S : Pool) (x qo : Nat) (fo : Nat → UInt64) (n na : Nat) (hh cc : Int32) (ar ak : Nat) (h : INVC n na hh cc S x ar ak) (p0 p1 : Int32) : MetD lw_cs l yL_sure (Cond.codeWith yL_sure cL_sure 5 (some .int) [(0, 9, 12, 21)] :: TT) ({ frames := 8, cells := 1, slots := 6, locals := 137 }) (va_Pc [.ref x, .int p0, .int p1, .ref qo] (kPreX D cA (PW cA S ++ [oD cA qo fo]) sz)) (va_Qi (fun (r_ : Int32) (x_ : Pool × (Nat → UInt64)) => INVC n na hh cc x_.1 x ar ak ∧ QC S x_.1) (fun x_ => kB D cA (va_A (PW cA S ++ [oD cA qo fo]) sz) (PW cA x_.1 ++ [oD cA qo x_.2])) (va_A (PW cA S ++ [oD cA qo fo]) sz)) 1 6 (va_A (PW cA S ++ [oD cA qo fo]) sz) := by
  refine kd_ofWH (cc := cL_sure) (maxL := 5) (ret := (some .int)) (by decide) rfl ?_
  intro p e s m args below meth c s₁ B hml hTab hv hd0
  obtain ⟨rfl, ⟨hsz, hP, hK, hD0, hTB⟩, hTX⟩ := hv
  have hx := B.exec
  have hb := B.bytes
  have hr := B.returns
  have hts := atoms_spec (ws := Cond.codeWith yL_sure cL_sure 5 (some .int) [(0, 9, 12, 21)] :: TT) B.pre
  have htT : ∀ w ∈ TT, w.before _ s = true := fun w h => hts w (List.mem_cons_of_mem _ h)
  have hown : s.vm.findClass RL = some m.cls := findClass_of_methodNamed B.named
  have hlocks := B.notSynchronized
  subst hsz
  have hD := hD0.self (sz := s.heap.size)
  generalize hAe : va_A (PW cA S ++ [oD cA qo fo]) s.heap.size = A at hD hTX ⊢
  have hA : ∀ q : Nat, s.heap.size ≤ q → A q := fun q h => by rw [← hAe]; exact Or.inr h
  have hS : va_S A s.heap s.heap [] := va_S.rf
  have hl := lv_entry ([.ref x, .int p0, .int p1, .ref qo]) (n := 5) (Nat.le_of_ble_eq_true rfl)
  rw [lg_entry_eq]
  generalize (lg_sl ([.ref x, .int p0, .int p1, .ref qo]) ++ List.replicate (5 - (lg_sl ([.ref x, .int p0, .int p1, .ref qo])).length) Slot.unset).toArray = ls at hl ⊢
  have hl : lv_has ls 5 [(0, .ref x), (1, .int p0), (2, .int p1), (3, .ref qo)] := hl
  have htT0 := htT
  have hTB0 := hTB
  have hK0 := hK
  have hown0 := hown
  have hTX0 := hTX
  have htT : ∀ w ∈ TT, w.before _ (s.setDrawn s.drawn) = true := dr_words htT0 s.drawn
  have hTB : TBok (s.setDrawn s.drawn) := TBok.same (u := s) (U := s.setDrawn s.drawn) rfl (Vm.Alike.refl s.vm) hTB0
  have hK : va_K D vwCl (ty6 cA) (s.setDrawn s.drawn) := hK0
  have hown : (s.setDrawn s.drawn).vm.findClass RL = some m.cls := hown0
  have hTX : TXok A (s.setDrawn s.drawn) := hTX0.dr s.drawn
  refine lv_aload_n hx hb dL_sure_0 rfl (lv_at hl 3 rfl) ?_
  refine lv_iconst (v := 0) hx hb dL_sure_1 (by decide) ?_
  refine lv_aload_n hx hb dL_sure_2 rfl (lv_at hl 0 rfl) ?_
  refine lv_iload_n hx hb dL_sure_3 rfl (lv_at hl 1 rfl) ?_
  refine lv_iload_n hx hb dL_sure_4 rfl (lv_at hl 2 rfl) ?_
  rcases h.at p0 with ⟨hsw, -⟩ | ⟨j, a, hjn, rfl, hja, hsw⟩
  · refine kj_t (List.Perm.refl _) (vx_runV (As := [.int p0, .int p1]) (rest := [.int 0, .ref qo]) ⟨hx, hb, hml, hown, htT⟩ (c_sure_t l hst D cA _ S x h.hx ar h.q0 h.R.1 p0 p1 hsw) (cwV 2 htT (kg_V m_ml_L_92 m_im_X5_sure m_sl_X5_sure m_in_X5 m_cd_X5_sure) rfl rfl rfl (by decide +kernel) ⟨Nat.le_of_ble_eq_true rfl, Nat.le_of_ble_eq_true rfl⟩) (kj_VX (List.Perm.refl _) hK hP hD hTB hTX hS hA (kj_rc (List.Perm.refl _) hK hP h.hx (Nat.le_of_ble_eq_true rfl) rfl)) rfl rfl hl.1 rfl (lv_room (Nat.le_of_ble_eq_true rfl)) dL_sure_5 ⟨Nat.le_of_ble_eq_true rfl, Nat.le_of_ble_eq_true rfl⟩) hP hD hS hA (fun ce q9 H locs hP hD hS hce hcv hcl => ?_)
    refine vx_catch hown [] ⟨0, 9, 12, 21⟩ [] (hTab.trans rfl) (fun z hz => nomatch hz) rfl (by decide) (htT _ m_cl_L_21) (hTB.use (n_ca _ (by decide))) hce hcv hcl ?_
    refine lv_astore (lv' := [(4, .ref q9), (0, .ref x), (1, .int p0), (2, .int p1), (3, .ref qo)]) hx hb dL_sure_12 hl (by decide) rfl (fun ls hl => ?_)
    refine lv_iconst (v := 1) hx hb dL_sure_14 (by decide) ?_
    refine W.endD hd0 ?_
    exact W.iret (v := 1) hx hb hr (fun t ht hW => ⟨⟨1, (S, fo), rfl, ⟨h, QC.rf⟩, by rw [ht]; exact hP, va_K.moved hW.alike hK, hD⟩, hS.F ht⟩) hS.2.2 dL_sure_15
  · have hj : j < 8 := by have := h.n8; omega
    rcases kOut_01 p1 0 (gI S a 2 - 1) with hv | hv
    · refine kjD_d hd0 (List.Perm.refl _) (va_runV_D (As := [.int (nI j), .int p1]) (rest := [.int 0, .ref qo]) ⟨hx, hb, hml, hown, htT⟩ (c_sure l D cA _ S x h.hx ar h.q0 ak h.q1 h.kk h.R j hj a hja (nI j) hsw p1 hv) (cwV 2 htT (kg_V m_ml_L_92 m_im_X5_sure m_sl_X5_sure m_in_X5 m_cd_X5_sure) rfl rfl rfl (by decide +kernel) ⟨Nat.le_of_ble_eq_true rfl, Nat.le_of_ble_eq_true rfl⟩) (kj_V (List.Perm.refl _) hK hP hD hTB (kj_rc (List.Perm.refl _) hK hP h.hx (Nat.le_of_ble_eq_true rfl) rfl)) rfl rfl hl.1 rfl (lv_room (Nat.le_of_ble_eq_true rfl)) dL_sure_5 ⟨Nat.le_of_ble_eq_true rfl, Nat.le_of_ble_eq_true rfl⟩) hP hD hS hA (fun r_1 x_1 H locs hq_1 hP hD hS d_1 hd0 => ?_)
      have htT : ∀ w ∈ TT, w.before _ (s.setDrawn d_1) = true := dr_words htT0 d_1
      have hTB : TBok (s.setDrawn d_1) := TBok.same (u := s) (U := s.setDrawn d_1) rfl (Vm.Alike.refl s.vm) hTB0
      have hK : va_K D vwCl (ty6 cA) (s.setDrawn d_1) := hK0
      have hown : (s.setDrawn d_1).vm.findClass RL = some m.cls := hown0
      have hTX : TXok A (s.setDrawn d_1) := hTX0.dr d_1
      refine kw_dast hx hb hK hP hD hS dL_sure_8 (fun H locs hP hD hS => ?_)
      refine lv_goto (tgt := 16) hx hb dL_sure_9 (by decide) ?_
      refine lv_iconst (v := 0) hx hb dL_sure_16 (by decide) ?_
      refine W.widen (k := 1) (n := 6) (Nat.le_of_ble_eq_true rfl) (Nat.le_of_ble_eq_true rfl) ?_
      refine W.endD hd0 ?_
      exact W.iret (v := 0) hx hb hr (fun t ht hW => ⟨⟨0, (x_1, vf_upd fo 0 r_1), rfl, ⟨by rw [hq_1.2]; exact h, by rw [hq_1.2]; exact QC.rf⟩, by rw [ht]; exact hP, va_K.moved hW.alike hK, hD⟩, hS.F ht⟩) hS.2.2 dL_sure_17
    · refine kj_t (List.Perm.refl _) (vx_runV (As := [.int (nI j), .int p1]) (rest := [.int 0, .ref qo]) ⟨hx, hb, hml, hown, htT⟩ (c_sure_v l hst D cA _ S x h.hx ar h.q0 ak h.q1 h.kk h.R j hj a hja (nI j) hsw p1 hv) (cwV 2 htT (kg_V m_ml_L_92 m_im_X5_sure m_sl_X5_sure m_in_X5 m_cd_X5_sure) rfl rfl rfl (by decide +kernel) ⟨Nat.le_of_ble_eq_true rfl, Nat.le_of_ble_eq_true rfl⟩) (kj_VX (List.Perm.refl _) hK hP hD hTB hTX hS hA (kj_rc (List.Perm.refl _) hK hP h.hx (Nat.le_of_ble_eq_true rfl) rfl)) rfl rfl hl.1 rfl (lv_room (Nat.le_of_ble_eq_true rfl)) dL_sure_5 ⟨Nat.le_of_ble_eq_true rfl, Nat.le_of_ble_eq_true rfl⟩) hP hD hS hA (fun ce q9 H locs hP hD hS hce hcv hcl => ?_)
      refine vx_catch hown [] ⟨0, 9, 12, 21⟩ [] (hTab.trans rfl) (fun z hz => nomatch hz) rfl (by decide) (htT _ m_cl_L_21) (hTB.use (n_ca _ (by decide))) hce hcv hcl ?_
      refine lv_astore (lv' := [(4, .ref q9), (0, .ref x), (1, .int (nI j)), (2, .int p1), (3, .ref qo)]) hx hb dL_sure_12 hl (by decide) rfl (fun ls hl => ?_)
      refine lv_iconst (v := 1) hx hb dL_sure_14 (by decide) ?_
      refine W.endD hd0 ?_
      exact W.iret (v := 1) hx hb hr (fun t ht hW => ⟨⟨1, (S, fo), rfl, ⟨h, QC.rf⟩, by rw [ht]; exact hP, va_K.moved hW.alike hK, hD⟩, hS.F ht⟩) hS.2.2 dL_sure_15

set_option maxRecDepth 100000 in
set_option maxHeartbeats 4000000 in
theorem w_bad (l : Launch) (hst : l.stackTraces = false) (D : va_G) (cA : Nat → ClassId) (sz : Nat) (S : Pool) (x qo : Nat) (fo : Nat → Int64) (n na : Nat) (hh cc : Int32) (ar ak : Nat) (h : INVC n na hh cc S x ar ak) (p0 : Int32) : Met l yL_bad (Cond.codeWith yL_bad cL_bad 4 (some .int) [(0, 9, 12, 21)] :: TT) ({ frames := 8, cells := 1, slots := 6, locals := 125 }) (va_Pc [.ref x, .int p0, .ref qo] (kPreX D cA (PW cA S ++ [oJ cA qo fo]) sz)) (va_Qi (fun (r_ : Int32) (x_ : Pool × (Nat → Int64)) => INVC n na hh cc x_.1 x ar ak ∧ QC S x_.1) (fun x_ => kB D cA (va_A (PW cA S ++ [oJ cA qo fo]) sz) (PW cA x_.1 ++ [oJ cA qo x_.2])) (va_A (PW cA S ++ [oJ cA qo fo]) sz)) 1 6 (va_A (PW cA S ++ [oJ cA qo fo]) sz) := by
  refine kt_ofWH (cc := cL_bad) (maxL := 4) (ret := (some .int)) (by decide) rfl ?_
  intro p e s m args below meth c s₁ B hml hTab hv
  obtain ⟨rfl, ⟨hsz, hP, hK, hD0, hTB⟩, hTX⟩ := hv
  have hx := B.exec
  have hb := B.bytes
  have hr := B.returns
  have hts := atoms_spec (ws := Cond.codeWith yL_bad cL_bad 4 (some .int) [(0, 9, 12, 21)] :: TT) B.pre
  have htT : ∀ w ∈ TT, w.before _ s = true := fun w h => hts w (List.mem_cons_of_mem _ h)
  have hown : s.vm.findClass RL = some m.cls := findClass_of_methodNamed B.named
  have hlocks := B.notSynchronized
  subst hsz
  have hD := hD0.self (sz := s.heap.size)
  generalize hAe : va_A (PW cA S ++ [oJ cA qo fo]) s.heap.size = A at hD hTX ⊢
  have hA : ∀ q : Nat, s.heap.size ≤ q → A q := fun q h => by rw [← hAe]; exact Or.inr h
  have hS : va_S A s.heap s.heap [] := va_S.rf
  have hl := lv_entry ([.ref x, .int p0, .ref qo]) (n := 4) (Nat.le_of_ble_eq_true rfl)
  rw [lg_entry_eq]
  generalize (lg_sl ([.ref x, .int p0, .ref qo]) ++ List.replicate (4 - (lg_sl ([.ref x, .int p0, .ref qo])).length) Slot.unset).toArray = ls at hl ⊢
  have hl : lv_has ls 4 [(0, .ref x), (1, .int p0), (2, .ref qo)] := hl
  refine lv_aload_n hx hb dL_bad_0 rfl (lv_at hl 2 rfl) ?_
  refine lv_iconst (v := 0) hx hb dL_bad_1 (by decide) ?_
  refine lv_aload_n hx hb dL_bad_2 rfl (lv_at hl 0 rfl) ?_
  refine lv_iload_n hx hb dL_bad_3 rfl (lv_at hl 1 rfl) ?_
  rcases h.at p0 with ⟨hsw, -⟩ | ⟨j, a, hjn, rfl, hja, hsw⟩
  · refine kj_t (List.Perm.refl _) (vx_runV (As := [.int p0]) (rest := [.int 0, .ref qo]) ⟨hx, hb, hml, hown, htT⟩ (c_bad_t l hst D cA _ S x h.hx ar h.q0 h.R.1 p0 hsw) (cwV 1 htT (kg_V m_ml_L_95 m_im_X5_bad m_sl_X5_bad m_in_X5 m_cd_X5_bad) rfl rfl rfl (by decide +kernel) ⟨Nat.le_of_ble_eq_true rfl, Nat.le_of_ble_eq_true rfl⟩) (kj_VX (List.Perm.refl _) hK hP hD hTB hTX hS hA (kj_rc (List.Perm.refl _) hK hP h.hx (Nat.le_of_ble_eq_true rfl) rfl)) rfl rfl hl.1 rfl (lv_room (Nat.le_of_ble_eq_true rfl)) dL_bad_4 ⟨Nat.le_of_ble_eq_true rfl, Nat.le_of_ble_eq_true rfl⟩) hP hD hS hA (fun ce q9 H locs hP hD hS hce hcv hcl => ?_)
    refine vx_catch hown [] ⟨0, 9, 12, 21⟩ [] (hTab.trans rfl) (fun z hz => nomatch hz) rfl (by decide) (htT _ m_cl_L_21) (hTB.use (n_ca _ (by decide))) hce hcv hcl ?_
    refine lv_astore_n (lv' := [(3, .ref q9), (0, .ref x), (1, .int p0), (2, .ref qo)]) hx hb dL_bad_12 rfl hl (by decide) rfl (fun ls hl => ?_)
    refine lv_iconst (v := 1) hx hb dL_bad_13 (by decide) ?_
    exact W.iret (v := 1) hx hb hr (fun t ht hW => ⟨⟨1, (S, fo), rfl, ⟨h, QC.rf⟩, by rw [ht]; exact hP, va_K.moved hW.alike hK, hD⟩, hS.F ht⟩) hS.2.2 dL_bad_14
  · have hj : j < 8 := by have := h.n8; omega
    refine kj_i (List.Perm.refl _) (va_runV (As := [.int (nI j)]) (rest := [.int 0, .ref qo]) ⟨hx, hb, hml, hown, htT⟩ (c_bad l D cA _ S x h.hx ar h.q0 ak h.q1 h.kk h.R j hj a hja (nI j) hsw ) (cwV 1 htT (kg_V m_ml_L_95 m_im_X5_bad m_sl_X5_bad m_in_X5 m_cd_X5_bad) rfl rfl rfl (by decide +kernel) ⟨Nat.le_of_ble_eq_true rfl, Nat.le_of_ble_eq_true rfl⟩) (kj_V (List.Perm.refl _) hK hP hD hTB (kj_rc (List.Perm.refl _) hK hP h.hx (Nat.le_of_ble_eq_true rfl) rfl)) rfl rfl hl.1 rfl (lv_room (Nat.le_of_ble_eq_true rfl)) dL_bad_4 ⟨Nat.le_of_ble_eq_true rfl, Nat.le_of_ble_eq_true rfl⟩) hP hD hS hA (fun r_1 x_1 H locs hq_1 hP hD hS => ?_)
    refine lv_i2l (v := r_1.toInt64) hx hb dL_bad_7 rfl ?_
    refine kw_last hx hb hK hP hD hS dL_bad_8 (fun H locs hP hD hS => ?_)
    refine lv_goto (tgt := 15) hx hb dL_bad_9 (by decide) ?_
    refine lv_iconst (v := 0) hx hb dL_bad_15 (by decide) ?_
    refine W.widen (k := 1) (n := 6) (Nat.le_of_ble_eq_true rfl) (Nat.le_of_ble_eq_true rfl) ?_
    exact W.iret (v := 0) hx hb hr (fun t ht hW => ⟨⟨0, (x_1, vp_updL fo 0 r_1.toInt64), rfl, ⟨by rw [hq_1.2]; exact h, by rw [hq_1.2]; exact QC.rf⟩, by rw [ht]; exact hP, va_K.moved hW.alike hK, hD⟩, hS.F ht⟩) hS.2.2 dL_bad_16

set_option maxRecDepth 100000 in
set_option maxHeartbeats 4000000 in
theorem w_isTrusted (l : Launch) (hst : l.stackTraces = false) (D : va_G) (cA : Nat → ClassId) (sz : Nat) (S : Pool) (x qo : Nat) (fo : Nat → Int64) (n na : Nat) (hh cc : Int32) (ar ak : Nat) (h : INVC n na hh cc S x ar ak) (p0 : Int32) : Met l yL_isTrusted (Cond.codeWith yL_isTrusted cL_isTrusted 4 (some .int) [(0, 16, 19, 21)] :: TT) ({ frames := 8, cells := 1, slots := 6, locals := 125 }) (va_Pc [.ref x, .int p0, .ref qo] (kPreX D cA (PW cA S ++ [oJ cA qo fo]) sz)) (va_Qi (fun (r_ : Int32) (x_ : Pool × (Nat → Int64)) => INVC n na hh cc x_.1 x ar ak ∧ QC S x_.1) (fun x_ => kB D cA (va_A (PW cA S ++ [oJ cA qo fo]) sz) (PW cA x_.1 ++ [oJ cA qo x_.2])) (va_A (PW cA S ++ [oJ cA qo fo]) sz)) 1 6 (va_A (PW cA S ++ [oJ cA qo fo]) sz) := by
  refine kt_ofWH (cc := cL_isTrusted) (maxL := 4) (ret := (some .int)) (by decide) rfl ?_
  intro p e s m args below meth c s₁ B hml hTab hv
  obtain ⟨rfl, ⟨hsz, hP, hK, hD0, hTB⟩, hTX⟩ := hv
  have hx := B.exec
  have hb := B.bytes
  have hr := B.returns
  have hts := atoms_spec (ws := Cond.codeWith yL_isTrusted cL_isTrusted 4 (some .int) [(0, 16, 19, 21)] :: TT) B.pre
  have htT : ∀ w ∈ TT, w.before _ s = true := fun w h => hts w (List.mem_cons_of_mem _ h)
  have hown : s.vm.findClass RL = some m.cls := findClass_of_methodNamed B.named
  have hlocks := B.notSynchronized
  subst hsz
  have hD := hD0.self (sz := s.heap.size)
  generalize hAe : va_A (PW cA S ++ [oJ cA qo fo]) s.heap.size = A at hD hTX ⊢
  have hA : ∀ q : Nat, s.heap.size ≤ q → A q := fun q h => by rw [← hAe]; exact Or.inr h
  have hS : va_S A s.heap s.heap [] := va_S.rf
  have hl := lv_entry ([.ref x, .int p0, .ref qo]) (n := 4) (Nat.le_of_ble_eq_true rfl)
  rw [lg_entry_eq]
  generalize (lg_sl ([.ref x, .int p0, .ref qo]) ++ List.replicate (4 - (lg_sl ([.ref x, .int p0, .ref qo])).length) Slot.unset).toArray = ls at hl ⊢
  have hl : lv_has ls 4 [(0, .ref x), (1, .int p0), (2, .ref qo)] := hl
  refine lv_aload_n hx hb dL_isTrusted_0 rfl (lv_at hl 2 rfl) ?_
  refine lv_iconst (v := 0) hx hb dL_isTrusted_1 (by decide) ?_
  refine lv_aload_n hx hb dL_isTrusted_2 rfl (lv_at hl 0 rfl) ?_
  refine lv_iload_n hx hb dL_isTrusted_3 rfl (lv_at hl 1 rfl) ?_
  rcases h.at p0 with ⟨hsw, -⟩ | ⟨j, a, hjn, rfl, hja, hsw⟩
  · refine kj_t (List.Perm.refl _) (vx_runV (As := [.int p0]) (rest := [.int 0, .ref qo]) ⟨hx, hb, hml, hown, htT⟩ (c_isTrusted_t l hst D cA _ S x h.hx ar h.q0 h.R.1 p0 hsw) (cwV 1 htT (kg_V m_ml_L_98 m_im_X5_isTrusted m_sl_X5_isTrusted m_in_X5 m_cd_X5_isTrusted) rfl rfl rfl (by decide +kernel) ⟨Nat.le_of_ble_eq_true rfl, Nat.le_of_ble_eq_true rfl⟩) (kj_VX (List.Perm.refl _) hK hP hD hTB hTX hS hA (kj_rc (List.Perm.refl _) hK hP h.hx (Nat.le_of_ble_eq_true rfl) rfl)) rfl rfl hl.1 rfl (lv_room (Nat.le_of_ble_eq_true rfl)) dL_isTrusted_4 ⟨Nat.le_of_ble_eq_true rfl, Nat.le_of_ble_eq_true rfl⟩) hP hD hS hA (fun ce q9 H locs hP hD hS hce hcv hcl => ?_)
    refine vx_catch hown [] ⟨0, 16, 19, 21⟩ [] (hTab.trans rfl) (fun z hz => nomatch hz) rfl (by decide) (htT _ m_cl_L_21) (hTB.use (n_ca _ (by decide))) hce hcv hcl ?_
    refine lv_astore_n (lv' := [(3, .ref q9), (0, .ref x), (1, .int p0), (2, .ref qo)]) hx hb dL_isTrusted_19 rfl hl (by decide) rfl (fun ls hl => ?_)
    refine lv_iconst (v := 1) hx hb dL_isTrusted_20 (by decide) ?_
    exact W.iret (v := 1) hx hb hr (fun t ht hW => ⟨⟨1, (S, fo), rfl, ⟨h, QC.rf⟩, by rw [ht]; exact hP, va_K.moved hW.alike hK, hD⟩, hS.F ht⟩) hS.2.2 dL_isTrusted_21
  · have hj : j < 8 := by have := h.n8; omega
    refine kj_i (List.Perm.refl _) (va_runV (As := [.int (nI j)]) (rest := [.int 0, .ref qo]) ⟨hx, hb, hml, hown, htT⟩ (c_isTrusted l D cA _ S x h.hx ar h.q0 ak h.q1 h.kk h.R j hj a hja (nI j) hsw ) (cwV 1 htT (kg_V m_ml_L_98 m_im_X5_isTrusted m_sl_X5_isTrusted m_in_X5 m_cd_X5_isTrusted) rfl rfl rfl (by decide +kernel) ⟨Nat.le_of_ble_eq_true rfl, Nat.le_of_ble_eq_true rfl⟩) (kj_V (List.Perm.refl _) hK hP hD hTB (kj_rc (List.Perm.refl _) hK hP h.hx (Nat.le_of_ble_eq_true rfl) rfl)) rfl rfl hl.1 rfl (lv_room (Nat.le_of_ble_eq_true rfl)) dL_isTrusted_4 ⟨Nat.le_of_ble_eq_true rfl, Nat.le_of_ble_eq_true rfl⟩) hP hD hS hA (fun r_1 x_1 H locs hq_1 hP hD hS => ?_)
    refine lv_if_eq (tgt := 14) hx hb dL_isTrusted_7 (by decide) (fun c_2 => ?_) (fun c_2 => ?_)
    · refine lv_lconst (v := 0) hx hb dL_isTrusted_14 (by decide) ?_
      refine kw_last hx hb hK hP hD hS dL_isTrusted_15 (fun H locs hP hD hS => ?_)
      refine lv_goto (tgt := 22) hx hb dL_isTrusted_16 (by decide) ?_
      refine lv_iconst (v := 0) hx hb dL_isTrusted_22 (by decide) ?_
      refine W.widen (k := 1) (n := 6) (Nat.le_of_ble_eq_true rfl) (Nat.le_of_ble_eq_true rfl) ?_
      exact W.iret (v := 0) hx hb hr (fun t ht hW => ⟨⟨0, (x_1, vp_updL fo 0 0), rfl, ⟨by rw [hq_1.2]; exact h, by rw [hq_1.2]; exact QC.rf⟩, by rw [ht]; exact hP, va_K.moved hW.alike hK, hD⟩, hS.F ht⟩) hS.2.2 dL_isTrusted_23
    · refine lv_lconst (v := 1) hx hb dL_isTrusted_10 (by decide) ?_
      refine lv_goto (tgt := 15) hx hb dL_isTrusted_11 (by decide) ?_
      refine kw_last hx hb hK hP hD hS dL_isTrusted_15 (fun H locs hP hD hS => ?_)
      refine lv_goto (tgt := 22) hx hb dL_isTrusted_16 (by decide) ?_
      refine lv_iconst (v := 0) hx hb dL_isTrusted_22 (by decide) ?_
      refine W.widen (k := 1) (n := 6) (Nat.le_of_ble_eq_true rfl) (Nat.le_of_ble_eq_true rfl) ?_
      exact W.iret (v := 0) hx hb hr (fun t ht hW => ⟨⟨0, (x_1, vp_updL fo 0 1), rfl, ⟨by rw [hq_1.2]; exact h, by rw [hq_1.2]; exact QC.rf⟩, by rw [ht]; exact hP, va_K.moved hW.alike hK, hD⟩, hS.F ht⟩) hS.2.2 dL_isTrusted_23

set_option maxRecDepth 100000 in
set_option maxHeartbeats 4000000 in
theorem w_best (l : Launch) (hst : l.stackTraces = false) (D : va_G) (cA : Nat → ClassId) (sz : Nat) (S : Pool) (x qo : Nat) (fo : Nat → Int64) (n na : Nat) (hh cc : Int32) (ar ak : Nat) (h : INVC n na hh cc S x ar ak) (p0 : Int32) : MetD lw_cs l yL_best (Cond.codeWith yL_best cL_best 4 (some .int) [(0, 9, 12, 21)] :: TT) ({ frames := 8, cells := 1, slots := 6, locals := 125 }) (va_Pc [.ref x, .int p0, .ref qo] (kPreX D cA (PW cA S ++ [oJ cA qo fo]) sz)) (va_Qi (fun (r_ : Int32) (x_ : Pool × (Nat → Int64)) => INVC n na hh cc x_.1 x ar ak ∧ QC S x_.1) (fun x_ => kB D cA (va_A (PW cA S ++ [oJ cA qo fo]) sz) (PW cA x_.1 ++ [oJ cA qo x_.2])) (va_A (PW cA S ++ [oJ cA qo fo]) sz)) 1 6 (va_A (PW cA S ++ [oJ cA qo fo]) sz) := by
  refine kd_ofWH (cc := cL_best) (maxL := 4) (ret := (some .int)) (by decide) rfl ?_
  intro p e s m args below meth c s₁ B hml hTab hv hd0
  obtain ⟨rfl, ⟨hsz, hP, hK, hD0, hTB⟩, hTX⟩ := hv
  have hx := B.exec
  have hb := B.bytes
  have hr := B.returns
  have hts := atoms_spec (ws := Cond.codeWith yL_best cL_best 4 (some .int) [(0, 9, 12, 21)] :: TT) B.pre
  have htT : ∀ w ∈ TT, w.before _ s = true := fun w h => hts w (List.mem_cons_of_mem _ h)
  have hown : s.vm.findClass RL = some m.cls := findClass_of_methodNamed B.named
  have hlocks := B.notSynchronized
  subst hsz
  have hD := hD0.self (sz := s.heap.size)
  generalize hAe : va_A (PW cA S ++ [oJ cA qo fo]) s.heap.size = A at hD hTX ⊢
  have hA : ∀ q : Nat, s.heap.size ≤ q → A q := fun q h => by rw [← hAe]; exact Or.inr h
  have hS : va_S A s.heap s.heap [] := va_S.rf
  have hl := lv_entry ([.ref x, .int p0, .ref qo]) (n := 4) (Nat.le_of_ble_eq_true rfl)
  rw [lg_entry_eq]
  generalize (lg_sl ([.ref x, .int p0, .ref qo]) ++ List.replicate (4 - (lg_sl ([.ref x, .int p0, .ref qo])).length) Slot.unset).toArray = ls at hl ⊢
  have hl : lv_has ls 4 [(0, .ref x), (1, .int p0), (2, .ref qo)] := hl
  have htT0 := htT
  have hTB0 := hTB
  have hK0 := hK
  have hown0 := hown
  have hTX0 := hTX
  have htT : ∀ w ∈ TT, w.before _ (s.setDrawn s.drawn) = true := dr_words htT0 s.drawn
  have hTB : TBok (s.setDrawn s.drawn) := TBok.same (u := s) (U := s.setDrawn s.drawn) rfl (Vm.Alike.refl s.vm) hTB0
  have hK : va_K D vwCl (ty6 cA) (s.setDrawn s.drawn) := hK0
  have hown : (s.setDrawn s.drawn).vm.findClass RL = some m.cls := hown0
  have hTX : TXok A (s.setDrawn s.drawn) := hTX0.dr s.drawn
  refine lv_aload_n hx hb dL_best_0 rfl (lv_at hl 2 rfl) ?_
  refine lv_iconst (v := 0) hx hb dL_best_1 (by decide) ?_
  refine lv_aload_n hx hb dL_best_2 rfl (lv_at hl 0 rfl) ?_
  refine lv_iload_n hx hb dL_best_3 rfl (lv_at hl 1 rfl) ?_
  rcases h.at p0 with ⟨hsw, -⟩ | ⟨j, a, hjn, rfl, hja, hsw⟩
  · refine kj_t (List.Perm.refl _) (vx_runV (As := [.int p0]) (rest := [.int 0, .ref qo]) ⟨hx, hb, hml, hown, htT⟩ (c_best_t l hst D cA _ S x h.hx ar h.q0 h.R.1 p0 hsw) (cwV 1 htT (kg_V m_ml_L_102 m_im_X5_best m_sl_X5_best m_in_X5 m_cd_X5_best) rfl rfl rfl (by decide +kernel) ⟨Nat.le_of_ble_eq_true rfl, Nat.le_of_ble_eq_true rfl⟩) (kj_VX (List.Perm.refl _) hK hP hD hTB hTX hS hA (kj_rc (List.Perm.refl _) hK hP h.hx (Nat.le_of_ble_eq_true rfl) rfl)) rfl rfl hl.1 rfl (lv_room (Nat.le_of_ble_eq_true rfl)) dL_best_4 ⟨Nat.le_of_ble_eq_true rfl, Nat.le_of_ble_eq_true rfl⟩) hP hD hS hA (fun ce q9 H locs hP hD hS hce hcv hcl => ?_)
    refine vx_catch hown [] ⟨0, 9, 12, 21⟩ [] (hTab.trans rfl) (fun z hz => nomatch hz) rfl (by decide) (htT _ m_cl_L_21) (hTB.use (n_ca _ (by decide))) hce hcv hcl ?_
    refine lv_astore_n (lv' := [(3, .ref q9), (0, .ref x), (1, .int p0), (2, .ref qo)]) hx hb dL_best_12 rfl hl (by decide) rfl (fun ls hl => ?_)
    refine lv_iconst (v := 1) hx hb dL_best_13 (by decide) ?_
    refine W.endD hd0 ?_
    exact W.iret (v := 1) hx hb hr (fun t ht hW => ⟨⟨1, (S, fo), rfl, ⟨h, QC.rf⟩, by rw [ht]; exact hP, va_K.moved hW.alike hK, hD⟩, hS.F ht⟩) hS.2.2 dL_best_14
  · have hj : j < 8 := by have := h.n8; omega
    refine kjD_i hd0 (List.Perm.refl _) (va_runV_D (As := [.int (nI j)]) (rest := [.int 0, .ref qo]) ⟨hx, hb, hml, hown, htT⟩ (c_best l D cA _ S x h.hx ar h.q0 ak h.q1 h.kk h.R j hj a hja (nI j) hsw ) (cwV 1 htT (kg_V m_ml_L_102 m_im_X5_best m_sl_X5_best m_in_X5 m_cd_X5_best) rfl rfl rfl (by decide +kernel) ⟨Nat.le_of_ble_eq_true rfl, Nat.le_of_ble_eq_true rfl⟩) (kj_V (List.Perm.refl _) hK hP hD hTB (kj_rc (List.Perm.refl _) hK hP h.hx (Nat.le_of_ble_eq_true rfl) rfl)) rfl rfl hl.1 rfl (lv_room (Nat.le_of_ble_eq_true rfl)) dL_best_4 ⟨Nat.le_of_ble_eq_true rfl, Nat.le_of_ble_eq_true rfl⟩) hP hD hS hA (fun r_1 x_1 H locs hq_1 hP hD hS d_1 hd0 => ?_)
    have htT : ∀ w ∈ TT, w.before _ (s.setDrawn d_1) = true := dr_words htT0 d_1
    have hTB : TBok (s.setDrawn d_1) := TBok.same (u := s) (U := s.setDrawn d_1) rfl (Vm.Alike.refl s.vm) hTB0
    have hK : va_K D vwCl (ty6 cA) (s.setDrawn d_1) := hK0
    have hown : (s.setDrawn d_1).vm.findClass RL = some m.cls := hown0
    have hTX : TXok A (s.setDrawn d_1) := hTX0.dr d_1
    refine lv_i2l (v := r_1.toInt64) hx hb dL_best_7 rfl ?_
    refine kw_last hx hb hK hP hD hS dL_best_8 (fun H locs hP hD hS => ?_)
    refine lv_goto (tgt := 15) hx hb dL_best_9 (by decide) ?_
    refine lv_iconst (v := 0) hx hb dL_best_15 (by decide) ?_
    refine W.widen (k := 1) (n := 6) (Nat.le_of_ble_eq_true rfl) (Nat.le_of_ble_eq_true rfl) ?_
    refine W.endD hd0 ?_
    exact W.iret (v := 0) hx hb hr (fun t ht hW => ⟨⟨0, (x_1, vp_updL fo 0 r_1.toInt64), rfl, ⟨by rw [hq_1.2]; exact h, by rw [hq_1.2]; exact QC.rf⟩, by rw [ht]; exact hP, va_K.moved hW.alike hK, hD⟩, hS.F ht⟩) hS.2.2 dL_best_16

set_option maxRecDepth 100000 in
set_option maxHeartbeats 4000000 in
theorem w_act (l : Launch) (hst : l.stackTraces = false) (D : va_G) (cA : Nat → ClassId) (sz : Nat) (S : Pool) (x qo : Nat) (fo : Nat → Int64) (n na : Nat) (hh cc : Int32) (ar ak : Nat) (h : INVC n na hh cc S x ar ak) (p0 p1 : Int32) : Met l yL_act (Cond.codeWith yL_act cL_act 5 (some .int) [(0, 10, 13, 13)] :: TT) ({ frames := 7, cells := 1, slots := 6, locals := 109 }) (va_Pc [.ref x, .int p0, .int p1, .ref qo] (kPreX D cA (PW cA S ++ [oJ cA qo fo]) sz)) (va_Qi (fun (r_ : Int32) (x_ : Pool × (Nat → Int64)) => INVC n na hh cc x_.1 x ar ak ∧ QC S x_.1) (fun x_ => kB D cA (va_A (PW cA S ++ [oJ cA qo fo]) sz) (PW cA x_.1 ++ [oJ cA qo x_.2])) (va_A (PW cA S ++ [oJ cA qo fo]) sz)) 1 6 (va_A (PW cA S ++ [oJ cA qo fo]) sz) := by
  refine kt_ofWH (cc := cL_act) (maxL := 5) (ret := (some .int)) (by decide) rfl ?_
  intro p e s m args below meth c s₁ B hml hTab hv
  obtain ⟨rfl, ⟨hsz, hP, hK, hD0, hTB⟩, hTX⟩ := hv
  have hx := B.exec
  have hb := B.bytes
  have hr := B.returns
  have hts := atoms_spec (ws := Cond.codeWith yL_act cL_act 5 (some .int) [(0, 10, 13, 13)] :: TT) B.pre
  have htT : ∀ w ∈ TT, w.before _ s = true := fun w h => hts w (List.mem_cons_of_mem _ h)
  have hown : s.vm.findClass RL = some m.cls := findClass_of_methodNamed B.named
  have hlocks := B.notSynchronized
  subst hsz
  have hD := hD0.self (sz := s.heap.size)
  generalize hAe : va_A (PW cA S ++ [oJ cA qo fo]) s.heap.size = A at hD hTX ⊢
  have hA : ∀ q : Nat, s.heap.size ≤ q → A q := fun q h => by rw [← hAe]; exact Or.inr h
  have hS : va_S A s.heap s.heap [] := va_S.rf
  have hl := lv_entry ([.ref x, .int p0, .int p1, .ref qo]) (n := 5) (Nat.le_of_ble_eq_true rfl)
  rw [lg_entry_eq]
  generalize (lg_sl ([.ref x, .int p0, .int p1, .ref qo]) ++ List.replicate (5 - (lg_sl ([.ref x, .int p0, .int p1, .ref qo])).length) Slot.unset).toArray = ls at hl ⊢
  have hl : lv_has ls 5 [(0, .ref x), (1, .int p0), (2, .int p1), (3, .ref qo)] := hl
  refine lv_aload_n hx hb dL_act_0 rfl (lv_at hl 3 rfl) ?_
  refine lv_iconst (v := 0) hx hb dL_act_1 (by decide) ?_
  refine lv_aload_n hx hb dL_act_2 rfl (lv_at hl 0 rfl) ?_
  refine lv_iload_n hx hb dL_act_3 rfl (lv_at hl 1 rfl) ?_
  refine lv_iload_n hx hb dL_act_4 rfl (lv_at hl 2 rfl) ?_
  rcases kOut_01 p0 0 9999 with h1 | h1
  · rcases kOut_01 p1 0 100 with h2 | h2
    · refine kj_i (List.Perm.refl _) (va_runV (As := [.int p0, .int p1]) (rest := [.int 0, .ref qo]) ⟨hx, hb, hml, hown, htT⟩ (c_act l D cA _ S x h.hx ar h.q0 h.R p0 p1 h1 h2) (cwV 2 htT (kg_V m_ml_L_76 m_im_X5_act m_sl_X5_act m_in_X5 m_cd_X5_act) rfl rfl rfl (by decide +kernel) ⟨Nat.le_of_ble_eq_true rfl, Nat.le_of_ble_eq_true rfl⟩) (kj_V (List.Perm.refl _) hK hP hD hTB (kj_rc (List.Perm.refl _) hK hP h.hx (Nat.le_of_ble_eq_true rfl) rfl)) rfl rfl hl.1 rfl (lv_room (Nat.le_of_ble_eq_true rfl)) dL_act_5 ⟨Nat.le_of_ble_eq_true rfl, Nat.le_of_ble_eq_true rfl⟩) hP hD hS hA (fun r_1 x_1 H locs hq_1 hP hD hS => ?_)
      refine lv_i2l (v := r_1.toInt64) hx hb dL_act_8 rfl ?_
      refine kw_last hx hb hK hP hD hS dL_act_9 (fun H locs hP hD hS => ?_)
      refine lv_goto (tgt := 17) hx hb dL_act_10 (by decide) ?_
      refine lv_iconst (v := 0) hx hb dL_act_17 (by decide) ?_
      refine W.widen (k := 1) (n := 6) (Nat.le_of_ble_eq_true rfl) (Nat.le_of_ble_eq_true rfl) ?_
      exact W.iret (v := 0) hx hb hr (fun t ht hW => ⟨⟨0, (x_1, vp_updL fo 0 r_1.toInt64), rfl, ⟨h.eT hq_1.2, hq_1.2.qc⟩, by rw [ht]; exact hP, va_K.moved hW.alike hK, hD⟩, hS.F ht⟩) hS.2.2 dL_act_18
    · refine kj_t (List.Perm.refl _) (vx_runV (As := [.int p0, .int p1]) (rest := [.int 0, .ref qo]) ⟨hx, hb, hml, hown, htT⟩ (c_act_t2 l hst D cA _ S x h.hx p0 p1 h1 h2) (cwV 2 htT (kg_V m_ml_L_76 m_im_X5_act m_sl_X5_act m_in_X5 m_cd_X5_act) rfl rfl rfl (by decide +kernel) ⟨Nat.le_of_ble_eq_true rfl, Nat.le_of_ble_eq_true rfl⟩) (kj_VX (List.Perm.refl _) hK hP hD hTB hTX hS hA (kj_rc (List.Perm.refl _) hK hP h.hx (Nat.le_of_ble_eq_true rfl) rfl)) rfl rfl hl.1 rfl (lv_room (Nat.le_of_ble_eq_true rfl)) dL_act_5 ⟨Nat.le_of_ble_eq_true rfl, Nat.le_of_ble_eq_true rfl⟩) hP hD hS hA (fun ce q9 H locs hP hD hS hce hcv hcl => ?_)
      refine vx_catch hown [] ⟨0, 10, 13, 13⟩ [] (hTab.trans rfl) (fun z hz => nomatch hz) rfl (by decide) (htT _ m_cl_L_13) (hTB.use (n_ca _ (by decide))) hce hcv hcl ?_
      refine lv_astore (lv' := [(4, .ref q9), (0, .ref x), (1, .int p0), (2, .int p1), (3, .ref qo)]) hx hb dL_act_13 hl (by decide) rfl (fun ls hl => ?_)
      refine lv_iconst (v := 1) hx hb dL_act_15 (by decide) ?_
      exact W.iret (v := 1) hx hb hr (fun t ht hW => ⟨⟨1, (S, fo), rfl, ⟨h, QC.rf⟩, by rw [ht]; exact hP, va_K.moved hW.alike hK, hD⟩, hS.F ht⟩) hS.2.2 dL_act_16
  · refine kj_t (List.Perm.refl _) (vx_runV (As := [.int p0, .int p1]) (rest := [.int 0, .ref qo]) ⟨hx, hb, hml, hown, htT⟩ (c_act_t1 l hst D cA _ S x h.hx p0 p1 h1) (cwV 2 htT (kg_V m_ml_L_76 m_im_X5_act m_sl_X5_act m_in_X5 m_cd_X5_act) rfl rfl rfl (by decide +kernel) ⟨Nat.le_of_ble_eq_true rfl, Nat.le_of_ble_eq_true rfl⟩) (kj_VX (List.Perm.refl _) hK hP hD hTB hTX hS hA (kj_rc (List.Perm.refl _) hK hP h.hx (Nat.le_of_ble_eq_true rfl) rfl)) rfl rfl hl.1 rfl (lv_room (Nat.le_of_ble_eq_true rfl)) dL_act_5 ⟨Nat.le_of_ble_eq_true rfl, Nat.le_of_ble_eq_true rfl⟩) hP hD hS hA (fun ce q9 H locs hP hD hS hce hcv hcl => ?_)
    refine vx_catch hown [] ⟨0, 10, 13, 13⟩ [] (hTab.trans rfl) (fun z hz => nomatch hz) rfl (by decide) (htT _ m_cl_L_13) (hTB.use (n_ca _ (by decide))) hce hcv hcl ?_
    refine lv_astore (lv' := [(4, .ref q9), (0, .ref x), (1, .int p0), (2, .int p1), (3, .ref qo)]) hx hb dL_act_13 hl (by decide) rfl (fun ls hl => ?_)
    refine lv_iconst (v := 1) hx hb dL_act_15 (by decide) ?_
    exact W.iret (v := 1) hx hb hr (fun t ht hW => ⟨⟨1, (S, fo), rfl, ⟨h, QC.rf⟩, by rw [ht]; exact hP, va_K.moved hW.alike hK, hD⟩, hS.F ht⟩) hS.2.2 dL_act_16

set_option maxRecDepth 100000 in
set_option maxHeartbeats 4000000 in
theorem w_hold (l : Launch) (hst : l.stackTraces = false) (D : va_G) (cA : Nat → ClassId) (sz : Nat) (S : Pool) (x qo : Nat) (fo : Nat → Int64) (n na : Nat) (hh cc : Int32) (ar ak : Nat) (h : INVC n na hh cc S x ar ak) (p0 : Int32) : Met l yL_hold (Cond.codeWith yL_hold cL_hold 4 (some .int) [(0, 9, 12, 13)] :: TT) ({ frames := 7, cells := 1, slots := 6, locals := 104 }) (va_Pc [.ref x, .int p0, .ref qo] (kPreX D cA (PW cA S ++ [oJ cA qo fo]) sz)) (va_Qi (fun (r_ : Int32) (x_ : Pool × (Nat → Int64)) => INVC n na (if kOut p0 0 1000 = 0 then p0 else hh) cc x_.1 x ar ak ∧ QC S x_.1) (fun x_ => kB D cA (va_A (PW cA S ++ [oJ cA qo fo]) sz) (PW cA x_.1 ++ [oJ cA qo x_.2])) (va_A (PW cA S ++ [oJ cA qo fo]) sz)) 1 6 (va_A (PW cA S ++ [oJ cA qo fo]) sz) := by
  refine kt_ofWH (cc := cL_hold) (maxL := 4) (ret := (some .int)) (by decide) rfl ?_
  intro p e s m args below meth c s₁ B hml hTab hv
  obtain ⟨rfl, ⟨hsz, hP, hK, hD0, hTB⟩, hTX⟩ := hv
  have hx := B.exec
  have hb := B.bytes
  have hr := B.returns
  have hts := atoms_spec (ws := Cond.codeWith yL_hold cL_hold 4 (some .int) [(0, 9, 12, 13)] :: TT) B.pre
  have htT : ∀ w ∈ TT, w.before _ s = true := fun w h => hts w (List.mem_cons_of_mem _ h)
  have hown : s.vm.findClass RL = some m.cls := findClass_of_methodNamed B.named
  have hlocks := B.notSynchronized
  subst hsz
  have hD := hD0.self (sz := s.heap.size)
  generalize hAe : va_A (PW cA S ++ [oJ cA qo fo]) s.heap.size = A at hD hTX ⊢
  have hA : ∀ q : Nat, s.heap.size ≤ q → A q := fun q h => by rw [← hAe]; exact Or.inr h
  have hS : va_S A s.heap s.heap [] := va_S.rf
  have hl := lv_entry ([.ref x, .int p0, .ref qo]) (n := 4) (Nat.le_of_ble_eq_true rfl)
  rw [lg_entry_eq]
  generalize (lg_sl ([.ref x, .int p0, .ref qo]) ++ List.replicate (4 - (lg_sl ([.ref x, .int p0, .ref qo])).length) Slot.unset).toArray = ls at hl ⊢
  have hl : lv_has ls 4 [(0, .ref x), (1, .int p0), (2, .ref qo)] := hl
  refine lv_aload_n hx hb dL_hold_0 rfl (lv_at hl 2 rfl) ?_
  refine lv_iconst (v := 0) hx hb dL_hold_1 (by decide) ?_
  refine lv_aload_n hx hb dL_hold_2 rfl (lv_at hl 0 rfl) ?_
  refine lv_iload_n hx hb dL_hold_3 rfl (lv_at hl 1 rfl) ?_
  rcases kOut_01 p0 0 1000 with h1 | h1
  · refine kj_i (List.Perm.refl _) (va_runV (As := [.int p0]) (rest := [.int 0, .ref qo]) ⟨hx, hb, hml, hown, htT⟩ (c_hold l D cA _ S x h.hx p0 h1) (cwV 1 htT (kg_V m_ml_L_45 m_im_X5_hold m_sl_X5_hold m_in_X5 m_cd_X5_hold) rfl rfl rfl (by decide +kernel) ⟨Nat.le_of_ble_eq_true rfl, Nat.le_of_ble_eq_true rfl⟩) (kj_V (List.Perm.refl _) hK hP hD hTB (kj_rc (List.Perm.refl _) hK hP h.hx (Nat.le_of_ble_eq_true rfl) rfl)) rfl rfl hl.1 rfl (lv_room (Nat.le_of_ble_eq_true rfl)) dL_hold_4 ⟨Nat.le_of_ble_eq_true rfl, Nat.le_of_ble_eq_true rfl⟩) hP hD hS hA (fun r_1 x_1 H locs hq_1 hP hD hS => ?_)
    refine lv_i2l (v := r_1.toInt64) hx hb dL_hold_7 rfl ?_
    refine kw_last hx hb hK hP hD hS dL_hold_8 (fun H locs hP hD hS => ?_)
    refine lv_goto (tgt := 15) hx hb dL_hold_9 (by decide) ?_
    refine lv_iconst (v := 0) hx hb dL_hold_15 (by decide) ?_
    refine W.widen (k := 1) (n := 6) (Nat.le_of_ble_eq_true rfl) (Nat.le_of_ble_eq_true rfl) ?_
    exact W.iret (v := 0) hx hb hr (fun t ht hW => ⟨⟨0, (x_1, vp_updL fo 0 r_1.toInt64), rfl, (by rw [h1]; exact ⟨by rw [hq_1.2]; exact h.hold, by rw [hq_1.2]; exact QC.num h.hx⟩), by rw [ht]; exact hP, va_K.moved hW.alike hK, hD⟩, hS.F ht⟩) hS.2.2 dL_hold_16
  · refine kj_t (List.Perm.refl _) (vx_runV (As := [.int p0]) (rest := [.int 0, .ref qo]) ⟨hx, hb, hml, hown, htT⟩ (c_hold_t l hst D cA _ S x h.hx p0 h1) (cwV 1 htT (kg_V m_ml_L_45 m_im_X5_hold m_sl_X5_hold m_in_X5 m_cd_X5_hold) rfl rfl rfl (by decide +kernel) ⟨Nat.le_of_ble_eq_true rfl, Nat.le_of_ble_eq_true rfl⟩) (kj_VX (List.Perm.refl _) hK hP hD hTB hTX hS hA (kj_rc (List.Perm.refl _) hK hP h.hx (Nat.le_of_ble_eq_true rfl) rfl)) rfl rfl hl.1 rfl (lv_room (Nat.le_of_ble_eq_true rfl)) dL_hold_4 ⟨Nat.le_of_ble_eq_true rfl, Nat.le_of_ble_eq_true rfl⟩) hP hD hS hA (fun ce q9 H locs hP hD hS hce hcv hcl => ?_)
    refine vx_catch hown [] ⟨0, 9, 12, 13⟩ [] (hTab.trans rfl) (fun z hz => nomatch hz) rfl (by decide) (htT _ m_cl_L_13) (hTB.use (n_ca _ (by decide))) hce hcv hcl ?_
    refine lv_astore_n (lv' := [(3, .ref q9), (0, .ref x), (1, .int p0), (2, .ref qo)]) hx hb dL_hold_12 rfl hl (by decide) rfl (fun ls hl => ?_)
    refine lv_iconst (v := 1) hx hb dL_hold_13 (by decide) ?_
    exact W.iret (v := 1) hx hb hr (fun t ht hW => ⟨⟨1, (S, fo), rfl, (by rw [h1]; exact ⟨h, QC.rf⟩), by rw [ht]; exact hP, va_K.moved hW.alike hK, hD⟩, hS.F ht⟩) hS.2.2 dL_hold_14

set_option maxRecDepth 100000 in
set_option maxHeartbeats 4000000 in
theorem w_goOn (l : Launch) (hst : l.stackTraces = false) (D : va_G) (cA : Nat → ClassId) (sz : Nat) (S : Pool) (x qo : Nat) (fo : Nat → Int64) (n na : Nat) (hh cc : Int32) (ar ak : Nat) (h : INVC n na hh cc S x ar ak) (p0 : Int32) : Met l yL_goOn (Cond.codeWith yL_goOn cL_goOn 4 (some .int) [(0, 9, 12, 13)] :: TT) ({ frames := 7, cells := 1, slots := 6, locals := 103 }) (va_Pc [.ref x, .int p0, .ref qo] (kPreX D cA (PW cA S ++ [oJ cA qo fo]) sz)) (va_Qi (fun (r_ : Int32) (x_ : Pool × (Nat → Int64)) => INVC n na hh (if kOut p0 1 100 = 0 then cc + p0 else cc) x_.1 x ar ak ∧ QC S x_.1) (fun x_ => kB D cA (va_A (PW cA S ++ [oJ cA qo fo]) sz) (PW cA x_.1 ++ [oJ cA qo x_.2])) (va_A (PW cA S ++ [oJ cA qo fo]) sz)) 1 6 (va_A (PW cA S ++ [oJ cA qo fo]) sz) := by
  refine kt_ofWH (cc := cL_goOn) (maxL := 4) (ret := (some .int)) (by decide) rfl ?_
  intro p e s m args below meth c s₁ B hml hTab hv
  obtain ⟨rfl, ⟨hsz, hP, hK, hD0, hTB⟩, hTX⟩ := hv
  have hx := B.exec
  have hb := B.bytes
  have hr := B.returns
  have hts := atoms_spec (ws := Cond.codeWith yL_goOn cL_goOn 4 (some .int) [(0, 9, 12, 13)] :: TT) B.pre
  have htT : ∀ w ∈ TT, w.before _ s = true := fun w h => hts w (List.mem_cons_of_mem _ h)
  have hown : s.vm.findClass RL = some m.cls := findClass_of_methodNamed B.named
  have hlocks := B.notSynchronized
  subst hsz
  have hD := hD0.self (sz := s.heap.size)
  generalize hAe : va_A (PW cA S ++ [oJ cA qo fo]) s.heap.size = A at hD hTX ⊢
  have hA : ∀ q : Nat, s.heap.size ≤ q → A q := fun q h => by rw [← hAe]; exact Or.inr h
  have hS : va_S A s.heap s.heap [] := va_S.rf
  have hl := lv_entry ([.ref x, .int p0, .ref qo]) (n := 4) (Nat.le_of_ble_eq_true rfl)
  rw [lg_entry_eq]
  generalize (lg_sl ([.ref x, .int p0, .ref qo]) ++ List.replicate (4 - (lg_sl ([.ref x, .int p0, .ref qo])).length) Slot.unset).toArray = ls at hl ⊢
  have hl : lv_has ls 4 [(0, .ref x), (1, .int p0), (2, .ref qo)] := hl
  refine lv_aload_n hx hb dL_goOn_0 rfl (lv_at hl 2 rfl) ?_
  refine lv_iconst (v := 0) hx hb dL_goOn_1 (by decide) ?_
  refine lv_aload_n hx hb dL_goOn_2 rfl (lv_at hl 0 rfl) ?_
  refine lv_iload_n hx hb dL_goOn_3 rfl (lv_at hl 1 rfl) ?_
  rcases kOut_01 p0 1 100 with h1 | h1
  · refine kj_i (List.Perm.refl _) (va_runV (As := [.int p0]) (rest := [.int 0, .ref qo]) ⟨hx, hb, hml, hown, htT⟩ (c_goOn l D cA _ S x h.hx p0 h1) (cwV 1 htT (kg_V m_ml_L_49 m_im_X5_goOn m_sl_X5_goOn m_in_X5 m_cd_X5_goOn) rfl rfl rfl (by decide +kernel) ⟨Nat.le_of_ble_eq_true rfl, Nat.le_of_ble_eq_true rfl⟩) (kj_V (List.Perm.refl _) hK hP hD hTB (kj_rc (List.Perm.refl _) hK hP h.hx (Nat.le_of_ble_eq_true rfl) rfl)) rfl rfl hl.1 rfl (lv_room (Nat.le_of_ble_eq_true rfl)) dL_goOn_4 ⟨Nat.le_of_ble_eq_true rfl, Nat.le_of_ble_eq_true rfl⟩) hP hD hS hA (fun r_1 x_1 H locs hq_1 hP hD hS => ?_)
    refine lv_i2l (v := r_1.toInt64) hx hb dL_goOn_7 rfl ?_
    refine kw_last hx hb hK hP hD hS dL_goOn_8 (fun H locs hP hD hS => ?_)
    refine lv_goto (tgt := 15) hx hb dL_goOn_9 (by decide) ?_
    refine lv_iconst (v := 0) hx hb dL_goOn_15 (by decide) ?_
    refine W.widen (k := 1) (n := 6) (Nat.le_of_ble_eq_true rfl) (Nat.le_of_ble_eq_true rfl) ?_
    exact W.iret (v := 0) hx hb hr (fun t ht hW => ⟨⟨0, (x_1, vp_updL fo 0 r_1.toInt64), rfl, (by rw [h1]; exact ⟨by rw [hq_1.2, h.x5]; exact h.clock, by rw [hq_1.2]; exact QC.num h.hx⟩), by rw [ht]; exact hP, va_K.moved hW.alike hK, hD⟩, hS.F ht⟩) hS.2.2 dL_goOn_16
  · refine kj_t (List.Perm.refl _) (vx_runV (As := [.int p0]) (rest := [.int 0, .ref qo]) ⟨hx, hb, hml, hown, htT⟩ (c_goOn_t l hst D cA _ S x h.hx p0 h1) (cwV 1 htT (kg_V m_ml_L_49 m_im_X5_goOn m_sl_X5_goOn m_in_X5 m_cd_X5_goOn) rfl rfl rfl (by decide +kernel) ⟨Nat.le_of_ble_eq_true rfl, Nat.le_of_ble_eq_true rfl⟩) (kj_VX (List.Perm.refl _) hK hP hD hTB hTX hS hA (kj_rc (List.Perm.refl _) hK hP h.hx (Nat.le_of_ble_eq_true rfl) rfl)) rfl rfl hl.1 rfl (lv_room (Nat.le_of_ble_eq_true rfl)) dL_goOn_4 ⟨Nat.le_of_ble_eq_true rfl, Nat.le_of_ble_eq_true rfl⟩) hP hD hS hA (fun ce q9 H locs hP hD hS hce hcv hcl => ?_)
    refine vx_catch hown [] ⟨0, 9, 12, 13⟩ [] (hTab.trans rfl) (fun z hz => nomatch hz) rfl (by decide) (htT _ m_cl_L_13) (hTB.use (n_ca _ (by decide))) hce hcv hcl ?_
    refine lv_astore_n (lv' := [(3, .ref q9), (0, .ref x), (1, .int p0), (2, .ref qo)]) hx hb dL_goOn_12 rfl hl (by decide) rfl (fun ls hl => ?_)
    refine lv_iconst (v := 1) hx hb dL_goOn_13 (by decide) ?_
    exact W.iret (v := 1) hx hb hr (fun t ht hW => ⟨⟨1, (S, fo), rfl, (by rw [h1]; exact ⟨h, QC.rf⟩), by rw [ht]; exact hP, va_K.moved hW.alike hK, hD⟩, hS.F ht⟩) hS.2.2 dL_goOn_14

set_option maxRecDepth 100000 in
set_option maxHeartbeats 4000000 in
theorem w_turn (l : Launch) (hst : l.stackTraces = false) (D : va_G) (cA : Nat → ClassId) (sz : Nat) (S : Pool) (x qo : Nat) (fo : Nat → Int64) (n na : Nat) (hh cc : Int32) (ar ak : Nat) (h : INVC n na hh cc S x ar ak) (p0 p1 : Int32) (hz : p1 = 0 ∨ p1 = 1) : Met l yL_turn (Cond.codeWith yL_turn cL_turn 5 (some .int) [(0, 17, 20, 21)] :: TT) ({ frames := 8, cells := 1, slots := 6, locals := 128 }) (va_Pc [.ref x, .int p0, .int p1, .ref qo] (kPreX D cA (PW cA S ++ [oJ cA qo fo]) sz)) (va_Qi (fun (r_ : Int32) (x_ : Pool × (Nat → Int64)) => (r_ = 1 ∧ kIn p0 0 (nI n - 1) = 0 ∧ x_.1 = S) ∨ (r_ = 0 ∧ ∃ j a, j < n ∧ p0 = nI j ∧ gP S ar j = some a ∧ x_.1 = pI S a 9 p1 ∧ ((gI S a 9 = 0 ∧ x_.2 = vp_updL fo 0 0) ∨ (¬ gI S a 9 = 0 ∧ x_.2 = vp_updL fo 0 1)))) (fun x_ => kB D cA (va_A (PW cA S ++ [oJ cA qo fo]) sz) (PW cA x_.1 ++ [oJ cA qo x_.2])) (va_A (PW cA S ++ [oJ cA qo fo]) sz)) 1 6 (va_A (PW cA S ++ [oJ cA qo fo]) sz) := by
  refine kt_ofWH (cc := cL_turn) (maxL := 5) (ret := (some .int)) (by decide) rfl ?_
  intro p e s m args below meth c s₁ B hml hTab hv
  obtain ⟨rfl, ⟨hsz, hP, hK, hD0, hTB⟩, hTX⟩ := hv
  have hx := B.exec
  have hb := B.bytes
  have hr := B.returns
  have hts := atoms_spec (ws := Cond.codeWith yL_turn cL_turn 5 (some .int) [(0, 17, 20, 21)] :: TT) B.pre
  have htT : ∀ w ∈ TT, w.before _ s = true := fun w h => hts w (List.mem_cons_of_mem _ h)
  have hown : s.vm.findClass RL = some m.cls := findClass_of_methodNamed B.named
  have hlocks := B.notSynchronized
  subst hsz
  have hD := hD0.self (sz := s.heap.size)
  generalize hAe : va_A (PW cA S ++ [oJ cA qo fo]) s.heap.size = A at hD hTX ⊢
  have hA : ∀ q : Nat, s.heap.size ≤ q → A q := fun q h => by rw [← hAe]; exact Or.inr h
  have hS : va_S A s.heap s.heap [] := va_S.rf
  have hl := lv_entry ([.ref x, .int p0, .int p1, .ref qo]) (n := 5) (Nat.le_of_ble_eq_true rfl)
  rw [lg_entry_eq]
  generalize (lg_sl ([.ref x, .int p0, .int p1, .ref qo]) ++ List.replicate (5 - (lg_sl ([.ref x, .int p0, .int p1, .ref qo])).length) Slot.unset).toArray = ls at hl ⊢
  have hl : lv_has ls 5 [(0, .ref x), (1, .int p0), (2, .int p1), (3, .ref qo)] := hl
  refine lv_aload_n hx hb dL_turn_0 rfl (lv_at hl 3 rfl) ?_
  refine lv_iconst (v := 0) hx hb dL_turn_1 (by decide) ?_
  refine lv_aload_n hx hb dL_turn_2 rfl (lv_at hl 0 rfl) ?_
  refine lv_iload_n hx hb dL_turn_3 rfl (lv_at hl 1 rfl) ?_
  refine lv_iload_n hx hb dL_turn_4 rfl (lv_at hl 2 rfl) ?_
  rcases h.at p0 with ⟨hsw, hk0⟩ | ⟨j, a, hjn, rfl, hja, hsw⟩
  · refine kj_t (List.Perm.refl _) (vx_runV (As := [.int p0, .int p1]) (rest := [.int 0, .ref qo]) ⟨hx, hb, hml, hown, htT⟩ (c_turn_t l hst D cA _ S x h.hx ar h.q0 h.R.1 p0 p1 hsw) (cwV 2 htT (kg_V m_ml_L_23 m_im_X5_turn m_sl_X5_turn m_in_X5 m_cd_X5_turn) rfl rfl rfl (by decide +kernel) ⟨Nat.le_of_ble_eq_true rfl, Nat.le_of_ble_eq_true rfl⟩) (kj_VX (List.Perm.refl _) hK hP hD hTB hTX hS hA (kj_rc (List.Perm.refl _) hK hP h.hx (Nat.le_of_ble_eq_true rfl) rfl)) rfl rfl hl.1 rfl (lv_room (Nat.le_of_ble_eq_true rfl)) dL_turn_5 ⟨Nat.le_of_ble_eq_true rfl, Nat.le_of_ble_eq_true rfl⟩) hP hD hS hA (fun ce q9 H locs hP hD hS hce hcv hcl => ?_)
    refine vx_catch hown [] ⟨0, 17, 20, 21⟩ [] (hTab.trans rfl) (fun z hz => nomatch hz) rfl (by decide) (htT _ m_cl_L_21) (hTB.use (n_ca _ (by decide))) hce hcv hcl ?_
    refine lv_astore (lv' := [(4, .ref q9), (0, .ref x), (1, .int p0), (2, .int p1), (3, .ref qo)]) hx hb dL_turn_20 hl (by decide) rfl (fun ls hl => ?_)
    refine lv_iconst (v := 1) hx hb dL_turn_22 (by decide) ?_
    exact W.iret (v := 1) hx hb hr (fun t ht hW => ⟨⟨1, (S, fo), rfl, (Or.inl (⟨rfl, hk0, rfl⟩)), by rw [ht]; exact hP, va_K.moved hW.alike hK, hD⟩, hS.F ht⟩) hS.2.2 dL_turn_23
  · have hj : j < 8 := by have := h.n8; omega
    refine kj_i (List.Perm.refl _) (va_runV (As := [.int (nI j), .int p1]) (rest := [.int 0, .ref qo]) ⟨hx, hb, hml, hown, htT⟩ (c_turn l D cA _ S x h.hx ar h.q0 ak h.q1 h.kk h.R j hj a hja (nI j) hsw p1 hz) (cwV 2 htT (kg_V m_ml_L_23 m_im_X5_turn m_sl_X5_turn m_in_X5 m_cd_X5_turn) rfl rfl rfl (by decide +kernel) ⟨Nat.le_of_ble_eq_true rfl, Nat.le_of_ble_eq_true rfl⟩) (kj_V (List.Perm.refl _) hK hP hD hTB (kj_rc (List.Perm.refl _) hK hP h.hx (Nat.le_of_ble_eq_true rfl) rfl)) rfl rfl hl.1 rfl (lv_room (Nat.le_of_ble_eq_true rfl)) dL_turn_5 ⟨Nat.le_of_ble_eq_true rfl, Nat.le_of_ble_eq_true rfl⟩) hP hD hS hA (fun r_1 x_1 H locs hq_1 hP hD hS => ?_)
    refine lv_if_eq (tgt := 15) hx hb dL_turn_8 (by decide) (fun c_2 => ?_) (fun c_2 => ?_)
    · refine lv_lconst (v := 0) hx hb dL_turn_15 (by decide) ?_
      refine kw_last hx hb hK hP hD hS dL_turn_16 (fun H locs hP hD hS => ?_)
      refine lv_goto (tgt := 24) hx hb dL_turn_17 (by decide) ?_
      refine lv_iconst (v := 0) hx hb dL_turn_24 (by decide) ?_
      refine W.widen (k := 1) (n := 6) (Nat.le_of_ble_eq_true rfl) (Nat.le_of_ble_eq_true rfl) ?_
      exact W.iret (v := 0) hx hb hr (fun t ht hW => ⟨⟨0, (x_1, vp_updL fo 0 0), rfl, (Or.inr (⟨rfl, j, a, hjn, rfl, hja, hq_1.2, Or.inl ⟨hq_1.1.symm.trans c_2, rfl⟩⟩)), by rw [ht]; exact hP, va_K.moved hW.alike hK, hD⟩, hS.F ht⟩) hS.2.2 dL_turn_25
    · refine lv_lconst (v := 1) hx hb dL_turn_11 (by decide) ?_
      refine lv_goto (tgt := 16) hx hb dL_turn_12 (by decide) ?_
      refine kw_last hx hb hK hP hD hS dL_turn_16 (fun H locs hP hD hS => ?_)
      refine lv_goto (tgt := 24) hx hb dL_turn_17 (by decide) ?_
      refine lv_iconst (v := 0) hx hb dL_turn_24 (by decide) ?_
      refine W.widen (k := 1) (n := 6) (Nat.le_of_ble_eq_true rfl) (Nat.le_of_ble_eq_true rfl) ?_
      exact W.iret (v := 0) hx hb hr (fun t ht hW => ⟨⟨0, (x_1, vp_updL fo 0 1), rfl, (Or.inr (⟨rfl, j, a, hjn, rfl, hja, hq_1.2, Or.inr ⟨fun e => c_2 (hq_1.1.trans e), rfl⟩⟩)), by rw [ht]; exact hP, va_K.moved hW.alike hK, hD⟩, hS.F ht⟩) hS.2.2 dL_turn_25

set_option maxRecDepth 100000 in
set_option maxHeartbeats 4000000 in
theorem w_ramp (l : Launch) (hst : l.stackTraces = false) (D : va_G) (cA : Nat → ClassId) (sz : Nat) (S : Pool) (x qo : Nat) (fo : Nat → Int64) (n na : Nat) (hh cc : Int32) (ar ak : Nat) (h : INVC n na hh cc S x ar ak) (p0 p1 p2 : Int32) : Met l yL_ramp (Cond.codeWith yL_ramp cL_ramp 6 (some .int) [(0, 12, 15, 21), (0, 12, 19, 13)] :: TT) ({ frames := 8, cells := 1, slots := 6, locals := 129 }) (va_Pc [.ref x, .int p0, .int p1, .int p2, .ref qo] (kPreX D cA (PW cA S ++ [oJ cA qo fo]) sz)) (va_Qi (fun (r_ : Int32) (x_ : Pool × (Nat → Int64)) => (r_ = 1 ∧ kIn p0 0 (nI n - 1) = 0 ∧ x_.1 = S) ∨ (r_ = 2 ∧ ∃ j a, j < n ∧ p0 = nI j ∧ gP S ar j = some a ∧ kOut p1 0 1000 = 1 ∧ x_.1 = S) ∨ (r_ = 2 ∧ ∃ j a, j < n ∧ p0 = nI j ∧ gP S ar j = some a ∧ kOut p1 0 1000 = 0 ∧ kOut p2 0 1000 = 1 ∧ x_.1 = S) ∨ (r_ = 0 ∧ ∃ j a, j < n ∧ p0 = nI j ∧ gP S ar j = some a ∧ kOut p1 0 1000 = 0 ∧ kOut p2 0 1000 = 0 ∧ x_.1 = pI (pI (pI S a 10 p1) a 11 p2) a 12 (gI S x 5) ∧ x_.2 = vp_updL fo 0 (cFar S a (gI S x 5)).toInt64)) (fun x_ => kB D cA (va_A (PW cA S ++ [oJ cA qo fo]) sz) (PW cA x_.1 ++ [oJ cA qo x_.2])) (va_A (PW cA S ++ [oJ cA qo fo]) sz)) 1 6 (va_A (PW cA S ++ [oJ cA qo fo]) sz) := by
  refine kt_ofWH (cc := cL_ramp) (maxL := 6) (ret := (some .int)) (by decide) rfl ?_
  intro p e s m args below meth c s₁ B hml hTab hv
  obtain ⟨rfl, ⟨hsz, hP, hK, hD0, hTB⟩, hTX⟩ := hv
  have hx := B.exec
  have hb := B.bytes
  have hr := B.returns
  have hts := atoms_spec (ws := Cond.codeWith yL_ramp cL_ramp 6 (some .int) [(0, 12, 15, 21), (0, 12, 19, 13)] :: TT) B.pre
  have htT : ∀ w ∈ TT, w.before _ s = true := fun w h => hts w (List.mem_cons_of_mem _ h)
  have hown : s.vm.findClass RL = some m.cls := findClass_of_methodNamed B.named
  have hlocks := B.notSynchronized
  subst hsz
  have hD := hD0.self (sz := s.heap.size)
  generalize hAe : va_A (PW cA S ++ [oJ cA qo fo]) s.heap.size = A at hD hTX ⊢
  have hA : ∀ q : Nat, s.heap.size ≤ q → A q := fun q h => by rw [← hAe]; exact Or.inr h
  have hS : va_S A s.heap s.heap [] := va_S.rf
  have hl := lv_entry ([.ref x, .int p0, .int p1, .int p2, .ref qo]) (n := 6) (Nat.le_of_ble_eq_true rfl)
  rw [lg_entry_eq]
  generalize (lg_sl ([.ref x, .int p0, .int p1, .int p2, .ref qo]) ++ List.replicate (6 - (lg_sl ([.ref x, .int p0, .int p1, .int p2, .ref qo])).length) Slot.unset).toArray = ls at hl ⊢
  have hl : lv_has ls 6 [(0, .ref x), (1, .int p0), (2, .int p1), (3, .int p2), (4, .ref qo)] := hl
  refine lv_aload hx hb dL_ramp_0 (lv_at hl 4 rfl) ?_
  refine lv_iconst (v := 0) hx hb dL_ramp_2 (by decide) ?_
  refine lv_aload_n hx hb dL_ramp_3 rfl (lv_at hl 0 rfl) ?_
  refine lv_iload_n hx hb dL_ramp_4 rfl (lv_at hl 1 rfl) ?_
  refine lv_iload_n hx hb dL_ramp_5 rfl (lv_at hl 2 rfl) ?_
  refine lv_iload_n hx hb dL_ramp_6 rfl (lv_at hl 3 rfl) ?_
  rcases h.at p0 with ⟨hsw, hk0⟩ | ⟨j, a, hjn, rfl, hja, hsw⟩
  · refine kj_t (List.Perm.refl _) (vx_runV (As := [.int p0, .int p1, .int p2]) (rest := [.int 0, .ref qo]) ⟨hx, hb, hml, hown, htT⟩ (c_ramp_t l hst D cA _ S x h.hx ar h.q0 h.R.1 p0 p1 p2 hsw) (cwV 3 htT (kg_V m_ml_L_27 m_im_X5_ramp m_sl_X5_ramp m_in_X5 m_cd_X5_ramp) rfl rfl rfl (by decide +kernel) ⟨Nat.le_of_ble_eq_true rfl, Nat.le_of_ble_eq_true rfl⟩) (kj_VX (List.Perm.refl _) hK hP hD hTB hTX hS hA (kj_rc (List.Perm.refl _) hK hP h.hx (Nat.le_of_ble_eq_true rfl) rfl)) rfl rfl hl.1 rfl (lv_room (Nat.le_of_ble_eq_true rfl)) dL_ramp_7 ⟨Nat.le_of_ble_eq_true rfl, Nat.le_of_ble_eq_true rfl⟩) hP hD hS hA (fun ce q9 H locs hP hD hS hce hcv hcl => ?_)
    refine vx_catch hown [] ⟨0, 12, 15, 21⟩ [⟨0, 12, 19, 13⟩] (hTab.trans rfl) (fun z hz => nomatch hz) rfl (by decide) (htT _ m_cl_L_21) (hTB.use (n_ca _ (by decide))) hce hcv hcl ?_
    refine lv_astore (lv' := [(5, .ref q9), (0, .ref x), (1, .int p0), (2, .int p1), (3, .int p2), (4, .ref qo)]) hx hb dL_ramp_15 hl (by decide) rfl (fun ls hl => ?_)
    refine lv_iconst (v := 1) hx hb dL_ramp_17 (by decide) ?_
    exact W.iret (v := 1) hx hb hr (fun t ht hW => ⟨⟨1, (S, fo), rfl, (Or.inl (⟨rfl, hk0, rfl⟩)), by rw [ht]; exact hP, va_K.moved hW.alike hK, hD⟩, hS.F ht⟩) hS.2.2 dL_ramp_18
  · have hj : j < 8 := by have := h.n8; omega
    rcases kOut_01 p1 0 1000 with h1 | h1
    · rcases kOut_01 p2 0 1000 with h2 | h2
      · refine kj_i (List.Perm.refl _) (va_runV (As := [.int (nI j), .int p1, .int p2]) (rest := [.int 0, .ref qo]) ⟨hx, hb, hml, hown, htT⟩ (c_ramp l D cA _ S x h.hx ar h.q0 ak h.q1 h.kk h.R j hj a hja (nI j) hsw p1 p2 h1 h2) (cwV 3 htT (kg_V m_ml_L_27 m_im_X5_ramp m_sl_X5_ramp m_in_X5 m_cd_X5_ramp) rfl rfl rfl (by decide +kernel) ⟨Nat.le_of_ble_eq_true rfl, Nat.le_of_ble_eq_true rfl⟩) (kj_V (List.Perm.refl _) hK hP hD hTB (kj_rc (List.Perm.refl _) hK hP h.hx (Nat.le_of_ble_eq_true rfl) rfl)) rfl rfl hl.1 rfl (lv_room (Nat.le_of_ble_eq_true rfl)) dL_ramp_7 ⟨Nat.le_of_ble_eq_true rfl, Nat.le_of_ble_eq_true rfl⟩) hP hD hS hA (fun r_1 x_1 H locs hq_1 hP hD hS => ?_)
        refine lv_i2l (v := r_1.toInt64) hx hb dL_ramp_10 rfl ?_
        refine kw_last hx hb hK hP hD hS dL_ramp_11 (fun H locs hP hD hS => ?_)
        refine lv_goto (tgt := 23) hx hb dL_ramp_12 (by decide) ?_
        refine lv_iconst (v := 0) hx hb dL_ramp_23 (by decide) ?_
        refine W.widen (k := 1) (n := 6) (Nat.le_of_ble_eq_true rfl) (Nat.le_of_ble_eq_true rfl) ?_
        exact W.iret (v := 0) hx hb hr (fun t ht hW => ⟨⟨0, (x_1, vp_updL fo 0 r_1.toInt64), rfl, (Or.inr (Or.inr (Or.inr (⟨rfl, j, a, hjn, rfl, hja, h1, h2, hq_1.2, by rw [hq_1.1]⟩)))), by rw [ht]; exact hP, va_K.moved hW.alike hK, hD⟩, hS.F ht⟩) hS.2.2 dL_ramp_24
      · refine kj_t (List.Perm.refl _) (vx_runV (As := [.int (nI j), .int p1, .int p2]) (rest := [.int 0, .ref qo]) ⟨hx, hb, hml, hown, htT⟩ (c_ramp_2 l hst D cA _ S x h.hx ar h.q0 ak h.q1 h.kk h.R j hj a hja (nI j) hsw p1 p2 h1 h2) (cwV 3 htT (kg_V m_ml_L_27 m_im_X5_ramp m_sl_X5_ramp m_in_X5 m_cd_X5_ramp) rfl rfl rfl (by decide +kernel) ⟨Nat.le_of_ble_eq_true rfl, Nat.le_of_ble_eq_true rfl⟩) (kj_VX (List.Perm.refl _) hK hP hD hTB hTX hS hA (kj_rc (List.Perm.refl _) hK hP h.hx (Nat.le_of_ble_eq_true rfl) rfl)) rfl rfl hl.1 rfl (lv_room (Nat.le_of_ble_eq_true rfl)) dL_ramp_7 ⟨Nat.le_of_ble_eq_true rfl, Nat.le_of_ble_eq_true rfl⟩) hP hD hS hA (fun ce q9 H locs hP hD hS hce hcv hcl => ?_)
        refine vx_catch hown [⟨0, 12, 15, 21⟩] ⟨0, 12, 19, 13⟩ [] (hTab.trans rfl) (fun z hz => by obtain rfl := List.mem_singleton.mp hz; first | exact Or.inr ⟨by decide, _, htT _ m_cl_L_21, hTX.2.2.2 ("java/lang/IllegalArgumentException", "java/lang/IndexOutOfBoundsException") (by decide +kernel)⟩) rfl (by decide) (htT _ m_cl_L_13) (hTB.use (n_ca _ (by decide))) hce hcv hcl ?_
        refine lv_astore (lv' := [(5, .ref q9), (0, .ref x), (1, .int (nI j)), (2, .int p1), (3, .int p2), (4, .ref qo)]) hx hb dL_ramp_19 hl (by decide) rfl (fun ls hl => ?_)
        refine lv_iconst (v := 2) hx hb dL_ramp_21 (by decide) ?_
        exact W.iret (v := 2) hx hb hr (fun t ht hW => ⟨⟨2, (S, fo), rfl, (Or.inr (Or.inr (Or.inl (⟨rfl, j, a, hjn, rfl, hja, h1, h2, rfl⟩)))), by rw [ht]; exact hP, va_K.moved hW.alike hK, hD⟩, hS.F ht⟩) hS.2.2 dL_ramp_22
    · refine kj_t (List.Perm.refl _) (vx_runV (As := [.int (nI j), .int p1, .int p2]) (rest := [.int 0, .ref qo]) ⟨hx, hb, hml, hown, htT⟩ (c_ramp_1 l hst D cA _ S x h.hx ar h.q0 ak h.q1 h.kk h.R j hj a hja (nI j) hsw p1 p2 h1) (cwV 3 htT (kg_V m_ml_L_27 m_im_X5_ramp m_sl_X5_ramp m_in_X5 m_cd_X5_ramp) rfl rfl rfl (by decide +kernel) ⟨Nat.le_of_ble_eq_true rfl, Nat.le_of_ble_eq_true rfl⟩) (kj_VX (List.Perm.refl _) hK hP hD hTB hTX hS hA (kj_rc (List.Perm.refl _) hK hP h.hx (Nat.le_of_ble_eq_true rfl) rfl)) rfl rfl hl.1 rfl (lv_room (Nat.le_of_ble_eq_true rfl)) dL_ramp_7 ⟨Nat.le_of_ble_eq_true rfl, Nat.le_of_ble_eq_true rfl⟩) hP hD hS hA (fun ce q9 H locs hP hD hS hce hcv hcl => ?_)
      refine vx_catch hown [⟨0, 12, 15, 21⟩] ⟨0, 12, 19, 13⟩ [] (hTab.trans rfl) (fun z hz => by obtain rfl := List.mem_singleton.mp hz; first | exact Or.inr ⟨by decide, _, htT _ m_cl_L_21, hTX.2.2.2 ("java/lang/IllegalArgumentException", "java/lang/IndexOutOfBoundsException") (by decide +kernel)⟩) rfl (by decide) (htT _ m_cl_L_13) (hTB.use (n_ca _ (by decide))) hce hcv hcl ?_
      refine lv_astore (lv' := [(5, .ref q9), (0, .ref x), (1, .int (nI j)), (2, .int p1), (3, .int p2), (4, .ref qo)]) hx hb dL_ramp_19 hl (by decide) rfl (fun ls hl => ?_)
      refine lv_iconst (v := 2) hx hb dL_ramp_21 (by decide) ?_
      exact W.iret (v := 2) hx hb hr (fun t ht hW => ⟨⟨2, (S, fo), rfl, (Or.inr (Or.inl (⟨rfl, j, a, hjn, rfl, hja, h1, rfl⟩))), by rw [ht]; exact hP, va_K.moved hW.alike hK, hD⟩, hS.F ht⟩) hS.2.2 dL_ramp_22

set_option maxRecDepth 100000 in
set_option maxHeartbeats 4000000 in
theorem w_place (l : Launch) (hst : l.stackTraces = false) (D : va_G) (cA : Nat → ClassId) (sz : Nat) (S : Pool) (x qo : Nat) (fo : Nat → Int64) (n na : Nat) (hh cc : Int32) (ar ak : Nat) (h : INVC n na hh cc S x ar ak) (p0 p1 p2 p3 : Int32) : Met l yL_place (Cond.codeWith yL_place cL_place 7 (some .int) [(0, 14, 17, 21), (0, 14, 21, 13), (0, 14, 25, 15)] :: TT) ({ frames := 8, cells := 1, slots := 6, locals := 130 }) (va_Pc [.ref x, .int p0, .int p1, .int p2, .int p3, .ref qo] (kPreX D cA (PW cA S ++ [oJ cA qo fo]) sz)) (va_Qi (fun (r_ : Int32) (x_ : Pool × (Nat → Int64)) => (r_ = 1 ∧ kIn p0 0 (nI n - 1) = 0 ∧ x_.1 = S) ∨ (r_ = 0 ∧ ∃ j a, j < n ∧ p0 = nI j ∧ gP S ar j = some a ∧ p1 = -1 ∧ x_.1 = pI (pI (pI S a 13 (-1)) a 14 0) a 15 0 ∧ x_.2 = vp_updL fo 0 (gI S a 13).toInt64) ∨ (r_ = 2 ∧ ∃ j a, j < n ∧ p0 = nI j ∧ gP S ar j = some a ∧ ¬ p1 = -1 ∧ kRng p1 p2 p3 = 0 ∧ x_.1 = S) ∨ (r_ = 0 ∧ ∃ j a, j < n ∧ p0 = nI j ∧ gP S ar j = some a ∧ ¬ p1 = -1 ∧ kRng p1 p2 p3 = 1 ∧ cTak S ar (nI j) p1 p2 p3 8 0 = 0 ∧ x_.1 = pI (pI (pI S a 13 p1) a 14 p2) a 15 p3 ∧ x_.2 = vp_updL fo 0 (gI S a 13).toInt64) ∨ (r_ = 3 ∧ ∃ j a, j < n ∧ p0 = nI j ∧ gP S ar j = some a ∧ ¬ p1 = -1 ∧ kRng p1 p2 p3 = 1 ∧ ¬ cTak S ar (nI j) p1 p2 p3 8 0 = 0 ∧ x_.1 = S)) (fun x_ => kB D cA (va_A (PW cA S ++ [oJ cA qo fo]) sz) (PW cA x_.1 ++ [oJ cA qo x_.2])) (va_A (PW cA S ++ [oJ cA qo fo]) sz)) 1 6 (va_A (PW cA S ++ [oJ cA qo fo]) sz) := by
  refine kt_ofWH (cc := cL_place) (maxL := 7) (ret := (some .int)) (by decide) rfl ?_
  intro p e s m args below meth c s₁ B hml hTab hv
  obtain ⟨rfl, ⟨hsz, hP, hK, hD0, hTB⟩, hTX⟩ := hv
  have hx := B.exec
  have hb := B.bytes
  have hr := B.returns
  have hts := atoms_spec (ws := Cond.codeWith yL_place cL_place 7 (some .int) [(0, 14, 17, 21), (0, 14, 21, 13), (0, 14, 25, 15)] :: TT) B.pre
  have htT : ∀ w ∈ TT, w.before _ s = true := fun w h => hts w (List.mem_cons_of_mem _ h)
  have hown : s.vm.findClass RL = some m.cls := findClass_of_methodNamed B.named
  have hlocks := B.notSynchronized
  subst hsz
  have hD := hD0.self (sz := s.heap.size)
  generalize hAe : va_A (PW cA S ++ [oJ cA qo fo]) s.heap.size = A at hD hTX ⊢
  have hA : ∀ q : Nat, s.heap.size ≤ q → A q := fun q h => by rw [← hAe]; exact Or.inr h
  have hS : va_S A s.heap s.heap [] := va_S.rf
  have hl := lv_entry ([.ref x, .int p0, .int p1, .int p2, .int p3, .ref qo]) (n := 7) (Nat.le_of_ble_eq_true rfl)
  rw [lg_entry_eq]
  generalize (lg_sl ([.ref x, .int p0, .int p1, .int p2, .int p3, .ref qo]) ++ List.replicate (7 - (lg_sl ([.ref x, .int p0, .int p1, .int p2, .int p3, .ref qo])).length) Slot.unset).toArray = ls at hl ⊢
  have hl : lv_has ls 7 [(0, .ref x), (1, .int p0), (2, .int p1), (3, .int p2), (4, .int p3), (5, .ref qo)] := hl
  refine lv_aload hx hb dL_place_0 (lv_at hl 5 rfl) ?_
  refine lv_iconst (v := 0) hx hb dL_place_2 (by decide) ?_
  refine lv_aload_n hx hb dL_place_3 rfl (lv_at hl 0 rfl) ?_
  refine lv_iload_n hx hb dL_place_4 rfl (lv_at hl 1 rfl) ?_
  refine lv_iload_n hx hb dL_place_5 rfl (lv_at hl 2 rfl) ?_
  refine lv_iload_n hx hb dL_place_6 rfl (lv_at hl 3 rfl) ?_
  refine lv_iload hx hb dL_place_7 (lv_at hl 4 rfl) ?_
  rcases h.at p0 with ⟨hsw, hk0⟩ | ⟨j, a, hjn, rfl, hja, hsw⟩
  · refine kj_t (List.Perm.refl _) (vx_runV (As := [.int p0, .int p1, .int p2, .int p3]) (rest := [.int 0, .ref qo]) ⟨hx, hb, hml, hown, htT⟩ (c_place_t l hst D cA _ S x h.hx ar h.q0 h.R.1 p0 p1 p2 p3 hsw) (cwV 4 htT (kg_V m_ml_L_30 m_im_X5_place m_sl_X5_place m_in_X5 m_cd_X5_place) rfl rfl rfl (by decide +kernel) ⟨Nat.le_of_ble_eq_true rfl, Nat.le_of_ble_eq_true rfl⟩) (kj_VX (List.Perm.refl _) hK hP hD hTB hTX hS hA (kj_rc (List.Perm.refl _) hK hP h.hx (Nat.le_of_ble_eq_true rfl) rfl)) rfl rfl hl.1 rfl (lv_room (Nat.le_of_ble_eq_true rfl)) dL_place_9 ⟨Nat.le_of_ble_eq_true rfl, Nat.le_of_ble_eq_true rfl⟩) hP hD hS hA (fun ce q9 H locs hP hD hS hce hcv hcl => ?_)
    refine vx_catch hown [] ⟨0, 14, 17, 21⟩ [⟨0, 14, 21, 13⟩, ⟨0, 14, 25, 15⟩] (hTab.trans rfl) (fun z hz => nomatch hz) rfl (by decide) (htT _ m_cl_L_21) (hTB.use (n_ca _ (by decide))) hce hcv hcl ?_
    refine lv_astore (lv' := [(6, .ref q9), (0, .ref x), (1, .int p0), (2, .int p1), (3, .int p2), (4, .int p3), (5, .ref qo)]) hx hb dL_place_17 hl (by decide) rfl (fun ls hl => ?_)
    refine lv_iconst (v := 1) hx hb dL_place_19 (by decide) ?_
    exact W.iret (v := 1) hx hb hr (fun t ht hW => ⟨⟨1, (S, fo), rfl, (Or.inl (⟨rfl, hk0, rfl⟩)), by rw [ht]; exact hP, va_K.moved hW.alike hK, hD⟩, hS.F ht⟩) hS.2.2 dL_place_20
  · have hj : j < 8 := by have := h.n8; omega
    by_cases hn1 : p1 = -1
    · subst hn1
      refine kj_i (List.Perm.refl _) (va_runV (As := [.int (nI j), .int (-1), .int p2, .int p3]) (rest := [.int 0, .ref qo]) ⟨hx, hb, hml, hown, htT⟩ (c_place_n l D cA _ S x h.hx ar h.q0 ak h.q1 h.kk h.R j hj a hja (nI j) hsw p2 p3) (cwV 4 htT (kg_V m_ml_L_30 m_im_X5_place m_sl_X5_place m_in_X5 m_cd_X5_place) rfl rfl rfl (by decide +kernel) ⟨Nat.le_of_ble_eq_true rfl, Nat.le_of_ble_eq_true rfl⟩) (kj_V (List.Perm.refl _) hK hP hD hTB (kj_rc (List.Perm.refl _) hK hP h.hx (Nat.le_of_ble_eq_true rfl) rfl)) rfl rfl hl.1 rfl (lv_room (Nat.le_of_ble_eq_true rfl)) dL_place_9 ⟨Nat.le_of_ble_eq_true rfl, Nat.le_of_ble_eq_true rfl⟩) hP hD hS hA (fun r_1 x_1 H locs hq_1 hP hD hS => ?_)
      refine lv_i2l (v := r_1.toInt64) hx hb dL_place_12 rfl ?_
      refine kw_last hx hb hK hP hD hS dL_place_13 (fun H locs hP hD hS => ?_)
      refine lv_goto (tgt := 29) hx hb dL_place_14 (by decide) ?_
      refine lv_iconst (v := 0) hx hb dL_place_29 (by decide) ?_
      refine W.widen (k := 1) (n := 6) (Nat.le_of_ble_eq_true rfl) (Nat.le_of_ble_eq_true rfl) ?_
      exact W.iret (v := 0) hx hb hr (fun t ht hW => ⟨⟨0, (x_1, vp_updL fo 0 r_1.toInt64), rfl, (Or.inr (Or.inl (⟨rfl, j, a, hjn, rfl, hja, rfl, hq_1.2, by rw [hq_1.1]⟩))), by rw [ht]; exact hP, va_K.moved hW.alike hK, hD⟩, hS.F ht⟩) hS.2.2 dL_place_30
    · rcases kRng_01 p1 p2 p3 with hbad | hbad
      · refine kj_t (List.Perm.refl _) (vx_runV (As := [.int (nI j), .int p1, .int p2, .int p3]) (rest := [.int 0, .ref qo]) ⟨hx, hb, hml, hown, htT⟩ (c_place_t1 l hst D cA _ S x h.hx ar h.q0 ak h.q1 h.kk h.R j hj a hja (nI j) hsw p1 p2 p3 hn1 hbad) (cwV 4 htT (kg_V m_ml_L_30 m_im_X5_place m_sl_X5_place m_in_X5 m_cd_X5_place) rfl rfl rfl (by decide +kernel) ⟨Nat.le_of_ble_eq_true rfl, Nat.le_of_ble_eq_true rfl⟩) (kj_VX (List.Perm.refl _) hK hP hD hTB hTX hS hA (kj_rc (List.Perm.refl _) hK hP h.hx (Nat.le_of_ble_eq_true rfl) rfl)) rfl rfl hl.1 rfl (lv_room (Nat.le_of_ble_eq_true rfl)) dL_place_9 ⟨Nat.le_of_ble_eq_true rfl, Nat.le_of_ble_eq_true rfl⟩) hP hD hS hA (fun ce q9 H locs hP hD hS hce hcv hcl => ?_)
        refine vx_catch hown [⟨0, 14, 17, 21⟩] ⟨0, 14, 21, 13⟩ [⟨0, 14, 25, 15⟩] (hTab.trans rfl) (fun z hz => by obtain rfl := List.mem_singleton.mp hz; first | exact Or.inr ⟨by decide, _, htT _ m_cl_L_21, hTX.2.2.2 ("java/lang/IllegalArgumentException", "java/lang/IndexOutOfBoundsException") (by decide +kernel)⟩) rfl (by decide) (htT _ m_cl_L_13) (hTB.use (n_ca _ (by decide))) hce hcv hcl ?_
        refine lv_astore (lv' := [(6, .ref q9), (0, .ref x), (1, .int (nI j)), (2, .int p1), (3, .int p2), (4, .int p3), (5, .ref qo)]) hx hb dL_place_21 hl (by decide) rfl (fun ls hl => ?_)
        refine lv_iconst (v := 2) hx hb dL_place_23 (by decide) ?_
        exact W.iret (v := 2) hx hb hr (fun t ht hW => ⟨⟨2, (S, fo), rfl, (Or.inr (Or.inr (Or.inl (⟨rfl, j, a, hjn, rfl, hja, hn1, hbad, rfl⟩)))), by rw [ht]; exact hP, va_K.moved hW.alike hK, hD⟩, hS.F ht⟩) hS.2.2 dL_place_24
      · by_cases htk : cTak S ar (nI j) p1 p2 p3 8 0 = 0
        · refine kj_i (List.Perm.refl _) (va_runV (As := [.int (nI j), .int p1, .int p2, .int p3]) (rest := [.int 0, .ref qo]) ⟨hx, hb, hml, hown, htT⟩ (c_place l D cA _ S x h.hx ar h.q0 ak h.q1 h.kk h.R j hj a hja (nI j) hsw p1 p2 p3 hn1 hbad htk) (cwV 4 htT (kg_V m_ml_L_30 m_im_X5_place m_sl_X5_place m_in_X5 m_cd_X5_place) rfl rfl rfl (by decide +kernel) ⟨Nat.le_of_ble_eq_true rfl, Nat.le_of_ble_eq_true rfl⟩) (kj_V (List.Perm.refl _) hK hP hD hTB (kj_rc (List.Perm.refl _) hK hP h.hx (Nat.le_of_ble_eq_true rfl) rfl)) rfl rfl hl.1 rfl (lv_room (Nat.le_of_ble_eq_true rfl)) dL_place_9 ⟨Nat.le_of_ble_eq_true rfl, Nat.le_of_ble_eq_true rfl⟩) hP hD hS hA (fun r_2 x_2 H locs hq_2 hP hD hS => ?_)
          refine lv_i2l (v := r_2.toInt64) hx hb dL_place_12 rfl ?_
          refine kw_last hx hb hK hP hD hS dL_place_13 (fun H locs hP hD hS => ?_)
          refine lv_goto (tgt := 29) hx hb dL_place_14 (by decide) ?_
          refine lv_iconst (v := 0) hx hb dL_place_29 (by decide) ?_
          refine W.widen (k := 1) (n := 6) (Nat.le_of_ble_eq_true rfl) (Nat.le_of_ble_eq_true rfl) ?_
          exact W.iret (v := 0) hx hb hr (fun t ht hW => ⟨⟨0, (x_2, vp_updL fo 0 r_2.toInt64), rfl, (Or.inr (Or.inr (Or.inr (Or.inl (⟨rfl, j, a, hjn, rfl, hja, hn1, hbad, htk, hq_2.2, by rw [hq_2.1]⟩))))), by rw [ht]; exact hP, va_K.moved hW.alike hK, hD⟩, hS.F ht⟩) hS.2.2 dL_place_30
        · refine kj_t (List.Perm.refl _) (vx_runV (As := [.int (nI j), .int p1, .int p2, .int p3]) (rest := [.int 0, .ref qo]) ⟨hx, hb, hml, hown, htT⟩ (c_place_t2 l hst D cA _ S x h.hx ar h.q0 ak h.q1 h.kk h.R j hj a hja (nI j) hsw p1 p2 p3 hn1 hbad htk) (cwV 4 htT (kg_V m_ml_L_30 m_im_X5_place m_sl_X5_place m_in_X5 m_cd_X5_place) rfl rfl rfl (by decide +kernel) ⟨Nat.le_of_ble_eq_true rfl, Nat.le_of_ble_eq_true rfl⟩) (kj_VX (List.Perm.refl _) hK hP hD hTB hTX hS hA (kj_rc (List.Perm.refl _) hK hP h.hx (Nat.le_of_ble_eq_true rfl) rfl)) rfl rfl hl.1 rfl (lv_room (Nat.le_of_ble_eq_true rfl)) dL_place_9 ⟨Nat.le_of_ble_eq_true rfl, Nat.le_of_ble_eq_true rfl⟩) hP hD hS hA (fun ce q9 H locs hP hD hS hce hcv hcl => ?_)
          refine vx_catch hown [⟨0, 14, 17, 21⟩, ⟨0, 14, 21, 13⟩] ⟨0, 14, 25, 15⟩ [] (hTab.trans rfl) (fun z hz => by rcases List.mem_cons.mp hz with rfl | hz2 <;> first | exact Or.inr ⟨by decide, _, htT _ m_cl_L_21, hTX.2.2.2 ("java/lang/IllegalStateException", "java/lang/IndexOutOfBoundsException") (by decide +kernel)⟩ | exact Or.inr ⟨by decide, _, htT _ m_cl_L_13, hTX.2.2.2 ("java/lang/IllegalStateException", "java/lang/IllegalArgumentException") (by decide +kernel)⟩ | (obtain rfl := List.mem_singleton.mp hz2; first | exact Or.inr ⟨by decide, _, htT _ m_cl_L_21, hTX.2.2.2 ("java/lang/IllegalStateException", "java/lang/IndexOutOfBoundsException") (by decide +kernel)⟩ | exact Or.inr ⟨by decide, _, htT _ m_cl_L_13, hTX.2.2.2 ("java/lang/IllegalStateException", "java/lang/IllegalArgumentException") (by decide +kernel)⟩)) rfl (by decide) (htT _ m_cl_L_15) (hTB.use (n_ca _ (by decide))) hce hcv hcl ?_
          refine lv_astore (lv' := [(6, .ref q9), (0, .ref x), (1, .int (nI j)), (2, .int p1), (3, .int p2), (4, .int p3), (5, .ref qo)]) hx hb dL_place_25 hl (by decide) rfl (fun ls hl => ?_)
          refine lv_iconst (v := 3) hx hb dL_place_27 (by decide) ?_
          exact W.iret (v := 3) hx hb hr (fun t ht hW => ⟨⟨3, (S, fo), rfl, (Or.inr (Or.inr (Or.inr (Or.inr (⟨rfl, j, a, hjn, rfl, hja, hn1, hbad, htk, rfl⟩))))), by rw [ht]; exact hP, va_K.moved hW.alike hK, hD⟩, hS.F ht⟩) hS.2.2 dL_place_28

set_option maxRecDepth 100000 in
set_option maxHeartbeats 4000000 in
theorem w_need (l : Launch) (hst : l.stackTraces = false) (D : va_G) (cA : Nat → ClassId) (sz : Nat) (S : Pool) (x qo : Nat) (fo : Nat → Int64) (n na : Nat) (hh cc : Int32) (ar ak : Nat) (h : INVC n na hh cc S x ar ak) (p0 p1 p2 : Int32) : Met l yL_need (Cond.codeWith yL_need cL_need 6 (some .int) [(0, 12, 15, 21), (0, 12, 19, 13)] :: TT) ({ frames := 8, cells := 1, slots := 6, locals := 129 }) (va_Pc [.ref x, .int p0, .int p1, .int p2, .ref qo] (kPreX D cA (PW cA S ++ [oJ cA qo fo]) sz)) (va_Qi (fun (r_ : Int32) (x_ : Pool × (Nat → Int64)) => (r_ = 1 ∧ kIn p0 0 (nI n - 1) = 0 ∧ x_.1 = S) ∨ (r_ = 0 ∧ ∃ j a, j < n ∧ p0 = nI j ∧ gP S ar j = some a ∧ p1 = -1 ∧ x_.1 = pI (pI S a 16 (-1)) a 17 p2 ∧ x_.2 = vp_updL fo 0 (gI S a 16).toInt64) ∨ (r_ = 1 ∧ ∃ j a, j < n ∧ p0 = nI j ∧ gP S ar j = some a ∧ ¬ p1 = -1 ∧ kIn p1 0 (nI n - 1) = 0 ∧ x_.1 = S) ∨ (r_ = 1 ∧ ∃ j a i2 b2, j < n ∧ p0 = nI j ∧ gP S ar j = some a ∧ i2 < n ∧ p1 = nI i2 ∧ gP S ar i2 = some b2 ∧ kOut p2 0 (gI S b2 2 - 1) = 1 ∧ x_.1 = S) ∨ (r_ = 0 ∧ ∃ j a i2 b2, j < n ∧ p0 = nI j ∧ gP S ar j = some a ∧ i2 < n ∧ p1 = nI i2 ∧ gP S ar i2 = some b2 ∧ kOut p2 0 (gI S b2 2 - 1) = 0 ∧ nI i2 < nI j ∧ x_.1 = pI (pI S a 16 (nI i2)) a 17 p2 ∧ x_.2 = vp_updL fo 0 (gI S a 16).toInt64) ∨ (r_ = 2 ∧ ∃ j a i2 b2, j < n ∧ p0 = nI j ∧ gP S ar j = some a ∧ i2 < n ∧ p1 = nI i2 ∧ gP S ar i2 = some b2 ∧ kOut p2 0 (gI S b2 2 - 1) = 0 ∧ ¬ nI i2 < nI j ∧ x_.1 = S)) (fun x_ => kB D cA (va_A (PW cA S ++ [oJ cA qo fo]) sz) (PW cA x_.1 ++ [oJ cA qo x_.2])) (va_A (PW cA S ++ [oJ cA qo fo]) sz)) 1 6 (va_A (PW cA S ++ [oJ cA qo fo]) sz) := by
  refine kt_ofWH (cc := cL_need) (maxL := 6) (ret := (some .int)) (by decide) rfl ?_
  intro p e s m args below meth c s₁ B hml hTab hv
  obtain ⟨rfl, ⟨hsz, hP, hK, hD0, hTB⟩, hTX⟩ := hv
  have hx := B.exec
  have hb := B.bytes
  have hr := B.returns
  have hts := atoms_spec (ws := Cond.codeWith yL_need cL_need 6 (some .int) [(0, 12, 15, 21), (0, 12, 19, 13)] :: TT) B.pre
  have htT : ∀ w ∈ TT, w.before _ s = true := fun w h => hts w (List.mem_cons_of_mem _ h)
  have hown : s.vm.findClass RL = some m.cls := findClass_of_methodNamed B.named
  have hlocks := B.notSynchronized
  subst hsz
  have hD := hD0.self (sz := s.heap.size)
  generalize hAe : va_A (PW cA S ++ [oJ cA qo fo]) s.heap.size = A at hD hTX ⊢
  have hA : ∀ q : Nat, s.heap.size ≤ q → A q := fun q h => by rw [← hAe]; exact Or.inr h
  have hS : va_S A s.heap s.heap [] := va_S.rf
  have hl := lv_entry ([.ref x, .int p0, .int p1, .int p2, .ref qo]) (n := 6) (Nat.le_of_ble_eq_true rfl)
  rw [lg_entry_eq]
  generalize (lg_sl ([.ref x, .int p0, .int p1, .int p2, .ref qo]) ++ List.replicate (6 - (lg_sl ([.ref x, .int p0, .int p1, .int p2, .ref qo])).length) Slot.unset).toArray = ls at hl ⊢
  have hl : lv_has ls 6 [(0, .ref x), (1, .int p0), (2, .int p1), (3, .int p2), (4, .ref qo)] := hl
  refine lv_aload hx hb dL_need_0 (lv_at hl 4 rfl) ?_
  refine lv_iconst (v := 0) hx hb dL_need_2 (by decide) ?_
  refine lv_aload_n hx hb dL_need_3 rfl (lv_at hl 0 rfl) ?_
  refine lv_iload_n hx hb dL_need_4 rfl (lv_at hl 1 rfl) ?_
  refine lv_iload_n hx hb dL_need_5 rfl (lv_at hl 2 rfl) ?_
  refine lv_iload_n hx hb dL_need_6 rfl (lv_at hl 3 rfl) ?_
  rcases h.at p0 with ⟨hsw, hk0⟩ | ⟨j, a, hjn, rfl, hja, hsw⟩
  · refine kj_t (List.Perm.refl _) (vx_runV (As := [.int p0, .int p1, .int p2]) (rest := [.int 0, .ref qo]) ⟨hx, hb, hml, hown, htT⟩ (c_need_t l hst D cA _ S x h.hx ar h.q0 h.R.1 p0 p1 p2 hsw) (cwV 3 htT (kg_V m_ml_L_34 m_im_X5_need m_sl_X5_need m_in_X5 m_cd_X5_need) rfl rfl rfl (by decide +kernel) ⟨Nat.le_of_ble_eq_true rfl, Nat.le_of_ble_eq_true rfl⟩) (kj_VX (List.Perm.refl _) hK hP hD hTB hTX hS hA (kj_rc (List.Perm.refl _) hK hP h.hx (Nat.le_of_ble_eq_true rfl) rfl)) rfl rfl hl.1 rfl (lv_room (Nat.le_of_ble_eq_true rfl)) dL_need_7 ⟨Nat.le_of_ble_eq_true rfl, Nat.le_of_ble_eq_true rfl⟩) hP hD hS hA (fun ce q9 H locs hP hD hS hce hcv hcl => ?_)
    refine vx_catch hown [] ⟨0, 12, 15, 21⟩ [⟨0, 12, 19, 13⟩] (hTab.trans rfl) (fun z hz => nomatch hz) rfl (by decide) (htT _ m_cl_L_21) (hTB.use (n_ca _ (by decide))) hce hcv hcl ?_
    refine lv_astore (lv' := [(5, .ref q9), (0, .ref x), (1, .int p0), (2, .int p1), (3, .int p2), (4, .ref qo)]) hx hb dL_need_15 hl (by decide) rfl (fun ls hl => ?_)
    refine lv_iconst (v := 1) hx hb dL_need_17 (by decide) ?_
    exact W.iret (v := 1) hx hb hr (fun t ht hW => ⟨⟨1, (S, fo), rfl, (Or.inl (⟨rfl, hk0, rfl⟩)), by rw [ht]; exact hP, va_K.moved hW.alike hK, hD⟩, hS.F ht⟩) hS.2.2 dL_need_18
  · have hj : j < 8 := by have := h.n8; omega
    by_cases hn1 : p1 = -1
    · subst hn1
      refine kj_i (List.Perm.refl _) (va_runV (As := [.int (nI j), .int (-1), .int p2]) (rest := [.int 0, .ref qo]) ⟨hx, hb, hml, hown, htT⟩ (c_need_n l D cA _ S x h.hx ar h.q0 ak h.q1 h.kk h.R j hj a hja (nI j) hsw p2) (cwV 3 htT (kg_V m_ml_L_34 m_im_X5_need m_sl_X5_need m_in_X5 m_cd_X5_need) rfl rfl rfl (by decide +kernel) ⟨Nat.le_of_ble_eq_true rfl, Nat.le_of_ble_eq_true rfl⟩) (kj_V (List.Perm.refl _) hK hP hD hTB (kj_rc (List.Perm.refl _) hK hP h.hx (Nat.le_of_ble_eq_true rfl) rfl)) rfl rfl hl.1 rfl (lv_room (Nat.le_of_ble_eq_true rfl)) dL_need_7 ⟨Nat.le_of_ble_eq_true rfl, Nat.le_of_ble_eq_true rfl⟩) hP hD hS hA (fun r_1 x_1 H locs hq_1 hP hD hS => ?_)
      refine lv_i2l (v := r_1.toInt64) hx hb dL_need_10 rfl ?_
      refine kw_last hx hb hK hP hD hS dL_need_11 (fun H locs hP hD hS => ?_)
      refine lv_goto (tgt := 23) hx hb dL_need_12 (by decide) ?_
      refine lv_iconst (v := 0) hx hb dL_need_23 (by decide) ?_
      refine W.widen (k := 1) (n := 6) (Nat.le_of_ble_eq_true rfl) (Nat.le_of_ble_eq_true rfl) ?_
      exact W.iret (v := 0) hx hb hr (fun t ht hW => ⟨⟨0, (x_1, vp_updL fo 0 r_1.toInt64), rfl, (Or.inr (Or.inl (⟨rfl, j, a, hjn, rfl, hja, rfl, hq_1.2, by rw [hq_1.1]⟩))), by rw [ht]; exact hP, va_K.moved hW.alike hK, hD⟩, hS.F ht⟩) hS.2.2 dL_need_24
    · rcases h.at p1 with ⟨hs2, hk1⟩ | ⟨i2, b2, hi2n, rfl, hjb, hs2⟩
      · refine kj_t (List.Perm.refl _) (vx_runV (As := [.int (nI j), .int p1, .int p2]) (rest := [.int 0, .ref qo]) ⟨hx, hb, hml, hown, htT⟩ (c_need_o l hst D cA _ S x h.hx ar h.q0 ak h.q1 h.kk h.R j hj a hja (nI j) hsw p1 p2 hn1 hs2) (cwV 3 htT (kg_V m_ml_L_34 m_im_X5_need m_sl_X5_need m_in_X5 m_cd_X5_need) rfl rfl rfl (by decide +kernel) ⟨Nat.le_of_ble_eq_true rfl, Nat.le_of_ble_eq_true rfl⟩) (kj_VX (List.Perm.refl _) hK hP hD hTB hTX hS hA (kj_rc (List.Perm.refl _) hK hP h.hx (Nat.le_of_ble_eq_true rfl) rfl)) rfl rfl hl.1 rfl (lv_room (Nat.le_of_ble_eq_true rfl)) dL_need_7 ⟨Nat.le_of_ble_eq_true rfl, Nat.le_of_ble_eq_true rfl⟩) hP hD hS hA (fun ce q9 H locs hP hD hS hce hcv hcl => ?_)
        refine vx_catch hown [] ⟨0, 12, 15, 21⟩ [⟨0, 12, 19, 13⟩] (hTab.trans rfl) (fun z hz => nomatch hz) rfl (by decide) (htT _ m_cl_L_21) (hTB.use (n_ca _ (by decide))) hce hcv hcl ?_
        refine lv_astore (lv' := [(5, .ref q9), (0, .ref x), (1, .int (nI j)), (2, .int p1), (3, .int p2), (4, .ref qo)]) hx hb dL_need_15 hl (by decide) rfl (fun ls hl => ?_)
        refine lv_iconst (v := 1) hx hb dL_need_17 (by decide) ?_
        exact W.iret (v := 1) hx hb hr (fun t ht hW => ⟨⟨1, (S, fo), rfl, (Or.inr (Or.inr (Or.inl (⟨rfl, j, a, hjn, rfl, hja, hn1, hk1, rfl⟩)))), by rw [ht]; exact hP, va_K.moved hW.alike hK, hD⟩, hS.F ht⟩) hS.2.2 dL_need_18
      · have hi2 : i2 < 8 := by have := h.n8; omega
        rcases kOut_01 p2 0 (gI S b2 2 - 1) with hv | hv
        · by_cases hlt : nI i2 < nI j
          · refine kj_i (List.Perm.refl _) (va_runV (As := [.int (nI j), .int (nI i2), .int p2]) (rest := [.int 0, .ref qo]) ⟨hx, hb, hml, hown, htT⟩ (c_need l D cA _ S x h.hx ar h.q0 ak h.q1 h.kk h.R j hj a hja (nI j) hsw (nI i2) p2 hn1 b2 hs2 i2 hi2 hjb hv hlt) (cwV 3 htT (kg_V m_ml_L_34 m_im_X5_need m_sl_X5_need m_in_X5 m_cd_X5_need) rfl rfl rfl (by decide +kernel) ⟨Nat.le_of_ble_eq_true rfl, Nat.le_of_ble_eq_true rfl⟩) (kj_V (List.Perm.refl _) hK hP hD hTB (kj_rc (List.Perm.refl _) hK hP h.hx (Nat.le_of_ble_eq_true rfl) rfl)) rfl rfl hl.1 rfl (lv_room (Nat.le_of_ble_eq_true rfl)) dL_need_7 ⟨Nat.le_of_ble_eq_true rfl, Nat.le_of_ble_eq_true rfl⟩) hP hD hS hA (fun r_2 x_2 H locs hq_2 hP hD hS => ?_)
            refine lv_i2l (v := r_2.toInt64) hx hb dL_need_10 rfl ?_
            refine kw_last hx hb hK hP hD hS dL_need_11 (fun H locs hP hD hS => ?_)
            refine lv_goto (tgt := 23) hx hb dL_need_12 (by decide) ?_
            refine lv_iconst (v := 0) hx hb dL_need_23 (by decide) ?_
            refine W.widen (k := 1) (n := 6) (Nat.le_of_ble_eq_true rfl) (Nat.le_of_ble_eq_true rfl) ?_
            exact W.iret (v := 0) hx hb hr (fun t ht hW => ⟨⟨0, (x_2, vp_updL fo 0 r_2.toInt64), rfl, (Or.inr (Or.inr (Or.inr (Or.inr (Or.inl (⟨rfl, j, a, i2, b2, hjn, rfl, hja, hi2n, rfl, hjb, hv, hlt, hq_2.2, by rw [hq_2.1]⟩)))))), by rw [ht]; exact hP, va_K.moved hW.alike hK, hD⟩, hS.F ht⟩) hS.2.2 dL_need_24
          · refine kj_t (List.Perm.refl _) (vx_runV (As := [.int (nI j), .int (nI i2), .int p2]) (rest := [.int 0, .ref qo]) ⟨hx, hb, hml, hown, htT⟩ (c_need_2 l hst D cA _ S x h.hx ar h.q0 ak h.q1 h.kk h.R j hj a hja (nI j) hsw (nI i2) p2 hn1 b2 hs2 i2 hi2 hjb hv hlt) (cwV 3 htT (kg_V m_ml_L_34 m_im_X5_need m_sl_X5_need m_in_X5 m_cd_X5_need) rfl rfl rfl (by decide +kernel) ⟨Nat.le_of_ble_eq_true rfl, Nat.le_of_ble_eq_true rfl⟩) (kj_VX (List.Perm.refl _) hK hP hD hTB hTX hS hA (kj_rc (List.Perm.refl _) hK hP h.hx (Nat.le_of_ble_eq_true rfl) rfl)) rfl rfl hl.1 rfl (lv_room (Nat.le_of_ble_eq_true rfl)) dL_need_7 ⟨Nat.le_of_ble_eq_true rfl, Nat.le_of_ble_eq_true rfl⟩) hP hD hS hA (fun ce q9 H locs hP hD hS hce hcv hcl => ?_)
            refine vx_catch hown [⟨0, 12, 15, 21⟩] ⟨0, 12, 19, 13⟩ [] (hTab.trans rfl) (fun z hz => by obtain rfl := List.mem_singleton.mp hz; first | exact Or.inr ⟨by decide, _, htT _ m_cl_L_21, hTX.2.2.2 ("java/lang/IllegalArgumentException", "java/lang/IndexOutOfBoundsException") (by decide +kernel)⟩) rfl (by decide) (htT _ m_cl_L_13) (hTB.use (n_ca _ (by decide))) hce hcv hcl ?_
            refine lv_astore (lv' := [(5, .ref q9), (0, .ref x), (1, .int (nI j)), (2, .int (nI i2)), (3, .int p2), (4, .ref qo)]) hx hb dL_need_19 hl (by decide) rfl (fun ls hl => ?_)
            refine lv_iconst (v := 2) hx hb dL_need_21 (by decide) ?_
            exact W.iret (v := 2) hx hb hr (fun t ht hW => ⟨⟨2, (S, fo), rfl, (Or.inr (Or.inr (Or.inr (Or.inr (Or.inr (⟨rfl, j, a, i2, b2, hjn, rfl, hja, hi2n, rfl, hjb, hv, hlt, rfl⟩)))))), by rw [ht]; exact hP, va_K.moved hW.alike hK, hD⟩, hS.F ht⟩) hS.2.2 dL_need_22
        · refine kj_t (List.Perm.refl _) (vx_runV (As := [.int (nI j), .int (nI i2), .int p2]) (rest := [.int 0, .ref qo]) ⟨hx, hb, hml, hown, htT⟩ (c_need_v l hst D cA _ S x h.hx ar h.q0 ak h.q1 h.kk h.R j hj a hja (nI j) hsw (nI i2) p2 hn1 b2 hs2 i2 hi2 hjb hv) (cwV 3 htT (kg_V m_ml_L_34 m_im_X5_need m_sl_X5_need m_in_X5 m_cd_X5_need) rfl rfl rfl (by decide +kernel) ⟨Nat.le_of_ble_eq_true rfl, Nat.le_of_ble_eq_true rfl⟩) (kj_VX (List.Perm.refl _) hK hP hD hTB hTX hS hA (kj_rc (List.Perm.refl _) hK hP h.hx (Nat.le_of_ble_eq_true rfl) rfl)) rfl rfl hl.1 rfl (lv_room (Nat.le_of_ble_eq_true rfl)) dL_need_7 ⟨Nat.le_of_ble_eq_true rfl, Nat.le_of_ble_eq_true rfl⟩) hP hD hS hA (fun ce q9 H locs hP hD hS hce hcv hcl => ?_)
          refine vx_catch hown [] ⟨0, 12, 15, 21⟩ [⟨0, 12, 19, 13⟩] (hTab.trans rfl) (fun z hz => nomatch hz) rfl (by decide) (htT _ m_cl_L_21) (hTB.use (n_ca _ (by decide))) hce hcv hcl ?_
          refine lv_astore (lv' := [(5, .ref q9), (0, .ref x), (1, .int (nI j)), (2, .int (nI i2)), (3, .int p2), (4, .ref qo)]) hx hb dL_need_15 hl (by decide) rfl (fun ls hl => ?_)
          refine lv_iconst (v := 1) hx hb dL_need_17 (by decide) ?_
          exact W.iret (v := 1) hx hb hr (fun t ht hW => ⟨⟨1, (S, fo), rfl, (Or.inr (Or.inr (Or.inr (Or.inl (⟨rfl, j, a, i2, b2, hjn, rfl, hja, hi2n, rfl, hjb, hv, rfl⟩))))), by rw [ht]; exact hP, va_K.moved hW.alike hK, hD⟩, hS.F ht⟩) hS.2.2 dL_need_18

set_option maxRecDepth 100000 in
set_option maxHeartbeats 4000000 in
theorem w_rule (l : Launch) (hst : l.stackTraces = false) (D : va_G) (cA : Nat → ClassId) (sz : Nat) (S : Pool) (x qo : Nat) (fo : Nat → Int64) (n na : Nat) (hh cc : Int32) (ar ak : Nat) (h : INVC n na hh cc S x ar ak) (p0 p1 p2 p3 p4 : Int32) : Met l yL_rule (Cond.codeWith yL_rule cL_rule 8 (some .int) [(0, 16, 19, 21), (0, 16, 23, 13), (0, 16, 27, 15)] :: TT) ({ frames := 8, cells := 1, slots := 6, locals := 130 }) (va_Pc [.ref x, .int p0, .int p1, .int p2, .int p3, .int p4, .ref qo] (kPreX D cA (PW cA S ++ [oJ cA qo fo]) sz)) (va_Qi (fun (r_ : Int32) (x_ : Pool × (Nat → Int64)) => (r_ = 1 ∧ kIn p0 0 (nI n - 1) = 0 ∧ x_.1 = S) ∨ (r_ = 1 ∧ ∃ j a, j < n ∧ p0 = nI j ∧ gP S ar j = some a ∧ ¬ p4 = -1 ∧ kOut p4 0 (gI S a 2 - 1) = 1 ∧ x_.1 = S) ∨ (r_ = 2 ∧ ∃ j a, j < n ∧ p0 = nI j ∧ gP S ar j = some a ∧ (p4 = -1 ∨ kOut p4 0 (gI S a 2 - 1) = 0) ∧ kRul p1 p2 p3 = 0 ∧ x_.1 = S) ∨ (r_ = 0 ∧ ∃ j a rc q, j < n ∧ p0 = nI j ∧ gP S ar j = some a ∧ (p4 = -1 ∨ kOut p4 0 (gI S a 2 - 1) = 0) ∧ kRul p1 p2 p3 = 1 ∧ rc < 5 ∧ gI S a 8 = nI rc ∧ q ∉ gL S ∧ x_.1 = pI (pP (pI (pI (pI (pI (pW S q 2 0) q 0 p1) q 1 p2) q 2 p3) q 3 p4) (rlA S a) rc (some q)) a 8 (nI (rc + 1)) ∧ x_.2 = vp_updL fo 0 (nI (rc + 1)).toInt64) ∨ (r_ = 3 ∧ ∃ j a rc, j < n ∧ p0 = nI j ∧ gP S ar j = some a ∧ (p4 = -1 ∨ kOut p4 0 (gI S a 2 - 1) = 0) ∧ kRul p1 p2 p3 = 1 ∧ rc = 5 ∧ gI S a 8 = nI rc ∧ x_.1 = S)) (fun x_ => kB D cA (va_A (PW cA S ++ [oJ cA qo fo]) sz) (PW cA x_.1 ++ [oJ cA qo x_.2])) (va_A (PW cA S ++ [oJ cA qo fo]) sz)) 1 6 (va_A (PW cA S ++ [oJ cA qo fo]) sz) := by
  refine kt_ofWH (cc := cL_rule) (maxL := 8) (ret := (some .int)) (by decide) rfl ?_
  intro p e s m args below meth c s₁ B hml hTab hv
  obtain ⟨rfl, ⟨hsz, hP, hK, hD0, hTB⟩, hTX⟩ := hv
  have hx := B.exec
  have hb := B.bytes
  have hr := B.returns
  have hts := atoms_spec (ws := Cond.codeWith yL_rule cL_rule 8 (some .int) [(0, 16, 19, 21), (0, 16, 23, 13), (0, 16, 27, 15)] :: TT) B.pre
  have htT : ∀ w ∈ TT, w.before _ s = true := fun w h => hts w (List.mem_cons_of_mem _ h)
  have hown : s.vm.findClass RL = some m.cls := findClass_of_methodNamed B.named
  have hlocks := B.notSynchronized
  subst hsz
  have hD := hD0.self (sz := s.heap.size)
  generalize hAe : va_A (PW cA S ++ [oJ cA qo fo]) s.heap.size = A at hD hTX ⊢
  have hA : ∀ q : Nat, s.heap.size ≤ q → A q := fun q h => by rw [← hAe]; exact Or.inr h
  have hS : va_S A s.heap s.heap [] := va_S.rf
  have hl := lv_entry ([.ref x, .int p0, .int p1, .int p2, .int p3, .int p4, .ref qo]) (n := 8) (Nat.le_of_ble_eq_true rfl)
  rw [lg_entry_eq]
  generalize (lg_sl ([.ref x, .int p0, .int p1, .int p2, .int p3, .int p4, .ref qo]) ++ List.replicate (8 - (lg_sl ([.ref x, .int p0, .int p1, .int p2, .int p3, .int p4, .ref qo])).length) Slot.unset).toArray = ls at hl ⊢
  have hl : lv_has ls 8 [(0, .ref x), (1, .int p0), (2, .int p1), (3, .int p2), (4, .int p3), (5, .int p4), (6, .ref qo)] := hl
  refine lv_aload hx hb dL_rule_0 (lv_at hl 6 rfl) ?_
  refine lv_iconst (v := 0) hx hb dL_rule_2 (by decide) ?_
  refine lv_aload_n hx hb dL_rule_3 rfl (lv_at hl 0 rfl) ?_
  refine lv_iload_n hx hb dL_rule_4 rfl (lv_at hl 1 rfl) ?_
  refine lv_iload_n hx hb dL_rule_5 rfl (lv_at hl 2 rfl) ?_
  refine lv_iload_n hx hb dL_rule_6 rfl (lv_at hl 3 rfl) ?_
  refine lv_iload hx hb dL_rule_7 (lv_at hl 4 rfl) ?_
  refine lv_iload hx hb dL_rule_9 (lv_at hl 5 rfl) ?_
  rcases h.at p0 with ⟨hsw, hk0⟩ | ⟨j, a, hjn, rfl, hja, hsw⟩
  · refine kj_t (List.Perm.refl _) (vx_runV (As := [.int p0, .int p1, .int p2, .int p3, .int p4]) (rest := [.int 0, .ref qo]) ⟨hx, hb, hml, hown, htT⟩ (c_rule_t l hst D cA _ S x h.hx ar h.q0 h.R.1 p0 p1 p2 p3 p4 hsw) (cwV 5 htT (kg_V m_ml_L_37 m_im_X5_rule m_sl_X5_rule m_in_X5 m_cd_X5_rule) rfl rfl rfl (by decide +kernel) ⟨Nat.le_of_ble_eq_true rfl, Nat.le_of_ble_eq_true rfl⟩) (kj_VX (List.Perm.refl _) hK hP hD hTB hTX hS hA (kj_rc (List.Perm.refl _) hK hP h.hx (Nat.le_of_ble_eq_true rfl) rfl)) rfl rfl hl.1 rfl (lv_room (Nat.le_of_ble_eq_true rfl)) dL_rule_11 ⟨Nat.le_of_ble_eq_true rfl, Nat.le_of_ble_eq_true rfl⟩) hP hD hS hA (fun ce q9 H locs hP hD hS hce hcv hcl => ?_)
    refine vx_catch hown [] ⟨0, 16, 19, 21⟩ [⟨0, 16, 23, 13⟩, ⟨0, 16, 27, 15⟩] (hTab.trans rfl) (fun z hz => nomatch hz) rfl (by decide) (htT _ m_cl_L_21) (hTB.use (n_ca _ (by decide))) hce hcv hcl ?_
    refine lv_astore (lv' := [(7, .ref q9), (0, .ref x), (1, .int p0), (2, .int p1), (3, .int p2), (4, .int p3), (5, .int p4), (6, .ref qo)]) hx hb dL_rule_19 hl (by decide) rfl (fun ls hl => ?_)
    refine lv_iconst (v := 1) hx hb dL_rule_21 (by decide) ?_
    exact W.iret (v := 1) hx hb hr (fun t ht hW => ⟨⟨1, (S, fo), rfl, (Or.inl (⟨rfl, hk0, rfl⟩)), by rw [ht]; exact hP, va_K.moved hW.alike hK, hD⟩, hS.F ht⟩) hS.2.2 dL_rule_22
  · have hj : j < 8 := by have := h.n8; omega
    by_cases hn4 : p4 = -1
    · rcases kRul_01 p1 p2 p3 with hbad | hbad
      · refine kj_t (List.Perm.refl _) (vx_runV (As := [.int (nI j), .int p1, .int p2, .int p3, .int p4]) (rest := [.int 0, .ref qo]) ⟨hx, hb, hml, hown, htT⟩ (c_rule_1 l hst D cA _ S x h.hx ar h.q0 ak h.q1 h.kk h.R j hj a hja (nI j) hsw p1 p2 p3 p4 (Or.inl hn4) hbad) (cwV 5 htT (kg_V m_ml_L_37 m_im_X5_rule m_sl_X5_rule m_in_X5 m_cd_X5_rule) rfl rfl rfl (by decide +kernel) ⟨Nat.le_of_ble_eq_true rfl, Nat.le_of_ble_eq_true rfl⟩) (kj_VX (List.Perm.refl _) hK hP hD hTB hTX hS hA (kj_rc (List.Perm.refl _) hK hP h.hx (Nat.le_of_ble_eq_true rfl) rfl)) rfl rfl hl.1 rfl (lv_room (Nat.le_of_ble_eq_true rfl)) dL_rule_11 ⟨Nat.le_of_ble_eq_true rfl, Nat.le_of_ble_eq_true rfl⟩) hP hD hS hA (fun ce q9 H locs hP hD hS hce hcv hcl => ?_)
        refine vx_catch hown [⟨0, 16, 19, 21⟩] ⟨0, 16, 23, 13⟩ [⟨0, 16, 27, 15⟩] (hTab.trans rfl) (fun z hz => by obtain rfl := List.mem_singleton.mp hz; first | exact Or.inr ⟨by decide, _, htT _ m_cl_L_21, hTX.2.2.2 ("java/lang/IllegalArgumentException", "java/lang/IndexOutOfBoundsException") (by decide +kernel)⟩) rfl (by decide) (htT _ m_cl_L_13) (hTB.use (n_ca _ (by decide))) hce hcv hcl ?_
        refine lv_astore (lv' := [(7, .ref q9), (0, .ref x), (1, .int (nI j)), (2, .int p1), (3, .int p2), (4, .int p3), (5, .int p4), (6, .ref qo)]) hx hb dL_rule_23 hl (by decide) rfl (fun ls hl => ?_)
        refine lv_iconst (v := 2) hx hb dL_rule_25 (by decide) ?_
        exact W.iret (v := 2) hx hb hr (fun t ht hW => ⟨⟨2, (S, fo), rfl, (Or.inr (Or.inr (Or.inl (⟨rfl, j, a, hjn, rfl, hja, (Or.inl hn4), hbad, rfl⟩)))), by rw [ht]; exact hP, va_K.moved hW.alike hK, hD⟩, hS.F ht⟩) hS.2.2 dL_rule_26
      · obtain ⟨-, -, ⟨rc, hrc, h8⟩⟩ := h.s j hj a hja
        by_cases hrc5 : rc < 5
        · refine kj_i (List.Perm.refl _) (va_runV (As := [.int (nI j), .int p1, .int p2, .int p3, .int p4]) (rest := [.int 0, .ref qo]) ⟨hx, hb, hml, hown, htT⟩ (c_rule l D cA _ S x h.hx ar h.q0 ak h.q1 h.kk h.R j hj a hja (nI j) hsw p1 p2 p3 p4 (Or.inl hn4) hbad rc hrc5 h8) (cwV 5 htT (kg_V m_ml_L_37 m_im_X5_rule m_sl_X5_rule m_in_X5 m_cd_X5_rule) rfl rfl rfl (by decide +kernel) ⟨Nat.le_of_ble_eq_true rfl, Nat.le_of_ble_eq_true rfl⟩) (kj_V (List.Perm.refl _) hK hP hD hTB (kj_rc (List.Perm.refl _) hK hP h.hx (Nat.le_of_ble_eq_true rfl) rfl)) rfl rfl hl.1 rfl (lv_room (Nat.le_of_ble_eq_true rfl)) dL_rule_11 ⟨Nat.le_of_ble_eq_true rfl, Nat.le_of_ble_eq_true rfl⟩) hP hD hS hA (fun r_1 x_1 H locs hq_1 hP hD hS => ?_)
          refine lv_i2l (v := r_1.toInt64) hx hb dL_rule_14 rfl ?_
          refine kw_last hx hb hK hP hD hS dL_rule_15 (fun H locs hP hD hS => ?_)
          refine lv_goto (tgt := 31) hx hb dL_rule_16 (by decide) ?_
          refine lv_iconst (v := 0) hx hb dL_rule_31 (by decide) ?_
          refine W.widen (k := 1) (n := 6) (Nat.le_of_ble_eq_true rfl) (Nat.le_of_ble_eq_true rfl) ?_
          exact W.iret (v := 0) hx hb hr (fun t ht hW => ⟨⟨0, (x_1, vp_updL fo 0 r_1.toInt64), rfl, (by obtain ⟨er9, q, hq, e9⟩ := hq_1; exact (Or.inr (Or.inr (Or.inr (Or.inl (⟨rfl, j, a, rc, q, hjn, rfl, hja, (Or.inl hn4), hbad, hrc5, h8, hq, e9, by rw [er9]⟩)))))), by rw [ht]; exact hP, va_K.moved hW.alike hK, hD⟩, hS.F ht⟩) hS.2.2 dL_rule_32
        · refine kj_t (List.Perm.refl _) (vx_runV (As := [.int (nI j), .int p1, .int p2, .int p3, .int p4]) (rest := [.int 0, .ref qo]) ⟨hx, hb, hml, hown, htT⟩ (c_rule_2 l hst D cA _ S x h.hx ar h.q0 ak h.q1 h.kk h.R j hj a hja (nI j) hsw p1 p2 p3 p4 (Or.inl hn4) hbad (by rw [h8]; exact fun h9 => hrc5 ((nI_ltI (a := rc) (b := 5) (by omega) (by omega)).mp h9))) (cwV 5 htT (kg_V m_ml_L_37 m_im_X5_rule m_sl_X5_rule m_in_X5 m_cd_X5_rule) rfl rfl rfl (by decide +kernel) ⟨Nat.le_of_ble_eq_true rfl, Nat.le_of_ble_eq_true rfl⟩) (kj_VX (List.Perm.refl _) hK hP hD hTB hTX hS hA (kj_rc (List.Perm.refl _) hK hP h.hx (Nat.le_of_ble_eq_true rfl) rfl)) rfl rfl hl.1 rfl (lv_room (Nat.le_of_ble_eq_true rfl)) dL_rule_11 ⟨Nat.le_of_ble_eq_true rfl, Nat.le_of_ble_eq_true rfl⟩) hP hD hS hA (fun ce q9 H locs hP hD hS hce hcv hcl => ?_)
          refine vx_catch hown [⟨0, 16, 19, 21⟩, ⟨0, 16, 23, 13⟩] ⟨0, 16, 27, 15⟩ [] (hTab.trans rfl) (fun z hz => by rcases List.mem_cons.mp hz with rfl | hz2 <;> first | exact Or.inr ⟨by decide, _, htT _ m_cl_L_21, hTX.2.2.2 ("java/lang/IllegalStateException", "java/lang/IndexOutOfBoundsException") (by decide +kernel)⟩ | exact Or.inr ⟨by decide, _, htT _ m_cl_L_13, hTX.2.2.2 ("java/lang/IllegalStateException", "java/lang/IllegalArgumentException") (by decide +kernel)⟩ | (obtain rfl := List.mem_singleton.mp hz2; first | exact Or.inr ⟨by decide, _, htT _ m_cl_L_21, hTX.2.2.2 ("java/lang/IllegalStateException", "java/lang/IndexOutOfBoundsException") (by decide +kernel)⟩ | exact Or.inr ⟨by decide, _, htT _ m_cl_L_13, hTX.2.2.2 ("java/lang/IllegalStateException", "java/lang/IllegalArgumentException") (by decide +kernel)⟩)) rfl (by decide) (htT _ m_cl_L_15) (hTB.use (n_ca _ (by decide))) hce hcv hcl ?_
          refine lv_astore (lv' := [(7, .ref q9), (0, .ref x), (1, .int (nI j)), (2, .int p1), (3, .int p2), (4, .int p3), (5, .int p4), (6, .ref qo)]) hx hb dL_rule_27 hl (by decide) rfl (fun ls hl => ?_)
          refine lv_iconst (v := 3) hx hb dL_rule_29 (by decide) ?_
          exact W.iret (v := 3) hx hb hr (fun t ht hW => ⟨⟨3, (S, fo), rfl, (Or.inr (Or.inr (Or.inr (Or.inr (⟨rfl, j, a, rc, hjn, rfl, hja, (Or.inl hn4), hbad, by omega, h8, rfl⟩))))), by rw [ht]; exact hP, va_K.moved hW.alike hK, hD⟩, hS.F ht⟩) hS.2.2 dL_rule_30
    · rcases kOut_01 p4 0 (gI S a 2 - 1) with hv | hv
      · rcases kRul_01 p1 p2 p3 with hbad | hbad
        · refine kj_t (List.Perm.refl _) (vx_runV (As := [.int (nI j), .int p1, .int p2, .int p3, .int p4]) (rest := [.int 0, .ref qo]) ⟨hx, hb, hml, hown, htT⟩ (c_rule_1 l hst D cA _ S x h.hx ar h.q0 ak h.q1 h.kk h.R j hj a hja (nI j) hsw p1 p2 p3 p4 (Or.inr hv) hbad) (cwV 5 htT (kg_V m_ml_L_37 m_im_X5_rule m_sl_X5_rule m_in_X5 m_cd_X5_rule) rfl rfl rfl (by decide +kernel) ⟨Nat.le_of_ble_eq_true rfl, Nat.le_of_ble_eq_true rfl⟩) (kj_VX (List.Perm.refl _) hK hP hD hTB hTX hS hA (kj_rc (List.Perm.refl _) hK hP h.hx (Nat.le_of_ble_eq_true rfl) rfl)) rfl rfl hl.1 rfl (lv_room (Nat.le_of_ble_eq_true rfl)) dL_rule_11 ⟨Nat.le_of_ble_eq_true rfl, Nat.le_of_ble_eq_true rfl⟩) hP hD hS hA (fun ce q9 H locs hP hD hS hce hcv hcl => ?_)
          refine vx_catch hown [⟨0, 16, 19, 21⟩] ⟨0, 16, 23, 13⟩ [⟨0, 16, 27, 15⟩] (hTab.trans rfl) (fun z hz => by obtain rfl := List.mem_singleton.mp hz; first | exact Or.inr ⟨by decide, _, htT _ m_cl_L_21, hTX.2.2.2 ("java/lang/IllegalArgumentException", "java/lang/IndexOutOfBoundsException") (by decide +kernel)⟩) rfl (by decide) (htT _ m_cl_L_13) (hTB.use (n_ca _ (by decide))) hce hcv hcl ?_
          refine lv_astore (lv' := [(7, .ref q9), (0, .ref x), (1, .int (nI j)), (2, .int p1), (3, .int p2), (4, .int p3), (5, .int p4), (6, .ref qo)]) hx hb dL_rule_23 hl (by decide) rfl (fun ls hl => ?_)
          refine lv_iconst (v := 2) hx hb dL_rule_25 (by decide) ?_
          exact W.iret (v := 2) hx hb hr (fun t ht hW => ⟨⟨2, (S, fo), rfl, (Or.inr (Or.inr (Or.inl (⟨rfl, j, a, hjn, rfl, hja, (Or.inr hv), hbad, rfl⟩)))), by rw [ht]; exact hP, va_K.moved hW.alike hK, hD⟩, hS.F ht⟩) hS.2.2 dL_rule_26
        · obtain ⟨-, -, ⟨rc, hrc, h8⟩⟩ := h.s j hj a hja
          by_cases hrc5 : rc < 5
          · refine kj_i (List.Perm.refl _) (va_runV (As := [.int (nI j), .int p1, .int p2, .int p3, .int p4]) (rest := [.int 0, .ref qo]) ⟨hx, hb, hml, hown, htT⟩ (c_rule l D cA _ S x h.hx ar h.q0 ak h.q1 h.kk h.R j hj a hja (nI j) hsw p1 p2 p3 p4 (Or.inr hv) hbad rc hrc5 h8) (cwV 5 htT (kg_V m_ml_L_37 m_im_X5_rule m_sl_X5_rule m_in_X5 m_cd_X5_rule) rfl rfl rfl (by decide +kernel) ⟨Nat.le_of_ble_eq_true rfl, Nat.le_of_ble_eq_true rfl⟩) (kj_V (List.Perm.refl _) hK hP hD hTB (kj_rc (List.Perm.refl _) hK hP h.hx (Nat.le_of_ble_eq_true rfl) rfl)) rfl rfl hl.1 rfl (lv_room (Nat.le_of_ble_eq_true rfl)) dL_rule_11 ⟨Nat.le_of_ble_eq_true rfl, Nat.le_of_ble_eq_true rfl⟩) hP hD hS hA (fun r_2 x_2 H locs hq_2 hP hD hS => ?_)
            refine lv_i2l (v := r_2.toInt64) hx hb dL_rule_14 rfl ?_
            refine kw_last hx hb hK hP hD hS dL_rule_15 (fun H locs hP hD hS => ?_)
            refine lv_goto (tgt := 31) hx hb dL_rule_16 (by decide) ?_
            refine lv_iconst (v := 0) hx hb dL_rule_31 (by decide) ?_
            refine W.widen (k := 1) (n := 6) (Nat.le_of_ble_eq_true rfl) (Nat.le_of_ble_eq_true rfl) ?_
            exact W.iret (v := 0) hx hb hr (fun t ht hW => ⟨⟨0, (x_2, vp_updL fo 0 r_2.toInt64), rfl, (by obtain ⟨er9, q, hq, e9⟩ := hq_2; exact (Or.inr (Or.inr (Or.inr (Or.inl (⟨rfl, j, a, rc, q, hjn, rfl, hja, (Or.inr hv), hbad, hrc5, h8, hq, e9, by rw [er9]⟩)))))), by rw [ht]; exact hP, va_K.moved hW.alike hK, hD⟩, hS.F ht⟩) hS.2.2 dL_rule_32
          · refine kj_t (List.Perm.refl _) (vx_runV (As := [.int (nI j), .int p1, .int p2, .int p3, .int p4]) (rest := [.int 0, .ref qo]) ⟨hx, hb, hml, hown, htT⟩ (c_rule_2 l hst D cA _ S x h.hx ar h.q0 ak h.q1 h.kk h.R j hj a hja (nI j) hsw p1 p2 p3 p4 (Or.inr hv) hbad (by rw [h8]; exact fun h9 => hrc5 ((nI_ltI (a := rc) (b := 5) (by omega) (by omega)).mp h9))) (cwV 5 htT (kg_V m_ml_L_37 m_im_X5_rule m_sl_X5_rule m_in_X5 m_cd_X5_rule) rfl rfl rfl (by decide +kernel) ⟨Nat.le_of_ble_eq_true rfl, Nat.le_of_ble_eq_true rfl⟩) (kj_VX (List.Perm.refl _) hK hP hD hTB hTX hS hA (kj_rc (List.Perm.refl _) hK hP h.hx (Nat.le_of_ble_eq_true rfl) rfl)) rfl rfl hl.1 rfl (lv_room (Nat.le_of_ble_eq_true rfl)) dL_rule_11 ⟨Nat.le_of_ble_eq_true rfl, Nat.le_of_ble_eq_true rfl⟩) hP hD hS hA (fun ce q9 H locs hP hD hS hce hcv hcl => ?_)
            refine vx_catch hown [⟨0, 16, 19, 21⟩, ⟨0, 16, 23, 13⟩] ⟨0, 16, 27, 15⟩ [] (hTab.trans rfl) (fun z hz => by rcases List.mem_cons.mp hz with rfl | hz2 <;> first | exact Or.inr ⟨by decide, _, htT _ m_cl_L_21, hTX.2.2.2 ("java/lang/IllegalStateException", "java/lang/IndexOutOfBoundsException") (by decide +kernel)⟩ | exact Or.inr ⟨by decide, _, htT _ m_cl_L_13, hTX.2.2.2 ("java/lang/IllegalStateException", "java/lang/IllegalArgumentException") (by decide +kernel)⟩ | (obtain rfl := List.mem_singleton.mp hz2; first | exact Or.inr ⟨by decide, _, htT _ m_cl_L_21, hTX.2.2.2 ("java/lang/IllegalStateException", "java/lang/IndexOutOfBoundsException") (by decide +kernel)⟩ | exact Or.inr ⟨by decide, _, htT _ m_cl_L_13, hTX.2.2.2 ("java/lang/IllegalStateException", "java/lang/IllegalArgumentException") (by decide +kernel)⟩)) rfl (by decide) (htT _ m_cl_L_15) (hTB.use (n_ca _ (by decide))) hce hcv hcl ?_
            refine lv_astore (lv' := [(7, .ref q9), (0, .ref x), (1, .int (nI j)), (2, .int p1), (3, .int p2), (4, .int p3), (5, .int p4), (6, .ref qo)]) hx hb dL_rule_27 hl (by decide) rfl (fun ls hl => ?_)
            refine lv_iconst (v := 3) hx hb dL_rule_29 (by decide) ?_
            exact W.iret (v := 3) hx hb hr (fun t ht hW => ⟨⟨3, (S, fo), rfl, (Or.inr (Or.inr (Or.inr (Or.inr (⟨rfl, j, a, rc, hjn, rfl, hja, (Or.inr hv), hbad, by omega, h8, rfl⟩))))), by rw [ht]; exact hP, va_K.moved hW.alike hK, hD⟩, hS.F ht⟩) hS.2.2 dL_rule_30
      · refine kj_t (List.Perm.refl _) (vx_runV (As := [.int (nI j), .int p1, .int p2, .int p3, .int p4]) (rest := [.int 0, .ref qo]) ⟨hx, hb, hml, hown, htT⟩ (c_rule_v l hst D cA _ S x h.hx ar h.q0 ak h.q1 h.kk h.R j hj a hja (nI j) hsw p1 p2 p3 p4 hn4 hv) (cwV 5 htT (kg_V m_ml_L_37 m_im_X5_rule m_sl_X5_rule m_in_X5 m_cd_X5_rule) rfl rfl rfl (by decide +kernel) ⟨Nat.le_of_ble_eq_true rfl, Nat.le_of_ble_eq_true rfl⟩) (kj_VX (List.Perm.refl _) hK hP hD hTB hTX hS hA (kj_rc (List.Perm.refl _) hK hP h.hx (Nat.le_of_ble_eq_true rfl) rfl)) rfl rfl hl.1 rfl (lv_room (Nat.le_of_ble_eq_true rfl)) dL_rule_11 ⟨Nat.le_of_ble_eq_true rfl, Nat.le_of_ble_eq_true rfl⟩) hP hD hS hA (fun ce q9 H locs hP hD hS hce hcv hcl => ?_)
        refine vx_catch hown [] ⟨0, 16, 19, 21⟩ [⟨0, 16, 23, 13⟩, ⟨0, 16, 27, 15⟩] (hTab.trans rfl) (fun z hz => nomatch hz) rfl (by decide) (htT _ m_cl_L_21) (hTB.use (n_ca _ (by decide))) hce hcv hcl ?_
        refine lv_astore (lv' := [(7, .ref q9), (0, .ref x), (1, .int (nI j)), (2, .int p1), (3, .int p2), (4, .int p3), (5, .int p4), (6, .ref qo)]) hx hb dL_rule_19 hl (by decide) rfl (fun ls hl => ?_)
        refine lv_iconst (v := 1) hx hb dL_rule_21 (by decide) ?_
        exact W.iret (v := 1) hx hb hr (fun t ht hW => ⟨⟨1, (S, fo), rfl, (Or.inr (Or.inl (⟨rfl, j, a, hjn, rfl, hja, hn4, hv, rfl⟩))), by rw [ht]; exact hP, va_K.moved hW.alike hK, hD⟩, hS.F ht⟩) hS.2.2 dL_rule_22

set_option maxRecDepth 100000 in
set_option maxHeartbeats 4000000 in
theorem w_unrule (l : Launch) (hst : l.stackTraces = false) (D : va_G) (cA : Nat → ClassId) (sz : Nat) (S : Pool) (x qo : Nat) (fo : Nat → Int64) (n na : Nat) (hh cc : Int32) (ar ak : Nat) (h : INVC n na hh cc S x ar ak) (p0 p1 : Int32) : Met l yL_unrule (Cond.codeWith yL_unrule cL_unrule 5 (some .int) [(0, 10, 13, 21)] :: TT) ({ frames := 8, cells := 1, slots := 6, locals := 127 }) (va_Pc [.ref x, .int p0, .int p1, .ref qo] (kPreX D cA (PW cA S ++ [oJ cA qo fo]) sz)) (va_Qi (fun (r_ : Int32) (x_ : Pool × (Nat → Int64)) => (r_ = 1 ∧ kIn p0 0 (nI n - 1) = 0 ∧ x_.1 = S) ∨ (r_ = 1 ∧ ∃ j a rc, j < n ∧ p0 = nI j ∧ gP S ar j = some a ∧ rc ≤ 5 ∧ gI S a 8 = nI rc ∧ kOut p1 0 (nI rc - 1) = 1 ∧ x_.1 = S) ∨ (r_ = 0 ∧ ∃ j a rc k, j < n ∧ p0 = nI j ∧ gP S ar j = some a ∧ rc ≤ 5 ∧ gI S a 8 = nI rc ∧ k < rc ∧ p1 = nI k ∧ x_.1 = pI (cRem S (rlA S a) k 5) a 8 (nI (rc - 1)) ∧ x_.2 = vp_updL fo 0 (nI (rc - 1)).toInt64)) (fun x_ => kB D cA (va_A (PW cA S ++ [oJ cA qo fo]) sz) (PW cA x_.1 ++ [oJ cA qo x_.2])) (va_A (PW cA S ++ [oJ cA qo fo]) sz)) 1 6 (va_A (PW cA S ++ [oJ cA qo fo]) sz) := by
  refine kt_ofWH (cc := cL_unrule) (maxL := 5) (ret := (some .int)) (by decide) rfl ?_
  intro p e s m args below meth c s₁ B hml hTab hv
  obtain ⟨rfl, ⟨hsz, hP, hK, hD0, hTB⟩, hTX⟩ := hv
  have hx := B.exec
  have hb := B.bytes
  have hr := B.returns
  have hts := atoms_spec (ws := Cond.codeWith yL_unrule cL_unrule 5 (some .int) [(0, 10, 13, 21)] :: TT) B.pre
  have htT : ∀ w ∈ TT, w.before _ s = true := fun w h => hts w (List.mem_cons_of_mem _ h)
  have hown : s.vm.findClass RL = some m.cls := findClass_of_methodNamed B.named
  have hlocks := B.notSynchronized
  subst hsz
  have hD := hD0.self (sz := s.heap.size)
  generalize hAe : va_A (PW cA S ++ [oJ cA qo fo]) s.heap.size = A at hD hTX ⊢
  have hA : ∀ q : Nat, s.heap.size ≤ q → A q := fun q h => by rw [← hAe]; exact Or.inr h
  have hS : va_S A s.heap s.heap [] := va_S.rf
  have hl := lv_entry ([.ref x, .int p0, .int p1, .ref qo]) (n := 5) (Nat.le_of_ble_eq_true rfl)
  rw [lg_entry_eq]
  generalize (lg_sl ([.ref x, .int p0, .int p1, .ref qo]) ++ List.replicate (5 - (lg_sl ([.ref x, .int p0, .int p1, .ref qo])).length) Slot.unset).toArray = ls at hl ⊢
  have hl : lv_has ls 5 [(0, .ref x), (1, .int p0), (2, .int p1), (3, .ref qo)] := hl
  refine lv_aload_n hx hb dL_unrule_0 rfl (lv_at hl 3 rfl) ?_
  refine lv_iconst (v := 0) hx hb dL_unrule_1 (by decide) ?_
  refine lv_aload_n hx hb dL_unrule_2 rfl (lv_at hl 0 rfl) ?_
  refine lv_iload_n hx hb dL_unrule_3 rfl (lv_at hl 1 rfl) ?_
  refine lv_iload_n hx hb dL_unrule_4 rfl (lv_at hl 2 rfl) ?_
  rcases h.at p0 with ⟨hsw, hk0⟩ | ⟨j, a, hjn, rfl, hja, hsw⟩
  · refine kj_t (List.Perm.refl _) (vx_runV (As := [.int p0, .int p1]) (rest := [.int 0, .ref qo]) ⟨hx, hb, hml, hown, htT⟩ (c_unrule_t l hst D cA _ S x h.hx ar h.q0 h.R.1 p0 p1 hsw) (cwV 2 htT (kg_V m_ml_L_41 m_im_X5_unrule m_sl_X5_unrule m_in_X5 m_cd_X5_unrule) rfl rfl rfl (by decide +kernel) ⟨Nat.le_of_ble_eq_true rfl, Nat.le_of_ble_eq_true rfl⟩) (kj_VX (List.Perm.refl _) hK hP hD hTB hTX hS hA (kj_rc (List.Perm.refl _) hK hP h.hx (Nat.le_of_ble_eq_true rfl) rfl)) rfl rfl hl.1 rfl (lv_room (Nat.le_of_ble_eq_true rfl)) dL_unrule_5 ⟨Nat.le_of_ble_eq_true rfl, Nat.le_of_ble_eq_true rfl⟩) hP hD hS hA (fun ce q9 H locs hP hD hS hce hcv hcl => ?_)
    refine vx_catch hown [] ⟨0, 10, 13, 21⟩ [] (hTab.trans rfl) (fun z hz => nomatch hz) rfl (by decide) (htT _ m_cl_L_21) (hTB.use (n_ca _ (by decide))) hce hcv hcl ?_
    refine lv_astore (lv' := [(4, .ref q9), (0, .ref x), (1, .int p0), (2, .int p1), (3, .ref qo)]) hx hb dL_unrule_13 hl (by decide) rfl (fun ls hl => ?_)
    refine lv_iconst (v := 1) hx hb dL_unrule_15 (by decide) ?_
    exact W.iret (v := 1) hx hb hr (fun t ht hW => ⟨⟨1, (S, fo), rfl, (Or.inl (⟨rfl, hk0, rfl⟩)), by rw [ht]; exact hP, va_K.moved hW.alike hK, hD⟩, hS.F ht⟩) hS.2.2 dL_unrule_16
  · have hj : j < 8 := by have := h.n8; omega
    obtain ⟨-, -, ⟨rc, hrc, h8⟩⟩ := h.s j hj a hja
    rcases kOut_01 p1 0 (gI S a 8 - 1) with h1 | h1
    · obtain ⟨k, hk, rfl⟩ := kOut_sub1 (k := rc) (v := p1) (by rw [← h8]; exact h1) (by omega)
      have e89 : gI S a 8 - 1 = nI (rc - 1) := by rw [h8]; exact pk_sub (a := rc) (b := 1) (by omega)
      refine kj_i (List.Perm.refl _) (va_runV (As := [.int (nI j), .int (nI k)]) (rest := [.int 0, .ref qo]) ⟨hx, hb, hml, hown, htT⟩ (c_unrule l D cA _ S x h.hx ar h.q0 ak h.q1 h.kk h.R j hj a hja (nI j) hsw k (by omega) h1) (cwV 2 htT (kg_V m_ml_L_41 m_im_X5_unrule m_sl_X5_unrule m_in_X5 m_cd_X5_unrule) rfl rfl rfl (by decide +kernel) ⟨Nat.le_of_ble_eq_true rfl, Nat.le_of_ble_eq_true rfl⟩) (kj_V (List.Perm.refl _) hK hP hD hTB (kj_rc (List.Perm.refl _) hK hP h.hx (Nat.le_of_ble_eq_true rfl) rfl)) rfl rfl hl.1 rfl (lv_room (Nat.le_of_ble_eq_true rfl)) dL_unrule_5 ⟨Nat.le_of_ble_eq_true rfl, Nat.le_of_ble_eq_true rfl⟩) hP hD hS hA (fun r_1 x_1 H locs hq_1 hP hD hS => ?_)
      refine lv_i2l (v := r_1.toInt64) hx hb dL_unrule_8 rfl ?_
      refine kw_last hx hb hK hP hD hS dL_unrule_9 (fun H locs hP hD hS => ?_)
      refine lv_goto (tgt := 17) hx hb dL_unrule_10 (by decide) ?_
      refine lv_iconst (v := 0) hx hb dL_unrule_17 (by decide) ?_
      refine W.widen (k := 1) (n := 6) (Nat.le_of_ble_eq_true rfl) (Nat.le_of_ble_eq_true rfl) ?_
      exact W.iret (v := 0) hx hb hr (fun t ht hW => ⟨⟨0, (x_1, vp_updL fo 0 r_1.toInt64), rfl, (Or.inr (Or.inr (⟨rfl, j, a, rc, k, hjn, rfl, hja, hrc, h8, hk, rfl, by rw [hq_1.2, e89], by rw [hq_1.1, e89]⟩))), by rw [ht]; exact hP, va_K.moved hW.alike hK, hD⟩, hS.F ht⟩) hS.2.2 dL_unrule_18
    · refine kj_t (List.Perm.refl _) (vx_runV (As := [.int (nI j), .int p1]) (rest := [.int 0, .ref qo]) ⟨hx, hb, hml, hown, htT⟩ (c_unrule_1 l hst D cA _ S x h.hx ar h.q0 ak h.q1 h.kk h.R j hj a hja (nI j) hsw p1 h1) (cwV 2 htT (kg_V m_ml_L_41 m_im_X5_unrule m_sl_X5_unrule m_in_X5 m_cd_X5_unrule) rfl rfl rfl (by decide +kernel) ⟨Nat.le_of_ble_eq_true rfl, Nat.le_of_ble_eq_true rfl⟩) (kj_VX (List.Perm.refl _) hK hP hD hTB hTX hS hA (kj_rc (List.Perm.refl _) hK hP h.hx (Nat.le_of_ble_eq_true rfl) rfl)) rfl rfl hl.1 rfl (lv_room (Nat.le_of_ble_eq_true rfl)) dL_unrule_5 ⟨Nat.le_of_ble_eq_true rfl, Nat.le_of_ble_eq_true rfl⟩) hP hD hS hA (fun ce q9 H locs hP hD hS hce hcv hcl => ?_)
      refine vx_catch hown [] ⟨0, 10, 13, 21⟩ [] (hTab.trans rfl) (fun z hz => nomatch hz) rfl (by decide) (htT _ m_cl_L_21) (hTB.use (n_ca _ (by decide))) hce hcv hcl ?_
      refine lv_astore (lv' := [(4, .ref q9), (0, .ref x), (1, .int (nI j)), (2, .int p1), (3, .ref qo)]) hx hb dL_unrule_13 hl (by decide) rfl (fun ls hl => ?_)
      refine lv_iconst (v := 1) hx hb dL_unrule_15 (by decide) ?_
      exact W.iret (v := 1) hx hb hr (fun t ht hW => ⟨⟨1, (S, fo), rfl, (Or.inr (Or.inl (⟨rfl, j, a, rc, hjn, rfl, hja, hrc, h8, by rw [← h8]; exact h1, rfl⟩))), by rw [ht]; exact hP, va_K.moved hW.alike hK, hD⟩, hS.F ht⟩) hS.2.2 dL_unrule_16

set_option maxRecDepth 100000 in
set_option maxHeartbeats 4000000 in
theorem w_weigh (l : Launch) (hst : l.stackTraces = false) (D : va_G) (cA : Nat → ClassId) (sz : Nat) (S : Pool) (x qo : Nat) (fo : Nat → Int64) (n na : Nat) (hh cc : Int32) (ar ak : Nat) (h : INVC n na hh cc S x ar ak) (p0 p1 p2 : Int32) : Met l yL_weigh (Cond.codeWith yL_weigh cL_weigh 6 (some .int) [(0, 12, 15, 21), (0, 12, 19, 13)] :: TT) ({ frames := 8, cells := 1, slots := 6, locals := 129 }) (va_Pc [.ref x, .int p0, .int p1, .int p2, .ref qo] (kPreX D cA (PW cA S ++ [oJ cA qo fo]) sz)) (va_Qi (fun (r_ : Int32) (x_ : Pool × (Nat → Int64)) => (r_ = 1 ∧ kIn p0 0 (nI n - 1) = 0 ∧ x_.1 = S) ∨ (r_ = 1 ∧ ∃ j a, j < n ∧ p0 = nI j ∧ gP S ar j = some a ∧ kOut p1 0 (gI S a 2 - 1) = 1 ∧ x_.1 = S) ∨ (r_ = 2 ∧ ∃ j a, j < n ∧ p0 = nI j ∧ gP S ar j = some a ∧ p1 = 0 ∧ kOut 0 0 (gI S a 2 - 1) = 0 ∧ x_.1 = S) ∨ (r_ = 2 ∧ ∃ j a v, j < n ∧ p0 = nI j ∧ gP S ar j = some a ∧ v < 4 ∧ v ≠ 0 ∧ p1 = nI v ∧ kOut (nI v) 0 (gI S a 2 - 1) = 0 ∧ kOut p2 0 1000 = 1 ∧ x_.1 = S) ∨ (r_ = 2 ∧ ∃ j a v, j < n ∧ p0 = nI j ∧ gP S ar j = some a ∧ v < 4 ∧ v ≠ 0 ∧ p1 = nI v ∧ kOut (nI v) 0 (gI S a 2 - 1) = 0 ∧ kOut p2 0 1000 = 0 ∧ cWt S (wtA S a) 0 + cWt S (wtA S a) (nI v) - p2 < 0 ∧ x_.1 = S) ∨ (r_ = 0 ∧ ∃ j a v, j < n ∧ p0 = nI j ∧ gP S ar j = some a ∧ v < 4 ∧ v ≠ 0 ∧ p1 = nI v ∧ kOut (nI v) 0 (gI S a 2 - 1) = 0 ∧ kOut p2 0 1000 = 0 ∧ ¬ cWt S (wtA S a) 0 + cWt S (wtA S a) (nI v) - p2 < 0 ∧ x_.1 = pR (pR S (wtA S a) v p2) (wtA S a) 0 (cWt S (wtA S a) 0 + cWt S (wtA S a) (nI v) - p2) ∧ x_.2 = vp_updL fo 0 (cWt S (wtA S a) 0 + cWt S (wtA S a) (nI v) - p2).toInt64)) (fun x_ => kB D cA (va_A (PW cA S ++ [oJ cA qo fo]) sz) (PW cA x_.1 ++ [oJ cA qo x_.2])) (va_A (PW cA S ++ [oJ cA qo fo]) sz)) 1 6 (va_A (PW cA S ++ [oJ cA qo fo]) sz) := by
  refine kt_ofWH (cc := cL_weigh) (maxL := 6) (ret := (some .int)) (by decide) rfl ?_
  intro p e s m args below meth c s₁ B hml hTab hv
  obtain ⟨rfl, ⟨hsz, hP, hK, hD0, hTB⟩, hTX⟩ := hv
  have hx := B.exec
  have hb := B.bytes
  have hr := B.returns
  have hts := atoms_spec (ws := Cond.codeWith yL_weigh cL_weigh 6 (some .int) [(0, 12, 15, 21), (0, 12, 19, 13)] :: TT) B.pre
  have htT : ∀ w ∈ TT, w.before _ s = true := fun w h => hts w (List.mem_cons_of_mem _ h)
  have hown : s.vm.findClass RL = some m.cls := findClass_of_methodNamed B.named
  have hlocks := B.notSynchronized
  subst hsz
  have hD := hD0.self (sz := s.heap.size)
  generalize hAe : va_A (PW cA S ++ [oJ cA qo fo]) s.heap.size = A at hD hTX ⊢
  have hA : ∀ q : Nat, s.heap.size ≤ q → A q := fun q h => by rw [← hAe]; exact Or.inr h
  have hS : va_S A s.heap s.heap [] := va_S.rf
  have hl := lv_entry ([.ref x, .int p0, .int p1, .int p2, .ref qo]) (n := 6) (Nat.le_of_ble_eq_true rfl)
  rw [lg_entry_eq]
  generalize (lg_sl ([.ref x, .int p0, .int p1, .int p2, .ref qo]) ++ List.replicate (6 - (lg_sl ([.ref x, .int p0, .int p1, .int p2, .ref qo])).length) Slot.unset).toArray = ls at hl ⊢
  have hl : lv_has ls 6 [(0, .ref x), (1, .int p0), (2, .int p1), (3, .int p2), (4, .ref qo)] := hl
  refine lv_aload hx hb dL_weigh_0 (lv_at hl 4 rfl) ?_
  refine lv_iconst (v := 0) hx hb dL_weigh_2 (by decide) ?_
  refine lv_aload_n hx hb dL_weigh_3 rfl (lv_at hl 0 rfl) ?_
  refine lv_iload_n hx hb dL_weigh_4 rfl (lv_at hl 1 rfl) ?_
  refine lv_iload_n hx hb dL_weigh_5 rfl (lv_at hl 2 rfl) ?_
  refine lv_iload_n hx hb dL_weigh_6 rfl (lv_at hl 3 rfl) ?_
  rcases h.at p0 with ⟨hsw, hk0⟩ | ⟨j, a, hjn, rfl, hja, hsw⟩
  · refine kj_t (List.Perm.refl _) (vx_runV (As := [.int p0, .int p1, .int p2]) (rest := [.int 0, .ref qo]) ⟨hx, hb, hml, hown, htT⟩ (c_weigh_t l hst D cA _ S x h.hx ar h.q0 h.R.1 p0 p1 p2 hsw) (cwV 3 htT (kg_V m_ml_L_17 m_im_X5_weigh m_sl_X5_weigh m_in_X5 m_cd_X5_weigh) rfl rfl rfl (by decide +kernel) ⟨Nat.le_of_ble_eq_true rfl, Nat.le_of_ble_eq_true rfl⟩) (kj_VX (List.Perm.refl _) hK hP hD hTB hTX hS hA (kj_rc (List.Perm.refl _) hK hP h.hx (Nat.le_of_ble_eq_true rfl) rfl)) rfl rfl hl.1 rfl (lv_room (Nat.le_of_ble_eq_true rfl)) dL_weigh_7 ⟨Nat.le_of_ble_eq_true rfl, Nat.le_of_ble_eq_true rfl⟩) hP hD hS hA (fun ce q9 H locs hP hD hS hce hcv hcl => ?_)
    refine vx_catch hown [] ⟨0, 12, 15, 21⟩ [⟨0, 12, 19, 13⟩] (hTab.trans rfl) (fun z hz => nomatch hz) rfl (by decide) (htT _ m_cl_L_21) (hTB.use (n_ca _ (by decide))) hce hcv hcl ?_
    refine lv_astore (lv' := [(5, .ref q9), (0, .ref x), (1, .int p0), (2, .int p1), (3, .int p2), (4, .ref qo)]) hx hb dL_weigh_15 hl (by decide) rfl (fun ls hl => ?_)
    refine lv_iconst (v := 1) hx hb dL_weigh_17 (by decide) ?_
    exact W.iret (v := 1) hx hb hr (fun t ht hW => ⟨⟨1, (S, fo), rfl, (Or.inl (⟨rfl, hk0, rfl⟩)), by rw [ht]; exact hP, va_K.moved hW.alike hK, hD⟩, hS.F ht⟩) hS.2.2 dL_weigh_18
  · have hj : j < 8 := by have := h.n8; omega
    rcases kOut_01 p1 0 (gI S a 2 - 1) with hv | hv
    · obtain ⟨-, ⟨vc, hvc, evc⟩, -⟩ := h.s j hj a hja
      obtain ⟨v, hv9, rfl⟩ := kOut_sub1 (k := vc) (v := p1) (by rw [← evc]; exact hv) (by omega)
      have hv4 : v < 4 := by omega
      by_cases hv0 : v = 0
      · subst hv0
        refine kj_t (List.Perm.refl _) (vx_runV (As := [.int (nI j), .int 0, .int p2]) (rest := [.int 0, .ref qo]) ⟨hx, hb, hml, hown, htT⟩ (c_weigh_z l hst D cA _ S x h.hx ar h.q0 ak h.q1 h.kk h.R j hj a hja (nI j) hsw hv p2) (cwV 3 htT (kg_V m_ml_L_17 m_im_X5_weigh m_sl_X5_weigh m_in_X5 m_cd_X5_weigh) rfl rfl rfl (by decide +kernel) ⟨Nat.le_of_ble_eq_true rfl, Nat.le_of_ble_eq_true rfl⟩) (kj_VX (List.Perm.refl _) hK hP hD hTB hTX hS hA (kj_rc (List.Perm.refl _) hK hP h.hx (Nat.le_of_ble_eq_true rfl) rfl)) rfl rfl hl.1 rfl (lv_room (Nat.le_of_ble_eq_true rfl)) dL_weigh_7 ⟨Nat.le_of_ble_eq_true rfl, Nat.le_of_ble_eq_true rfl⟩) hP hD hS hA (fun ce q9 H locs hP hD hS hce hcv hcl => ?_)
        refine vx_catch hown [⟨0, 12, 15, 21⟩] ⟨0, 12, 19, 13⟩ [] (hTab.trans rfl) (fun z hz => by obtain rfl := List.mem_singleton.mp hz; first | exact Or.inr ⟨by decide, _, htT _ m_cl_L_21, hTX.2.2.2 ("java/lang/IllegalArgumentException", "java/lang/IndexOutOfBoundsException") (by decide +kernel)⟩) rfl (by decide) (htT _ m_cl_L_13) (hTB.use (n_ca _ (by decide))) hce hcv hcl ?_
        refine lv_astore (lv' := [(5, .ref q9), (0, .ref x), (1, .int (nI j)), (2, .int 0), (3, .int p2), (4, .ref qo)]) hx hb dL_weigh_19 hl (by decide) rfl (fun ls hl => ?_)
        refine lv_iconst (v := 2) hx hb dL_weigh_21 (by decide) ?_
        exact W.iret (v := 2) hx hb hr (fun t ht hW => ⟨⟨2, (S, fo), rfl, (Or.inr (Or.inr (Or.inl (⟨rfl, j, a, hjn, rfl, hja, rfl, hv, rfl⟩)))), by rw [ht]; exact hP, va_K.moved hW.alike hK, hD⟩, hS.F ht⟩) hS.2.2 dL_weigh_22
      · rcases kOut_01 p2 0 1000 with h1 | h1
        · by_cases hlf : (cWt S (wtA S a) 0 + cWt S (wtA S a) (nI v) - p2) < 0
          · refine kj_t (List.Perm.refl _) (vx_runV (As := [.int (nI j), .int (nI v), .int p2]) (rest := [.int 0, .ref qo]) ⟨hx, hb, hml, hown, htT⟩ (c_weigh_2 l hst D cA _ S x h.hx ar h.q0 ak h.q1 h.kk h.R j hj a hja (nI j) hsw v hv4 hv hv0 p2 h1 hlf) (cwV 3 htT (kg_V m_ml_L_17 m_im_X5_weigh m_sl_X5_weigh m_in_X5 m_cd_X5_weigh) rfl rfl rfl (by decide +kernel) ⟨Nat.le_of_ble_eq_true rfl, Nat.le_of_ble_eq_true rfl⟩) (kj_VX (List.Perm.refl _) hK hP hD hTB hTX hS hA (kj_rc (List.Perm.refl _) hK hP h.hx (Nat.le_of_ble_eq_true rfl) rfl)) rfl rfl hl.1 rfl (lv_room (Nat.le_of_ble_eq_true rfl)) dL_weigh_7 ⟨Nat.le_of_ble_eq_true rfl, Nat.le_of_ble_eq_true rfl⟩) hP hD hS hA (fun ce q9 H locs hP hD hS hce hcv hcl => ?_)
            refine vx_catch hown [⟨0, 12, 15, 21⟩] ⟨0, 12, 19, 13⟩ [] (hTab.trans rfl) (fun z hz => by obtain rfl := List.mem_singleton.mp hz; first | exact Or.inr ⟨by decide, _, htT _ m_cl_L_21, hTX.2.2.2 ("java/lang/IllegalArgumentException", "java/lang/IndexOutOfBoundsException") (by decide +kernel)⟩) rfl (by decide) (htT _ m_cl_L_13) (hTB.use (n_ca _ (by decide))) hce hcv hcl ?_
            refine lv_astore (lv' := [(5, .ref q9), (0, .ref x), (1, .int (nI j)), (2, .int (nI v)), (3, .int p2), (4, .ref qo)]) hx hb dL_weigh_19 hl (by decide) rfl (fun ls hl => ?_)
            refine lv_iconst (v := 2) hx hb dL_weigh_21 (by decide) ?_
            exact W.iret (v := 2) hx hb hr (fun t ht hW => ⟨⟨2, (S, fo), rfl, (Or.inr (Or.inr (Or.inr (Or.inr (Or.inl (⟨rfl, j, a, v, hjn, rfl, hja, hv4, hv0, rfl, hv, h1, hlf, rfl⟩)))))), by rw [ht]; exact hP, va_K.moved hW.alike hK, hD⟩, hS.F ht⟩) hS.2.2 dL_weigh_22
          · refine kj_i (List.Perm.refl _) (va_runV (As := [.int (nI j), .int (nI v), .int p2]) (rest := [.int 0, .ref qo]) ⟨hx, hb, hml, hown, htT⟩ (c_weigh l D cA _ S x h.hx ar h.q0 ak h.q1 h.kk h.R j hj a hja (nI j) hsw v hv4 hv hv0 p2 h1 hlf) (cwV 3 htT (kg_V m_ml_L_17 m_im_X5_weigh m_sl_X5_weigh m_in_X5 m_cd_X5_weigh) rfl rfl rfl (by decide +kernel) ⟨Nat.le_of_ble_eq_true rfl, Nat.le_of_ble_eq_true rfl⟩) (kj_V (List.Perm.refl _) hK hP hD hTB (kj_rc (List.Perm.refl _) hK hP h.hx (Nat.le_of_ble_eq_true rfl) rfl)) rfl rfl hl.1 rfl (lv_room (Nat.le_of_ble_eq_true rfl)) dL_weigh_7 ⟨Nat.le_of_ble_eq_true rfl, Nat.le_of_ble_eq_true rfl⟩) hP hD hS hA (fun r_1 x_1 H locs hq_1 hP hD hS => ?_)
            refine lv_i2l (v := r_1.toInt64) hx hb dL_weigh_10 rfl ?_
            refine kw_last hx hb hK hP hD hS dL_weigh_11 (fun H locs hP hD hS => ?_)
            refine lv_goto (tgt := 23) hx hb dL_weigh_12 (by decide) ?_
            refine lv_iconst (v := 0) hx hb dL_weigh_23 (by decide) ?_
            refine W.widen (k := 1) (n := 6) (Nat.le_of_ble_eq_true rfl) (Nat.le_of_ble_eq_true rfl) ?_
            exact W.iret (v := 0) hx hb hr (fun t ht hW => ⟨⟨0, (x_1, vp_updL fo 0 r_1.toInt64), rfl, (Or.inr (Or.inr (Or.inr (Or.inr (Or.inr (⟨rfl, j, a, v, hjn, rfl, hja, hv4, hv0, rfl, hv, h1, hlf, hq_1.2, by rw [hq_1.1]⟩)))))), by rw [ht]; exact hP, va_K.moved hW.alike hK, hD⟩, hS.F ht⟩) hS.2.2 dL_weigh_24
        · refine kj_t (List.Perm.refl _) (vx_runV (As := [.int (nI j), .int (nI v), .int p2]) (rest := [.int 0, .ref qo]) ⟨hx, hb, hml, hown, htT⟩ (c_weigh_1 l hst D cA _ S x h.hx ar h.q0 ak h.q1 h.kk h.R j hj a hja (nI j) hsw v hv4 hv hv0 p2 h1) (cwV 3 htT (kg_V m_ml_L_17 m_im_X5_weigh m_sl_X5_weigh m_in_X5 m_cd_X5_weigh) rfl rfl rfl (by decide +kernel) ⟨Nat.le_of_ble_eq_true rfl, Nat.le_of_ble_eq_true rfl⟩) (kj_VX (List.Perm.refl _) hK hP hD hTB hTX hS hA (kj_rc (List.Perm.refl _) hK hP h.hx (Nat.le_of_ble_eq_true rfl) rfl)) rfl rfl hl.1 rfl (lv_room (Nat.le_of_ble_eq_true rfl)) dL_weigh_7 ⟨Nat.le_of_ble_eq_true rfl, Nat.le_of_ble_eq_true rfl⟩) hP hD hS hA (fun ce q9 H locs hP hD hS hce hcv hcl => ?_)
          refine vx_catch hown [⟨0, 12, 15, 21⟩] ⟨0, 12, 19, 13⟩ [] (hTab.trans rfl) (fun z hz => by obtain rfl := List.mem_singleton.mp hz; first | exact Or.inr ⟨by decide, _, htT _ m_cl_L_21, hTX.2.2.2 ("java/lang/IllegalArgumentException", "java/lang/IndexOutOfBoundsException") (by decide +kernel)⟩) rfl (by decide) (htT _ m_cl_L_13) (hTB.use (n_ca _ (by decide))) hce hcv hcl ?_
          refine lv_astore (lv' := [(5, .ref q9), (0, .ref x), (1, .int (nI j)), (2, .int (nI v)), (3, .int p2), (4, .ref qo)]) hx hb dL_weigh_19 hl (by decide) rfl (fun ls hl => ?_)
          refine lv_iconst (v := 2) hx hb dL_weigh_21 (by decide) ?_
          exact W.iret (v := 2) hx hb hr (fun t ht hW => ⟨⟨2, (S, fo), rfl, (Or.inr (Or.inr (Or.inr (Or.inl (⟨rfl, j, a, v, hjn, rfl, hja, hv4, hv0, rfl, hv, h1, rfl⟩))))), by rw [ht]; exact hP, va_K.moved hW.alike hK, hD⟩, hS.F ht⟩) hS.2.2 dL_weigh_22
    · refine kj_t (List.Perm.refl _) (vx_runV (As := [.int (nI j), .int p1, .int p2]) (rest := [.int 0, .ref qo]) ⟨hx, hb, hml, hown, htT⟩ (c_weigh_v l hst D cA _ S x h.hx ar h.q0 ak h.q1 h.kk h.R j hj a hja (nI j) hsw p1 p2 hv) (cwV 3 htT (kg_V m_ml_L_17 m_im_X5_weigh m_sl_X5_weigh m_in_X5 m_cd_X5_weigh) rfl rfl rfl (by decide +kernel) ⟨Nat.le_of_ble_eq_true rfl, Nat.le_of_ble_eq_true rfl⟩) (kj_VX (List.Perm.refl _) hK hP hD hTB hTX hS hA (kj_rc (List.Perm.refl _) hK hP h.hx (Nat.le_of_ble_eq_true rfl) rfl)) rfl rfl hl.1 rfl (lv_room (Nat.le_of_ble_eq_true rfl)) dL_weigh_7 ⟨Nat.le_of_ble_eq_true rfl, Nat.le_of_ble_eq_true rfl⟩) hP hD hS hA (fun ce q9 H locs hP hD hS hce hcv hcl => ?_)
      refine vx_catch hown [] ⟨0, 12, 15, 21⟩ [⟨0, 12, 19, 13⟩] (hTab.trans rfl) (fun z hz => nomatch hz) rfl (by decide) (htT _ m_cl_L_21) (hTB.use (n_ca _ (by decide))) hce hcv hcl ?_
      refine lv_astore (lv' := [(5, .ref q9), (0, .ref x), (1, .int (nI j)), (2, .int p1), (3, .int p2), (4, .ref qo)]) hx hb dL_weigh_15 hl (by decide) rfl (fun ls hl => ?_)
      refine lv_iconst (v := 1) hx hb dL_weigh_17 (by decide) ?_
      exact W.iret (v := 1) hx hb hr (fun t ht hW => ⟨⟨1, (S, fo), rfl, (Or.inr (Or.inl (⟨rfl, j, a, hjn, rfl, hja, hv, rfl⟩))), by rw [ht]; exact hP, va_K.moved hW.alike hK, hD⟩, hS.F ht⟩) hS.2.2 dL_weigh_18

set_option maxRecDepth 100000 in
set_option maxHeartbeats 4000000 in
theorem w_ask (l : Launch) (hst : l.stackTraces = false) (D : va_G) (cA : Nat → ClassId) (sz : Nat) (S : Pool) (x qo : Nat) (fo : Nat → Int64) (n na : Nat) (hh cc : Int32) (ar ak : Nat) (h : INVC n na hh cc S x ar ak) (p0 p1 p2 p3 : Int32) : Met l yL_ask (Cond.codeWith yL_ask cL_ask 7 (some .int) [(0, 14, 17, 21), (0, 14, 21, 13)] :: TT) ({ frames := 26, cells := 1, slots := 6, locals := 626 }) (va_Pc [.ref x, .int p0, .int p1, .int p2, .int p3, .ref qo] (kPreX D cA (PW cA S ++ [oJ cA qo fo]) sz)) (va_Qi (fun (r_ : Int32) (x_ : Pool × (Nat → Int64)) => (r_ = 1 ∧ kIn p0 0 (nI n - 1) = 0 ∧ x_.1 = S) ∨ (r_ = 2 ∧ ∃ j a, j < n ∧ p0 = nI j ∧ gP S ar j = some a ∧ (kOut p1 0 9999 = 1 ∨ kOut p2 0 9 = 1 ∨ kOut p3 0 9 = 1) ∧ x_.1 = S) ∨ (r_ = 0 ∧ ∃ j a, j < n ∧ p0 = nI j ∧ gP S ar j = some a ∧ kOut p1 0 9999 = 0 ∧ kOut p2 0 9 = 0 ∧ kOut p3 0 9 = 0 ∧ ¬ ((cRsn (cBec S ak p1 p2 p3) x ak (cHas (cBec S ak p1 p2 p3) ar (cV (cBec S ak p1 p2 p3) x ar ak 7) a) a) = 8 ∧ gI S x 3 < 100 ∧ cArmA (cBec S ak p1 p2 p3) a p1 = none) ∧ x_.1 = (cBec S ak p1 p2 p3) ∧ x_.2 = vp_updL fo 0 (cVar (cBec S ak p1 p2 p3) ak a (cRsn (cBec S ak p1 p2 p3) x ak (cHas (cBec S ak p1 p2 p3) ar (cV (cBec S ak p1 p2 p3) x ar ak 7) a) a)).toInt64) ∨ (r_ = 0 ∧ ∃ j a v q ty t9, j < n ∧ p0 = nI j ∧ gP S ar j = some a ∧ kOut p1 0 9999 = 0 ∧ kOut p2 0 9 = 0 ∧ kOut p3 0 9 = 0 ∧ ((cRsn (cBec S ak p1 p2 p3) x ak (cHas (cBec S ak p1 p2 p3) ar (cV (cBec S ak p1 p2 p3) x ar ak 7) a) a) = 8 ∧ gI S x 3 < 100 ∧ cArmA (cBec S ak p1 p2 p3) a p1 = none) ∧ v < 4 ∧ (cVar (cBec S ak p1 p2 p3) ak a (cRsn (cBec S ak p1 p2 p3) x ak (cHas (cBec S ak p1 p2 p3) ar (cV (cBec S ak p1 p2 p3) x ar ak 7) a) a)) = nI v ∧ q ∉ gL S ∧ gQ S a 6 = some ty ∧ gQ S ty 0 = some t9 ∧ x_.1 = pI (pI (pR (pQ (pQ (pI (pI (pW (cBec S ak p1 p2 p3) q 0 0) q 0 p1) q 1 (nI v)) q 2 (gQ S a 7)) a 7 (some q)) t9 v (gR S t9 v + 1)) ty 4 (gI S ty 4 + 1)) x 3 (gI S x 3 + 1) ∧ x_.2 = vp_updL fo 0 (nI v).toInt64)) (fun x_ => kB D cA (va_A (PW cA S ++ [oJ cA qo fo]) sz) (PW cA x_.1 ++ [oJ cA qo x_.2])) (va_A (PW cA S ++ [oJ cA qo fo]) sz)) 1 6 (va_A (PW cA S ++ [oJ cA qo fo]) sz) := by
  refine kt_ofWH (cc := cL_ask) (maxL := 7) (ret := (some .int)) (by decide) rfl ?_
  intro p e s m args below meth c s₁ B hml hTab hv
  obtain ⟨rfl, ⟨hsz, hP, hK, hD0, hTB⟩, hTX⟩ := hv
  have hx := B.exec
  have hb := B.bytes
  have hr := B.returns
  have hts := atoms_spec (ws := Cond.codeWith yL_ask cL_ask 7 (some .int) [(0, 14, 17, 21), (0, 14, 21, 13)] :: TT) B.pre
  have htT : ∀ w ∈ TT, w.before _ s = true := fun w h => hts w (List.mem_cons_of_mem _ h)
  have hown : s.vm.findClass RL = some m.cls := findClass_of_methodNamed B.named
  have hlocks := B.notSynchronized
  subst hsz
  have hD := hD0.self (sz := s.heap.size)
  generalize hAe : va_A (PW cA S ++ [oJ cA qo fo]) s.heap.size = A at hD hTX ⊢
  have hA : ∀ q : Nat, s.heap.size ≤ q → A q := fun q h => by rw [← hAe]; exact Or.inr h
  have hS : va_S A s.heap s.heap [] := va_S.rf
  have hl := lv_entry ([.ref x, .int p0, .int p1, .int p2, .int p3, .ref qo]) (n := 7) (Nat.le_of_ble_eq_true rfl)
  rw [lg_entry_eq]
  generalize (lg_sl ([.ref x, .int p0, .int p1, .int p2, .int p3, .ref qo]) ++ List.replicate (7 - (lg_sl ([.ref x, .int p0, .int p1, .int p2, .int p3, .ref qo])).length) Slot.unset).toArray = ls at hl ⊢
  have hl : lv_has ls 7 [(0, .ref x), (1, .int p0), (2, .int p1), (3, .int p2), (4, .int p3), (5, .ref qo)] := hl
  refine lv_aload hx hb dL_ask_0 (lv_at hl 5 rfl) ?_
  refine lv_iconst (v := 0) hx hb dL_ask_2 (by decide) ?_
  refine lv_aload_n hx hb dL_ask_3 rfl (lv_at hl 0 rfl) ?_
  refine lv_iload_n hx hb dL_ask_4 rfl (lv_at hl 1 rfl) ?_
  refine lv_iload_n hx hb dL_ask_5 rfl (lv_at hl 2 rfl) ?_
  refine lv_iload_n hx hb dL_ask_6 rfl (lv_at hl 3 rfl) ?_
  refine lv_iload hx hb dL_ask_7 (lv_at hl 4 rfl) ?_
  rcases h.at p0 with ⟨hsw, hk0⟩ | ⟨j, a, hjn, rfl, hja, hsw⟩
  · refine kj_t (List.Perm.refl _) (vx_runV (As := [.int p0, .int p1, .int p2, .int p3]) (rest := [.int 0, .ref qo]) ⟨hx, hb, hml, hown, htT⟩ (c_ask_t l hst D cA _ S x h.hx ar h.q0 h.R.1 p0 p1 p2 p3 hsw) (cwV 4 htT (kg_V m_ml_L_73 m_im_X5_ask m_sl_X5_ask m_in_X5 m_cd_X5_ask) rfl rfl rfl (by decide +kernel) ⟨Nat.le_of_ble_eq_true rfl, Nat.le_of_ble_eq_true rfl⟩) (kj_VX (List.Perm.refl _) hK hP hD hTB hTX hS hA (kj_rc (List.Perm.refl _) hK hP h.hx (Nat.le_of_ble_eq_true rfl) rfl)) rfl rfl hl.1 rfl (lv_room (Nat.le_of_ble_eq_true rfl)) dL_ask_9 ⟨Nat.le_of_ble_eq_true rfl, Nat.le_of_ble_eq_true rfl⟩) hP hD hS hA (fun ce q9 H locs hP hD hS hce hcv hcl => ?_)
    refine vx_catch hown [] ⟨0, 14, 17, 21⟩ [⟨0, 14, 21, 13⟩] (hTab.trans rfl) (fun z hz => nomatch hz) rfl (by decide) (htT _ m_cl_L_21) (hTB.use (n_ca _ (by decide))) hce hcv hcl ?_
    refine lv_astore (lv' := [(6, .ref q9), (0, .ref x), (1, .int p0), (2, .int p1), (3, .int p2), (4, .int p3), (5, .ref qo)]) hx hb dL_ask_17 hl (by decide) rfl (fun ls hl => ?_)
    refine lv_iconst (v := 1) hx hb dL_ask_19 (by decide) ?_
    exact W.iret (v := 1) hx hb hr (fun t ht hW => ⟨⟨1, (S, fo), rfl, (Or.inl (⟨rfl, hk0, rfl⟩)), by rw [ht]; exact hP, va_K.moved hW.alike hK, hD⟩, hS.F ht⟩) hS.2.2 dL_ask_20
  · have hj : j < 8 := by have := h.n8; omega
    rcases kOut_01 p1 0 9999 with h1 | h1
    · rcases kOut_01 p2 0 9 with h2 | h2
      · rcases kOut_01 p3 0 9 with h3 | h3
        · by_cases hyes : (cRsn (cBec S ak p1 p2 p3) x ak (cHas (cBec S ak p1 p2 p3) ar (cV (cBec S ak p1 p2 p3) x ar ak 7) a) a) = 8 ∧ gI S x 3 < 100 ∧ cArmA (cBec S ak p1 p2 p3) a p1 = none
          · obtain ⟨h8, hlt, harm⟩ := id hyes
            obtain ⟨v, hv4, hvn⟩ := cVar_8 (cBec S ak p1 p2 p3) ak a h8
            refine kj_i (List.Perm.refl _) (va_runV (As := [.int (nI j), .int p1, .int p2, .int p3]) (rest := [.int 0, .ref qo]) ⟨hx, hb, hml, hown, htT⟩ (c_ask_yes l D cA _ S x h.hx ar h.q0 ak h.q1 h.kk h.R j hj a hja (nI j) hsw p1 p2 p3 h1 h2 h3 h8 hlt harm v hv4 hvn) (cwV 4 htT (kg_V m_ml_L_73 m_im_X5_ask m_sl_X5_ask m_in_X5 m_cd_X5_ask) rfl rfl rfl (by decide +kernel) ⟨Nat.le_of_ble_eq_true rfl, Nat.le_of_ble_eq_true rfl⟩) (kj_V (List.Perm.refl _) hK hP hD hTB (kj_rc (List.Perm.refl _) hK hP h.hx (Nat.le_of_ble_eq_true rfl) rfl)) rfl rfl hl.1 rfl (lv_room (Nat.le_of_ble_eq_true rfl)) dL_ask_9 ⟨Nat.le_of_ble_eq_true rfl, Nat.le_of_ble_eq_true rfl⟩) hP hD hS hA (fun r_1 x_1 H locs hq_1 hP hD hS => ?_)
            refine lv_i2l (v := r_1.toInt64) hx hb dL_ask_12 rfl ?_
            refine kw_last hx hb hK hP hD hS dL_ask_13 (fun H locs hP hD hS => ?_)
            refine lv_goto (tgt := 25) hx hb dL_ask_14 (by decide) ?_
            refine lv_iconst (v := 0) hx hb dL_ask_25 (by decide) ?_
            refine W.widen (k := 1) (n := 6) (Nat.le_of_ble_eq_true rfl) (Nat.le_of_ble_eq_true rfl) ?_
            exact W.iret (v := 0) hx hb hr (fun t ht hW => ⟨⟨0, (x_1, vp_updL fo 0 r_1.toInt64), rfl, (by obtain ⟨er9, q, ty, t9, hq, e6, e0, e9⟩ := hq_1; exact (Or.inr (Or.inr (Or.inr (⟨rfl, j, a, v, q, ty, t9, hjn, rfl, hja, h1, h2, h3, hyes, hv4, hvn, hq, e6, e0, e9, by rw [er9]⟩))))), by rw [ht]; exact hP, va_K.moved hW.alike hK, hD⟩, hS.F ht⟩) hS.2.2 dL_ask_26
          · refine kj_i (List.Perm.refl _) (va_runV (As := [.int (nI j), .int p1, .int p2, .int p3]) (rest := [.int 0, .ref qo]) ⟨hx, hb, hml, hown, htT⟩ (c_ask_no l D cA _ S x h.hx ar h.q0 ak h.q1 h.kk h.R j hj a hja (nI j) hsw p1 p2 p3 h1 h2 h3 hyes) (cwV 4 htT (kg_V m_ml_L_73 m_im_X5_ask m_sl_X5_ask m_in_X5 m_cd_X5_ask) rfl rfl rfl (by decide +kernel) ⟨Nat.le_of_ble_eq_true rfl, Nat.le_of_ble_eq_true rfl⟩) (kj_V (List.Perm.refl _) hK hP hD hTB (kj_rc (List.Perm.refl _) hK hP h.hx (Nat.le_of_ble_eq_true rfl) rfl)) rfl rfl hl.1 rfl (lv_room (Nat.le_of_ble_eq_true rfl)) dL_ask_9 ⟨Nat.le_of_ble_eq_true rfl, Nat.le_of_ble_eq_true rfl⟩) hP hD hS hA (fun r_2 x_2 H locs hq_2 hP hD hS => ?_)
            refine lv_i2l (v := r_2.toInt64) hx hb dL_ask_12 rfl ?_
            refine kw_last hx hb hK hP hD hS dL_ask_13 (fun H locs hP hD hS => ?_)
            refine lv_goto (tgt := 25) hx hb dL_ask_14 (by decide) ?_
            refine lv_iconst (v := 0) hx hb dL_ask_25 (by decide) ?_
            refine W.widen (k := 1) (n := 6) (Nat.le_of_ble_eq_true rfl) (Nat.le_of_ble_eq_true rfl) ?_
            exact W.iret (v := 0) hx hb hr (fun t ht hW => ⟨⟨0, (x_2, vp_updL fo 0 r_2.toInt64), rfl, (Or.inr (Or.inr (Or.inl (⟨rfl, j, a, hjn, rfl, hja, h1, h2, h3, hyes, hq_2.2, by rw [hq_2.1]⟩)))), by rw [ht]; exact hP, va_K.moved hW.alike hK, hD⟩, hS.F ht⟩) hS.2.2 dL_ask_26
        · refine kj_t (List.Perm.refl _) (vx_runV (As := [.int (nI j), .int p1, .int p2, .int p3]) (rest := [.int 0, .ref qo]) ⟨hx, hb, hml, hown, htT⟩ (c_ask_q3 l hst D cA _ S x h.hx ar h.q0 ak h.q1 h.kk h.R j hj a hja (nI j) hsw p1 p2 p3 h1 h2 h3) (cwV 4 htT (kg_V m_ml_L_73 m_im_X5_ask m_sl_X5_ask m_in_X5 m_cd_X5_ask) rfl rfl rfl (by decide +kernel) ⟨Nat.le_of_ble_eq_true rfl, Nat.le_of_ble_eq_true rfl⟩) (kj_VX (List.Perm.refl _) hK hP hD hTB hTX hS hA (kj_rc (List.Perm.refl _) hK hP h.hx (Nat.le_of_ble_eq_true rfl) rfl)) rfl rfl hl.1 rfl (lv_room (Nat.le_of_ble_eq_true rfl)) dL_ask_9 ⟨Nat.le_of_ble_eq_true rfl, Nat.le_of_ble_eq_true rfl⟩) hP hD hS hA (fun ce q9 H locs hP hD hS hce hcv hcl => ?_)
          refine vx_catch hown [⟨0, 14, 17, 21⟩] ⟨0, 14, 21, 13⟩ [] (hTab.trans rfl) (fun z hz => by obtain rfl := List.mem_singleton.mp hz; first | exact Or.inr ⟨by decide, _, htT _ m_cl_L_21, hTX.2.2.2 ("java/lang/IllegalArgumentException", "java/lang/IndexOutOfBoundsException") (by decide +kernel)⟩) rfl (by decide) (htT _ m_cl_L_13) (hTB.use (n_ca _ (by decide))) hce hcv hcl ?_
          refine lv_astore (lv' := [(6, .ref q9), (0, .ref x), (1, .int (nI j)), (2, .int p1), (3, .int p2), (4, .int p3), (5, .ref qo)]) hx hb dL_ask_21 hl (by decide) rfl (fun ls hl => ?_)
          refine lv_iconst (v := 2) hx hb dL_ask_23 (by decide) ?_
          exact W.iret (v := 2) hx hb hr (fun t ht hW => ⟨⟨2, (S, fo), rfl, (Or.inr (Or.inl (⟨rfl, j, a, hjn, rfl, hja, Or.inr (Or.inr h3), rfl⟩))), by rw [ht]; exact hP, va_K.moved hW.alike hK, hD⟩, hS.F ht⟩) hS.2.2 dL_ask_24
      · refine kj_t (List.Perm.refl _) (vx_runV (As := [.int (nI j), .int p1, .int p2, .int p3]) (rest := [.int 0, .ref qo]) ⟨hx, hb, hml, hown, htT⟩ (c_ask_q2 l hst D cA _ S x h.hx ar h.q0 ak h.q1 h.kk h.R j hj a hja (nI j) hsw p1 p2 p3 h1 h2) (cwV 4 htT (kg_V m_ml_L_73 m_im_X5_ask m_sl_X5_ask m_in_X5 m_cd_X5_ask) rfl rfl rfl (by decide +kernel) ⟨Nat.le_of_ble_eq_true rfl, Nat.le_of_ble_eq_true rfl⟩) (kj_VX (List.Perm.refl _) hK hP hD hTB hTX hS hA (kj_rc (List.Perm.refl _) hK hP h.hx (Nat.le_of_ble_eq_true rfl) rfl)) rfl rfl hl.1 rfl (lv_room (Nat.le_of_ble_eq_true rfl)) dL_ask_9 ⟨Nat.le_of_ble_eq_true rfl, Nat.le_of_ble_eq_true rfl⟩) hP hD hS hA (fun ce q9 H locs hP hD hS hce hcv hcl => ?_)
        refine vx_catch hown [⟨0, 14, 17, 21⟩] ⟨0, 14, 21, 13⟩ [] (hTab.trans rfl) (fun z hz => by obtain rfl := List.mem_singleton.mp hz; first | exact Or.inr ⟨by decide, _, htT _ m_cl_L_21, hTX.2.2.2 ("java/lang/IllegalArgumentException", "java/lang/IndexOutOfBoundsException") (by decide +kernel)⟩) rfl (by decide) (htT _ m_cl_L_13) (hTB.use (n_ca _ (by decide))) hce hcv hcl ?_
        refine lv_astore (lv' := [(6, .ref q9), (0, .ref x), (1, .int (nI j)), (2, .int p1), (3, .int p2), (4, .int p3), (5, .ref qo)]) hx hb dL_ask_21 hl (by decide) rfl (fun ls hl => ?_)
        refine lv_iconst (v := 2) hx hb dL_ask_23 (by decide) ?_
        exact W.iret (v := 2) hx hb hr (fun t ht hW => ⟨⟨2, (S, fo), rfl, (Or.inr (Or.inl (⟨rfl, j, a, hjn, rfl, hja, Or.inr (Or.inl h2), rfl⟩))), by rw [ht]; exact hP, va_K.moved hW.alike hK, hD⟩, hS.F ht⟩) hS.2.2 dL_ask_24
    · refine kj_t (List.Perm.refl _) (vx_runV (As := [.int (nI j), .int p1, .int p2, .int p3]) (rest := [.int 0, .ref qo]) ⟨hx, hb, hml, hown, htT⟩ (c_ask_q1 l hst D cA _ S x h.hx ar h.q0 ak h.q1 h.kk h.R j hj a hja (nI j) hsw p1 p2 p3 h1) (cwV 4 htT (kg_V m_ml_L_73 m_im_X5_ask m_sl_X5_ask m_in_X5 m_cd_X5_ask) rfl rfl rfl (by decide +kernel) ⟨Nat.le_of_ble_eq_true rfl, Nat.le_of_ble_eq_true rfl⟩) (kj_VX (List.Perm.refl _) hK hP hD hTB hTX hS hA (kj_rc (List.Perm.refl _) hK hP h.hx (Nat.le_of_ble_eq_true rfl) rfl)) rfl rfl hl.1 rfl (lv_room (Nat.le_of_ble_eq_true rfl)) dL_ask_9 ⟨Nat.le_of_ble_eq_true rfl, Nat.le_of_ble_eq_true rfl⟩) hP hD hS hA (fun ce q9 H locs hP hD hS hce hcv hcl => ?_)
      refine vx_catch hown [⟨0, 14, 17, 21⟩] ⟨0, 14, 21, 13⟩ [] (hTab.trans rfl) (fun z hz => by obtain rfl := List.mem_singleton.mp hz; first | exact Or.inr ⟨by decide, _, htT _ m_cl_L_21, hTX.2.2.2 ("java/lang/IllegalArgumentException", "java/lang/IndexOutOfBoundsException") (by decide +kernel)⟩) rfl (by decide) (htT _ m_cl_L_13) (hTB.use (n_ca _ (by decide))) hce hcv hcl ?_
      refine lv_astore (lv' := [(6, .ref q9), (0, .ref x), (1, .int (nI j)), (2, .int p1), (3, .int p2), (4, .int p3), (5, .ref qo)]) hx hb dL_ask_21 hl (by decide) rfl (fun ls hl => ?_)
      refine lv_iconst (v := 2) hx hb dL_ask_23 (by decide) ?_
      exact W.iret (v := 2) hx hb hr (fun t ht hW => ⟨⟨2, (S, fo), rfl, (Or.inr (Or.inl (⟨rfl, j, a, hjn, rfl, hja, Or.inl h1, rfl⟩))), by rw [ht]; exact hP, va_K.moved hW.alike hK, hD⟩, hS.F ht⟩) hS.2.2 dL_ask_24

set_option maxRecDepth 100000 in
set_option maxHeartbeats 4000000 in
theorem w_add (l : Launch) (hst : l.stackTraces = false) (D : va_G) (cA : Nat → ClassId) (sz : Nat) (S : Pool) (x qo : Nat) (fo : Nat → Int64) (n na : Nat) (hh cc : Int32) (ar ak : Nat) (h : INVC n na hh cc S x ar ak) (p0 p1 p2 : Int32) (hz : p2 = 0 ∨ p2 = 1) : Met l yL_add (Cond.codeWith yL_add cL_add 6 (some .int) [(0, 12, 15, 13), (0, 12, 19, 15)] :: TT) ({ frames := 7, cells := 8, slots := 48, locals := 106 }) (va_Pc [.ref x, .int p0, .int p1, .int p2, .ref qo] (kPreX D cA (PW cA S ++ [oJ cA qo fo]) sz)) (va_Qi (fun (r_ : Int32) (x_ : Pool × (Nat → Int64)) => (r_ = 1 ∧ (kOut p0 0 498 = 1 ∨ kOut p0 0 498 = 0 ∧ kOut p1 2 4 = 1) ∧ x_.1 = S) ∨ (r_ = 2 ∧ kOut p0 0 498 = 0 ∧ kOut p1 2 4 = 0 ∧ n = 8 ∧ x_.1 = S) ∨ (r_ = 0 ∧ kOut p0 0 498 = 0 ∧ kOut p1 2 4 = 0 ∧ n < 8 ∧ (∃ q_7 q_1_11 q_3_11 q_8_11 q_1_14_11 q_3_14_11 q_8_14_11 q_16_14_11, q_7 ∉ gL S ∧ q_1_11 ∉ gL (pW S q_7 3 0) ∧ q_3_11 ∉ gL (pQ (pW (pW S q_7 3 0) q_1_11 6 4) q_7 4 (some q_1_11)) ∧ q_8_11 ∉ gL (pQ (pW (pQ (pW (pW S q_7 3 0) q_1_11 6 4) q_7 4 (some q_1_11)) q_3_11 21 5) q_7 5 (some q_3_11)) ∧ q_1_14_11 ∉ gL (pW (pQ (pW (pQ (pW (pW S q_7 3 0) q_1_11 6 4) q_7 4 (some q_1_11)) q_3_11 21 5) q_7 5 (some q_3_11)) q_8_11 4 0) ∧ q_3_14_11 ∉ gL (pQ (pW (pW (pQ (pW (pQ (pW (pW S q_7 3 0) q_1_11 6 4) q_7 4 (some q_1_11)) q_3_11 21 5) q_7 5 (some q_3_11)) q_8_11 4 0) q_1_14_11 10 4) q_8_11 0 (some q_1_14_11)) ∧ q_8_14_11 ∉ gL (pQ (pW (pQ (pW (pW (pQ (pW (pQ (pW (pW S q_7 3 0) q_1_11 6 4) q_7 4 (some q_1_11)) q_3_11 21 5) q_7 5 (some q_3_11)) q_8_11 4 0) q_1_14_11 10 4) q_8_11 0 (some q_1_14_11)) q_3_14_11 11 4) q_8_11 1 (some q_3_14_11)) ∧ q_16_14_11 ∉ gL (pQ (pW (pQ (pW (pQ (pW (pW (pQ (pW (pQ (pW (pW S q_7 3 0) q_1_11 6 4) q_7 4 (some q_1_11)) q_3_11 21 5) q_7 5 (some q_3_11)) q_8_11 4 0) q_1_14_11 10 4) q_8_11 0 (some q_1_14_11)) q_3_14_11 11 4) q_8_11 1 (some q_3_14_11)) q_8_14_11 12 4) q_8_11 2 (some q_8_14_11)) ∧ x_.1 = pI (pP (pR (pI (pI (pI (pI (pI (pI (pI (pQ (pQ (pW (pQ (pW (pQ (pW (pQ (pW (pW (pQ (pW (pQ (pW (pW S q_7 3 0) q_1_11 6 4) q_7 4 (some q_1_11)) q_3_11 21 5) q_7 5 (some q_3_11)) q_8_11 4 0) q_1_14_11 10 4) q_8_11 0 (some q_1_14_11)) q_3_14_11 11 4) q_8_11 1 (some q_3_14_11)) q_8_14_11 12 4) q_8_11 2 (some q_8_14_11)) q_16_14_11 20 4) q_8_11 3 (some q_16_14_11)) q_7 6 (some q_8_11)) q_7 10 1000) q_7 13 (-1)) q_7 16 (-1)) q_7 0 (gI S x 2)) q_7 1 p0) q_7 2 p1) q_7 3 p2) q_1_11 ((0 : Int32).toNatClampNeg) 1000) ar ((gI S x 2).toNatClampNeg) (some q_7)) x 2 ((gI S x 2) + 1)) ∧ x_.2 = vp_updL fo 0 (nI n).toInt64)) (fun x_ => kB D cA (va_A (PW cA S ++ [oJ cA qo fo]) sz) (PW cA x_.1 ++ [oJ cA qo x_.2])) (va_A (PW cA S ++ [oJ cA qo fo]) sz)) 8 48 (va_A (PW cA S ++ [oJ cA qo fo]) sz) := by
  refine kt_ofWH (cc := cL_add) (maxL := 6) (ret := (some .int)) (by decide) rfl ?_
  intro p e s m args below meth c s₁ B hml hTab hv
  obtain ⟨rfl, ⟨hsz, hP, hK, hD0, hTB⟩, hTX⟩ := hv
  have hx := B.exec
  have hb := B.bytes
  have hr := B.returns
  have hts := atoms_spec (ws := Cond.codeWith yL_add cL_add 6 (some .int) [(0, 12, 15, 13), (0, 12, 19, 15)] :: TT) B.pre
  have htT : ∀ w ∈ TT, w.before _ s = true := fun w h => hts w (List.mem_cons_of_mem _ h)
  have hown : s.vm.findClass RL = some m.cls := findClass_of_methodNamed B.named
  have hlocks := B.notSynchronized
  subst hsz
  have hD := hD0.self (sz := s.heap.size)
  generalize hAe : va_A (PW cA S ++ [oJ cA qo fo]) s.heap.size = A at hD hTX ⊢
  have hA : ∀ q : Nat, s.heap.size ≤ q → A q := fun q h => by rw [← hAe]; exact Or.inr h
  have hS : va_S A s.heap s.heap [] := va_S.rf
  have hl := lv_entry ([.ref x, .int p0, .int p1, .int p2, .ref qo]) (n := 6) (Nat.le_of_ble_eq_true rfl)
  rw [lg_entry_eq]
  generalize (lg_sl ([.ref x, .int p0, .int p1, .int p2, .ref qo]) ++ List.replicate (6 - (lg_sl ([.ref x, .int p0, .int p1, .int p2, .ref qo])).length) Slot.unset).toArray = ls at hl ⊢
  have hl : lv_has ls 6 [(0, .ref x), (1, .int p0), (2, .int p1), (3, .int p2), (4, .ref qo)] := hl
  refine lv_aload hx hb dL_add_0 (lv_at hl 4 rfl) ?_
  refine lv_iconst (v := 0) hx hb dL_add_2 (by decide) ?_
  refine lv_aload_n hx hb dL_add_3 rfl (lv_at hl 0 rfl) ?_
  refine lv_iload_n hx hb dL_add_4 rfl (lv_at hl 1 rfl) ?_
  refine lv_iload_n hx hb dL_add_5 rfl (lv_at hl 2 rfl) ?_
  refine lv_iload_n hx hb dL_add_6 rfl (lv_at hl 3 rfl) ?_
  rcases kOut_01 p0 0 498 with h1 | h1
  · rcases kOut_01 p1 2 4 with h2 | h2
    · have hn8 := h.n8
      by_cases hn : n < 8
      · refine kj_i (List.Perm.refl _) (va_runV (As := [.int p0, .int p1, .int p2]) (rest := [.int 0, .ref qo]) ⟨hx, hb, hml, hown, htT⟩ (c_add l D cA _ S x h.hx ar h.q0 h.R.1 p0 p1 p2 hz h1 h2 (by rw [h.x2]; exact fun h9 => by have := (nI_ltI (a := n) (b := 0) (by omega) (by omega)).mp h9; omega) (by rw [h.x2]; exact (nI_ltI (a := n) (b := 8) (by omega) (by omega)).mpr hn)) (cwV 3 htT (kg_V m_ml_L_7 m_im_X5_add m_sl_X5_add m_in_X5 m_cd_X5_add) rfl rfl rfl (by decide +kernel) ⟨Nat.le_of_ble_eq_true rfl, Nat.le_of_ble_eq_true rfl⟩) (kj_V (List.Perm.refl _) hK hP hD hTB (kj_rc (List.Perm.refl _) hK hP h.hx (Nat.le_of_ble_eq_true rfl) rfl)) rfl rfl hl.1 rfl (lv_room (Nat.le_of_ble_eq_true rfl)) dL_add_7 ⟨Nat.le_of_ble_eq_true rfl, Nat.le_of_ble_eq_true rfl⟩) hP hD hS hA (fun r_1 x_1 H locs hq_1 hP hD hS => ?_)
        refine lv_i2l (v := r_1.toInt64) hx hb dL_add_10 rfl ?_
        refine kw_last hx hb hK hP hD hS dL_add_11 (fun H locs hP hD hS => ?_)
        refine lv_goto (tgt := 23) hx hb dL_add_12 (by decide) ?_
        refine lv_iconst (v := 0) hx hb dL_add_23 (by decide) ?_
        exact W.iret (v := 0) hx hb hr (fun t ht hW => ⟨⟨0, (x_1, vp_updL fo 0 r_1.toInt64), rfl, (Or.inr (Or.inr (⟨rfl, h1, h2, hn, hq_1.2, by rw [hq_1.1, h.x2]⟩))), by rw [ht]; exact hP, va_K.moved hW.alike hK, hD⟩, hS.F ht⟩) hS.2.2 dL_add_24
      · refine kj_t (List.Perm.refl _) (vx_runV (As := [.int p0, .int p1, .int p2]) (rest := [.int 0, .ref qo]) ⟨hx, hb, hml, hown, htT⟩ (c_add_full l hst D cA _ S x h.hx ar h.q0 h.R.1 p0 p1 p2 h1 h2 (by rw [h.x2]; exact fun h9 => by have := (nI_ltI (a := n) (b := 0) (by omega) (by omega)).mp h9; omega) (by rw [h.x2]; exact fun h9 => hn ((nI_ltI (a := n) (b := 8) (by omega) (by omega)).mp h9))) (cwV 3 htT (kg_V m_ml_L_7 m_im_X5_add m_sl_X5_add m_in_X5 m_cd_X5_add) rfl rfl rfl (by decide +kernel) ⟨Nat.le_of_ble_eq_true rfl, Nat.le_of_ble_eq_true rfl⟩) (kj_VX (List.Perm.refl _) hK hP hD hTB hTX hS hA (kj_rc (List.Perm.refl _) hK hP h.hx (Nat.le_of_ble_eq_true rfl) rfl)) rfl rfl hl.1 rfl (lv_room (Nat.le_of_ble_eq_true rfl)) dL_add_7 ⟨Nat.le_of_ble_eq_true rfl, Nat.le_of_ble_eq_true rfl⟩) hP hD hS hA (fun ce q9 H locs hP hD hS hce hcv hcl => ?_)
        refine vx_catch hown [⟨0, 12, 15, 13⟩] ⟨0, 12, 19, 15⟩ [] (hTab.trans rfl) (fun z hz => by obtain rfl := List.mem_singleton.mp hz; first | exact Or.inr ⟨by decide, _, htT _ m_cl_L_13, hTX.2.2.2 ("java/lang/IllegalStateException", "java/lang/IllegalArgumentException") (by decide +kernel)⟩) rfl (by decide) (htT _ m_cl_L_15) (hTB.use (n_ca _ (by decide))) hce hcv hcl ?_
        refine lv_astore (lv' := [(5, .ref q9), (0, .ref x), (1, .int p0), (2, .int p1), (3, .int p2), (4, .ref qo)]) hx hb dL_add_19 hl (by decide) rfl (fun ls hl => ?_)
        refine lv_iconst (v := 2) hx hb dL_add_21 (by decide) ?_
        refine W.widen (k := 8) (n := 48) (Nat.le_of_ble_eq_true rfl) (Nat.le_of_ble_eq_true rfl) ?_
        exact W.iret (v := 2) hx hb hr (fun t ht hW => ⟨⟨2, (S, fo), rfl, (Or.inr (Or.inl (⟨rfl, h1, h2, by omega, rfl⟩))), by rw [ht]; exact hP, va_K.moved hW.alike hK, hD⟩, hS.F ht⟩) hS.2.2 dL_add_22
    · refine kj_t (List.Perm.refl _) (vx_runV (As := [.int p0, .int p1, .int p2]) (rest := [.int 0, .ref qo]) ⟨hx, hb, hml, hown, htT⟩ (c_add_t2 l hst D cA _ S x h.hx p0 p1 p2 h1 h2) (cwV 3 htT (kg_V m_ml_L_7 m_im_X5_add m_sl_X5_add m_in_X5 m_cd_X5_add) rfl rfl rfl (by decide +kernel) ⟨Nat.le_of_ble_eq_true rfl, Nat.le_of_ble_eq_true rfl⟩) (kj_VX (List.Perm.refl _) hK hP hD hTB hTX hS hA (kj_rc (List.Perm.refl _) hK hP h.hx (Nat.le_of_ble_eq_true rfl) rfl)) rfl rfl hl.1 rfl (lv_room (Nat.le_of_ble_eq_true rfl)) dL_add_7 ⟨Nat.le_of_ble_eq_true rfl, Nat.le_of_ble_eq_true rfl⟩) hP hD hS hA (fun ce q9 H locs hP hD hS hce hcv hcl => ?_)
      refine vx_catch hown [] ⟨0, 12, 15, 13⟩ [⟨0, 12, 19, 15⟩] (hTab.trans rfl) (fun z hz => nomatch hz) rfl (by decide) (htT _ m_cl_L_13) (hTB.use (n_ca _ (by decide))) hce hcv hcl ?_
      refine lv_astore (lv' := [(5, .ref q9), (0, .ref x), (1, .int p0), (2, .int p1), (3, .int p2), (4, .ref qo)]) hx hb dL_add_15 hl (by decide) rfl (fun ls hl => ?_)
      refine lv_iconst (v := 1) hx hb dL_add_17 (by decide) ?_
      refine W.widen (k := 8) (n := 48) (Nat.le_of_ble_eq_true rfl) (Nat.le_of_ble_eq_true rfl) ?_
      exact W.iret (v := 1) hx hb hr (fun t ht hW => ⟨⟨1, (S, fo), rfl, (Or.inl (⟨rfl, Or.inr ⟨h1, h2⟩, rfl⟩)), by rw [ht]; exact hP, va_K.moved hW.alike hK, hD⟩, hS.F ht⟩) hS.2.2 dL_add_18
  · refine kj_t (List.Perm.refl _) (vx_runV (As := [.int p0, .int p1, .int p2]) (rest := [.int 0, .ref qo]) ⟨hx, hb, hml, hown, htT⟩ (c_add_t1 l hst D cA _ S x h.hx p0 p1 p2 h1) (cwV 3 htT (kg_V m_ml_L_7 m_im_X5_add m_sl_X5_add m_in_X5 m_cd_X5_add) rfl rfl rfl (by decide +kernel) ⟨Nat.le_of_ble_eq_true rfl, Nat.le_of_ble_eq_true rfl⟩) (kj_VX (List.Perm.refl _) hK hP hD hTB hTX hS hA (kj_rc (List.Perm.refl _) hK hP h.hx (Nat.le_of_ble_eq_true rfl) rfl)) rfl rfl hl.1 rfl (lv_room (Nat.le_of_ble_eq_true rfl)) dL_add_7 ⟨Nat.le_of_ble_eq_true rfl, Nat.le_of_ble_eq_true rfl⟩) hP hD hS hA (fun ce q9 H locs hP hD hS hce hcv hcl => ?_)
    refine vx_catch hown [] ⟨0, 12, 15, 13⟩ [⟨0, 12, 19, 15⟩] (hTab.trans rfl) (fun z hz => nomatch hz) rfl (by decide) (htT _ m_cl_L_13) (hTB.use (n_ca _ (by decide))) hce hcv hcl ?_
    refine lv_astore (lv' := [(5, .ref q9), (0, .ref x), (1, .int p0), (2, .int p1), (3, .int p2), (4, .ref qo)]) hx hb dL_add_15 hl (by decide) rfl (fun ls hl => ?_)
    refine lv_iconst (v := 1) hx hb dL_add_17 (by decide) ?_
    refine W.widen (k := 8) (n := 48) (Nat.le_of_ble_eq_true rfl) (Nat.le_of_ble_eq_true rfl) ?_
    exact W.iret (v := 1) hx hb hr (fun t ht hW => ⟨⟨1, (S, fo), rfl, (Or.inl (⟨rfl, Or.inl h1, rfl⟩)), by rw [ht]; exact hP, va_K.moved hW.alike hK, hD⟩, hS.F ht⟩) hS.2.2 dL_add_18

set_option maxRecDepth 100000 in
set_option maxHeartbeats 4000000 in
theorem wx_why (l : Launch) (hst : l.stackTraces = false) (D : va_G) (cA : Nat → ClassId) (sz : Nat) (S : Pool) (x qo : Nat) (fo : Nat → Int64) (n na : Nat) (hh cc : Int32) (ar ak : Nat) (h : INVC n na hh cc S x ar ak) (p0 p1 p2 p3 : Int32) : Met l yL_why (Cond.codeWith yL_why cL_why 7 (some .int) [(0, 14, 17, 21), (0, 14, 21, 13)] :: TT) ({ frames := 26, cells := 1, slots := 6, locals := 624 }) (va_Pc [.ref x, .int p0, .int p1, .int p2, .int p3, .ref qo] (kPreX D cA (PW cA S ++ [oJ cA qo fo]) sz)) (va_Qi (fun (r_ : Int32) (x_ : Pool × (Nat → Int64)) => (r_ = 1 ∧ kIn p0 0 (nI n - 1) = 0 ∧ x_.1 = S) ∨ (r_ = 2 ∧ ∃ j a, j < n ∧ p0 = nI j ∧ gP S ar j = some a ∧ (kOut p1 0 9999 = 1 ∨ kOut p2 0 9 = 1 ∨ kOut p3 0 9 = 1) ∧ x_.1 = S) ∨ (r_ = 0 ∧ ∃ j a, j < n ∧ p0 = nI j ∧ gP S ar j = some a ∧ kOut p1 0 9999 = 0 ∧ kOut p2 0 9 = 0 ∧ kOut p3 0 9 = 0 ∧ x_.1 = (cBec S ak p1 p2 p3) ∧ x_.2 = vp_updL fo 0 (cRsn (cBec S ak p1 p2 p3) x ak (cHas (cBec S ak p1 p2 p3) ar (cV (cBec S ak p1 p2 p3) x ar ak 7) a) a).toInt64)) (fun x_ => kB D cA (va_A (PW cA S ++ [oJ cA qo fo]) sz) (PW cA x_.1 ++ [oJ cA qo x_.2])) (va_A (PW cA S ++ [oJ cA qo fo]) sz)) 1 6 (va_A (PW cA S ++ [oJ cA qo fo]) sz) := by
  refine kt_ofWH (cc := cL_why) (maxL := 7) (ret := (some .int)) (by decide) rfl ?_
  intro p e s m args below meth c s₁ B hml hTab hv
  obtain ⟨rfl, ⟨hsz, hP, hK, hD0, hTB⟩, hTX⟩ := hv
  have hx := B.exec
  have hb := B.bytes
  have hr := B.returns
  have hts := atoms_spec (ws := Cond.codeWith yL_why cL_why 7 (some .int) [(0, 14, 17, 21), (0, 14, 21, 13)] :: TT) B.pre
  have htT : ∀ w ∈ TT, w.before _ s = true := fun w h => hts w (List.mem_cons_of_mem _ h)
  have hown : s.vm.findClass RL = some m.cls := findClass_of_methodNamed B.named
  have hlocks := B.notSynchronized
  subst hsz
  have hD := hD0.self (sz := s.heap.size)
  generalize hAe : va_A (PW cA S ++ [oJ cA qo fo]) s.heap.size = A at hD hTX ⊢
  have hA : ∀ q : Nat, s.heap.size ≤ q → A q := fun q h => by rw [← hAe]; exact Or.inr h
  have hS : va_S A s.heap s.heap [] := va_S.rf
  have hl := lv_entry ([.ref x, .int p0, .int p1, .int p2, .int p3, .ref qo]) (n := 7) (Nat.le_of_ble_eq_true rfl)
  rw [lg_entry_eq]
  generalize (lg_sl ([.ref x, .int p0, .int p1, .int p2, .int p3, .ref qo]) ++ List.replicate (7 - (lg_sl ([.ref x, .int p0, .int p1, .int p2, .int p3, .ref qo])).length) Slot.unset).toArray = ls at hl ⊢
  have hl : lv_has ls 7 [(0, .ref x), (1, .int p0), (2, .int p1), (3, .int p2), (4, .int p3), (5, .ref qo)] := hl
  refine lv_aload hx hb dL_why_0 (lv_at hl 5 rfl) ?_
  refine lv_iconst (v := 0) hx hb dL_why_2 (by decide) ?_
  refine lv_aload_n hx hb dL_why_3 rfl (lv_at hl 0 rfl) ?_
  refine lv_iload_n hx hb dL_why_4 rfl (lv_at hl 1 rfl) ?_
  refine lv_iload_n hx hb dL_why_5 rfl (lv_at hl 2 rfl) ?_
  refine lv_iload_n hx hb dL_why_6 rfl (lv_at hl 3 rfl) ?_
  refine lv_iload hx hb dL_why_7 (lv_at hl 4 rfl) ?_
  rcases h.at p0 with ⟨hsw, hk0⟩ | ⟨j, a, hjn, rfl, hja, hsw⟩
  · refine kj_t (List.Perm.refl _) (vx_runV (As := [.int p0, .int p1, .int p2, .int p3]) (rest := [.int 0, .ref qo]) ⟨hx, hb, hml, hown, htT⟩ (c_why_t l hst D cA _ S x h.hx ar h.q0 h.R.1 p0 p1 p2 p3 hsw) (cwV 4 htT (kg_V m_ml_L_67 m_im_X5_why m_sl_X5_why m_in_X5 m_cd_X5_why) rfl rfl rfl (by decide +kernel) ⟨Nat.le_of_ble_eq_true rfl, Nat.le_of_ble_eq_true rfl⟩) (kj_VX (List.Perm.refl _) hK hP hD hTB hTX hS hA (kj_rc (List.Perm.refl _) hK hP h.hx (Nat.le_of_ble_eq_true rfl) rfl)) rfl rfl hl.1 rfl (lv_room (Nat.le_of_ble_eq_true rfl)) dL_why_9 ⟨Nat.le_of_ble_eq_true rfl, Nat.le_of_ble_eq_true rfl⟩) hP hD hS hA (fun ce q9 H locs hP hD hS hce hcv hcl => ?_)
    refine vx_catch hown [] ⟨0, 14, 17, 21⟩ [⟨0, 14, 21, 13⟩] (hTab.trans rfl) (fun z hz => nomatch hz) rfl (by decide) (htT _ m_cl_L_21) (hTB.use (n_ca _ (by decide))) hce hcv hcl ?_
    refine lv_astore (lv' := [(6, .ref q9), (0, .ref x), (1, .int p0), (2, .int p1), (3, .int p2), (4, .int p3), (5, .ref qo)]) hx hb dL_why_17 hl (by decide) rfl (fun ls hl => ?_)
    refine lv_iconst (v := 1) hx hb dL_why_19 (by decide) ?_
    exact W.iret (v := 1) hx hb hr (fun t ht hW => ⟨⟨1, (S, fo), rfl, (Or.inl (⟨rfl, hk0, rfl⟩)), by rw [ht]; exact hP, va_K.moved hW.alike hK, hD⟩, hS.F ht⟩) hS.2.2 dL_why_20
  · have hj : j < 8 := by have := h.n8; omega
    rcases kOut_01 p1 0 9999 with h1 | h1
    · rcases kOut_01 p2 0 9 with h2 | h2
      · rcases kOut_01 p3 0 9 with h3 | h3
        · refine kj_i (List.Perm.refl _) (va_runV (As := [.int (nI j), .int p1, .int p2, .int p3]) (rest := [.int 0, .ref qo]) ⟨hx, hb, hml, hown, htT⟩ (c_why l D cA _ S x h.hx ar h.q0 ak h.q1 h.kk h.R j hj a hja (nI j) hsw p1 p2 p3 h1 h2 h3) (cwV 4 htT (kg_V m_ml_L_67 m_im_X5_why m_sl_X5_why m_in_X5 m_cd_X5_why) rfl rfl rfl (by decide +kernel) ⟨Nat.le_of_ble_eq_true rfl, Nat.le_of_ble_eq_true rfl⟩) (kj_V (List.Perm.refl _) hK hP hD hTB (kj_rc (List.Perm.refl _) hK hP h.hx (Nat.le_of_ble_eq_true rfl) rfl)) rfl rfl hl.1 rfl (lv_room (Nat.le_of_ble_eq_true rfl)) dL_why_9 ⟨Nat.le_of_ble_eq_true rfl, Nat.le_of_ble_eq_true rfl⟩) hP hD hS hA (fun r_1 x_1 H locs hq_1 hP hD hS => ?_)
          refine lv_i2l (v := r_1.toInt64) hx hb dL_why_12 rfl ?_
          refine kw_last hx hb hK hP hD hS dL_why_13 (fun H locs hP hD hS => ?_)
          refine lv_goto (tgt := 25) hx hb dL_why_14 (by decide) ?_
          refine lv_iconst (v := 0) hx hb dL_why_25 (by decide) ?_
          refine W.widen (k := 1) (n := 6) (Nat.le_of_ble_eq_true rfl) (Nat.le_of_ble_eq_true rfl) ?_
          exact W.iret (v := 0) hx hb hr (fun t ht hW => ⟨⟨0, (x_1, vp_updL fo 0 r_1.toInt64), rfl, (Or.inr (Or.inr (⟨rfl, j, a, hjn, rfl, hja, h1, h2, h3, hq_1.2, by rw [hq_1.1]⟩))), by rw [ht]; exact hP, va_K.moved hW.alike hK, hD⟩, hS.F ht⟩) hS.2.2 dL_why_26
        · refine kj_t (List.Perm.refl _) (vx_runV (As := [.int (nI j), .int p1, .int p2, .int p3]) (rest := [.int 0, .ref qo]) ⟨hx, hb, hml, hown, htT⟩ (c_why_q3 l hst D cA _ S x h.hx ar h.q0 ak h.q1 h.kk h.R j hj a hja (nI j) hsw p1 p2 p3 h1 h2 h3) (cwV 4 htT (kg_V m_ml_L_67 m_im_X5_why m_sl_X5_why m_in_X5 m_cd_X5_why) rfl rfl rfl (by decide +kernel) ⟨Nat.le_of_ble_eq_true rfl, Nat.le_of_ble_eq_true rfl⟩) (kj_VX (List.Perm.refl _) hK hP hD hTB hTX hS hA (kj_rc (List.Perm.refl _) hK hP h.hx (Nat.le_of_ble_eq_true rfl) rfl)) rfl rfl hl.1 rfl (lv_room (Nat.le_of_ble_eq_true rfl)) dL_why_9 ⟨Nat.le_of_ble_eq_true rfl, Nat.le_of_ble_eq_true rfl⟩) hP hD hS hA (fun ce q9 H locs hP hD hS hce hcv hcl => ?_)
          refine vx_catch hown [⟨0, 14, 17, 21⟩] ⟨0, 14, 21, 13⟩ [] (hTab.trans rfl) (fun z hz => by obtain rfl := List.mem_singleton.mp hz; first | exact Or.inr ⟨by decide, _, htT _ m_cl_L_21, hTX.2.2.2 ("java/lang/IllegalArgumentException", "java/lang/IndexOutOfBoundsException") (by decide +kernel)⟩) rfl (by decide) (htT _ m_cl_L_13) (hTB.use (n_ca _ (by decide))) hce hcv hcl ?_
          refine lv_astore (lv' := [(6, .ref q9), (0, .ref x), (1, .int (nI j)), (2, .int p1), (3, .int p2), (4, .int p3), (5, .ref qo)]) hx hb dL_why_21 hl (by decide) rfl (fun ls hl => ?_)
          refine lv_iconst (v := 2) hx hb dL_why_23 (by decide) ?_
          exact W.iret (v := 2) hx hb hr (fun t ht hW => ⟨⟨2, (S, fo), rfl, (Or.inr (Or.inl (⟨rfl, j, a, hjn, rfl, hja, Or.inr (Or.inr h3), rfl⟩))), by rw [ht]; exact hP, va_K.moved hW.alike hK, hD⟩, hS.F ht⟩) hS.2.2 dL_why_24
      · refine kj_t (List.Perm.refl _) (vx_runV (As := [.int (nI j), .int p1, .int p2, .int p3]) (rest := [.int 0, .ref qo]) ⟨hx, hb, hml, hown, htT⟩ (c_why_q2 l hst D cA _ S x h.hx ar h.q0 ak h.q1 h.kk h.R j hj a hja (nI j) hsw p1 p2 p3 h1 h2) (cwV 4 htT (kg_V m_ml_L_67 m_im_X5_why m_sl_X5_why m_in_X5 m_cd_X5_why) rfl rfl rfl (by decide +kernel) ⟨Nat.le_of_ble_eq_true rfl, Nat.le_of_ble_eq_true rfl⟩) (kj_VX (List.Perm.refl _) hK hP hD hTB hTX hS hA (kj_rc (List.Perm.refl _) hK hP h.hx (Nat.le_of_ble_eq_true rfl) rfl)) rfl rfl hl.1 rfl (lv_room (Nat.le_of_ble_eq_true rfl)) dL_why_9 ⟨Nat.le_of_ble_eq_true rfl, Nat.le_of_ble_eq_true rfl⟩) hP hD hS hA (fun ce q9 H locs hP hD hS hce hcv hcl => ?_)
        refine vx_catch hown [⟨0, 14, 17, 21⟩] ⟨0, 14, 21, 13⟩ [] (hTab.trans rfl) (fun z hz => by obtain rfl := List.mem_singleton.mp hz; first | exact Or.inr ⟨by decide, _, htT _ m_cl_L_21, hTX.2.2.2 ("java/lang/IllegalArgumentException", "java/lang/IndexOutOfBoundsException") (by decide +kernel)⟩) rfl (by decide) (htT _ m_cl_L_13) (hTB.use (n_ca _ (by decide))) hce hcv hcl ?_
        refine lv_astore (lv' := [(6, .ref q9), (0, .ref x), (1, .int (nI j)), (2, .int p1), (3, .int p2), (4, .int p3), (5, .ref qo)]) hx hb dL_why_21 hl (by decide) rfl (fun ls hl => ?_)
        refine lv_iconst (v := 2) hx hb dL_why_23 (by decide) ?_
        exact W.iret (v := 2) hx hb hr (fun t ht hW => ⟨⟨2, (S, fo), rfl, (Or.inr (Or.inl (⟨rfl, j, a, hjn, rfl, hja, Or.inr (Or.inl h2), rfl⟩))), by rw [ht]; exact hP, va_K.moved hW.alike hK, hD⟩, hS.F ht⟩) hS.2.2 dL_why_24
    · refine kj_t (List.Perm.refl _) (vx_runV (As := [.int (nI j), .int p1, .int p2, .int p3]) (rest := [.int 0, .ref qo]) ⟨hx, hb, hml, hown, htT⟩ (c_why_q1 l hst D cA _ S x h.hx ar h.q0 ak h.q1 h.kk h.R j hj a hja (nI j) hsw p1 p2 p3 h1) (cwV 4 htT (kg_V m_ml_L_67 m_im_X5_why m_sl_X5_why m_in_X5 m_cd_X5_why) rfl rfl rfl (by decide +kernel) ⟨Nat.le_of_ble_eq_true rfl, Nat.le_of_ble_eq_true rfl⟩) (kj_VX (List.Perm.refl _) hK hP hD hTB hTX hS hA (kj_rc (List.Perm.refl _) hK hP h.hx (Nat.le_of_ble_eq_true rfl) rfl)) rfl rfl hl.1 rfl (lv_room (Nat.le_of_ble_eq_true rfl)) dL_why_9 ⟨Nat.le_of_ble_eq_true rfl, Nat.le_of_ble_eq_true rfl⟩) hP hD hS hA (fun ce q9 H locs hP hD hS hce hcv hcl => ?_)
      refine vx_catch hown [⟨0, 14, 17, 21⟩] ⟨0, 14, 21, 13⟩ [] (hTab.trans rfl) (fun z hz => by obtain rfl := List.mem_singleton.mp hz; first | exact Or.inr ⟨by decide, _, htT _ m_cl_L_21, hTX.2.2.2 ("java/lang/IllegalArgumentException", "java/lang/IndexOutOfBoundsException") (by decide +kernel)⟩) rfl (by decide) (htT _ m_cl_L_13) (hTB.use (n_ca _ (by decide))) hce hcv hcl ?_
      refine lv_astore (lv' := [(6, .ref q9), (0, .ref x), (1, .int (nI j)), (2, .int p1), (3, .int p2), (4, .int p3), (5, .ref qo)]) hx hb dL_why_21 hl (by decide) rfl (fun ls hl => ?_)
      refine lv_iconst (v := 2) hx hb dL_why_23 (by decide) ?_
      exact W.iret (v := 2) hx hb hr (fun t ht hW => ⟨⟨2, (S, fo), rfl, (Or.inr (Or.inl (⟨rfl, j, a, hjn, rfl, hja, Or.inl h1, rfl⟩))), by rw [ht]; exact hP, va_K.moved hW.alike hK, hD⟩, hS.F ht⟩) hS.2.2 dL_why_24

