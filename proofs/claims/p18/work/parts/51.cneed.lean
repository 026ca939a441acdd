set_option maxRecDepth 100000 in
set_option maxHeartbeats 4000000 in
/-- need -/
theorem c_need (l : Launch) (D : va_G) (cA : Nat → ClassId) (sz : Nat) (S : Pool) (x : Nat) (hx5 : isO S x 5) (ar : Nat) (hq0 : gQ S x 0 = some ar) (ak : Nat) (hq1 : gQ S x 1 = some ak) (hak : isO S ak 1) (hR : okR S ar) (j : Nat) (hj : j < 8) (a : Nat) (hja : gP S ar j = some a) (p0 : Int32) (hsw : kSw S ar p0 = some a) (p1 p2 : Int32) (hn1 : ¬ p1 = -1) (b2 : Nat) (hs2 : kSw S ar p1 = some b2) (i2 : Nat) (hi2 : i2 < 8) (hjb : gP S ar i2 = some b2) (hv : kOut p2 0 (gI S b2 2 - 1) = 0) (hlt : p1 < p0) : Met l yX5_need (Cond.code yX5_need cX5_need 6 (some .int) :: TT) ({ frames := 2, cells := 0, slots := 0, locals := 43 }) (va_Pc [.ref x, .int p0, .int p1, .int p2] (kPre D cA (PW cA S) sz)) (va_Qi (fun (r_ : Int32) (x_ : Pool) => r_ = gI S a 16 ∧ x_ = pI (pI S a 16 p1) a 17 p2) (fun x_ => kB D cA (va_A (PW cA S) sz) (PW cA x_)) (va_A (PW cA S) sz)) 0 0 (va_A (PW cA S) sz) := by
  refine Met.ofW (cc := cX5_need) (maxL := 6) (ret := (some .int)) (by decide) rfl ?_
  intro p e s m args below meth c s₁ B hml hv
  obtain ⟨rfl, hsz, hP, hK, hD0, hTB⟩ := hv
  have hx := B.exec
  have hb := B.bytes
  have hr := B.returns
  have hts := atoms_spec (ws := Cond.code yX5_need cX5_need 6 (some .int) :: TT) B.pre
  have htT : ∀ w ∈ TT, w.before _ s = true := fun w h => hts w (List.mem_cons_of_mem _ h)
  have hown : s.vm.findClass RX5 = some m.cls := findClass_of_methodNamed B.named
  have hlocks := B.notSynchronized
  subst hsz
  have hD := hD0.self (sz := s.heap.size)
  generalize hAe : va_A (PW cA S) s.heap.size = A at hD ⊢
  have hA : ∀ q : Nat, s.heap.size ≤ q → A q := fun q h => by rw [← hAe]; exact Or.inr h
  have hS : va_S A s.heap s.heap [] := va_S.rf
  have hl := lv_entry ([.ref x, .int p0, .int p1, .int p2]) (n := 6) (Nat.le_of_ble_eq_true rfl)
  rw [lg_entry_eq]
  generalize (lg_sl ([.ref x, .int p0, .int p1, .int p2]) ++ List.replicate (6 - (lg_sl ([.ref x, .int p0, .int p1, .int p2])).length) Slot.unset).toArray = ls at hl ⊢
  have hl : lv_has ls 6 [(0, .ref x), (1, .int p0), (2, .int p1), (3, .int p2)] := hl
  refine lv_aload_n hx hb dX5_need_0 rfl (lv_at hl 0 rfl) ?_
  refine lv_iload_n hx hb dX5_need_1 rfl (lv_at hl 1 rfl) ?_
  refine kc_q (va_runV (As := [.int p0]) (rest := []) ⟨hx, hb, hml, hown, htT⟩ (c_known l D cA _ S x hx5 ar hq0 hR.1 p0 a hsw) (cwV 1 htT (kg_V m_ml_X5_45 m_im_X5_known m_sl_X5_known m_in_X5 m_cd_X5_known) rfl rfl rfl (by decide +kernel) ⟨Nat.le_of_ble_eq_true rfl, Nat.le_of_ble_eq_true rfl⟩) (kp_V hK hP hD hTB (kp_rc hK hP hx5 (Nat.le_of_ble_eq_true rfl) rfl)) rfl rfl hl.1 rfl (lv_room (Nat.le_of_ble_eq_true rfl)) dX5_need_2 ⟨Nat.le_of_ble_eq_true rfl, Nat.le_of_ble_eq_true rfl⟩) hD hS hA (fun r_1 x_1 H locs hq_1 hP hD hS => ?_)
  rw [hq_1.1]
  rw [hq_1.2] at hP hD
  refine lv_astore (lv' := [(4, .ref a), (0, .ref x), (1, .int p0), (2, .int p1), (3, .int p2)]) hx hb dX5_need_5 hl (by decide) rfl (fun ls hl => ?_)
  refine lv_iload_n hx hb dX5_need_7 rfl (lv_at hl 3 rfl) ?_
  refine lv_iconst (v := (-1)) hx hb dX5_need_8 (by decide) ?_
  refine lv_icmp_eq (tgt := 36) hx hb dX5_need_9 (by decide) (fun c_2 => ?_) (fun c_2 => ?_)
  · exact absurd c_2 hn1
  · refine lv_aload_n hx hb dX5_need_12 rfl (lv_at hl 1 rfl) ?_
    refine lv_iload_n hx hb dX5_need_13 rfl (lv_at hl 3 rfl) ?_
    refine kc_q (va_runV (As := [.int p1]) (rest := []) ⟨hx, hb, hml, hown, htT⟩ (c_known l D cA _ S x hx5 ar hq0 hR.1 p1 b2 hs2) (cwV 1 htT (kg_V m_ml_X5_45 m_im_X5_known m_sl_X5_known m_in_X5 m_cd_X5_known) rfl rfl rfl (by decide +kernel) ⟨Nat.le_of_ble_eq_true rfl, Nat.le_of_ble_eq_true rfl⟩) (kp_V hK hP hD hTB (kp_rc hK hP hx5 (Nat.le_of_ble_eq_true rfl) rfl)) rfl rfl hl.1 rfl (lv_room (Nat.le_of_ble_eq_true rfl)) dX5_need_14 ⟨Nat.le_of_ble_eq_true rfl, Nat.le_of_ble_eq_true rfl⟩) hD hS hA (fun r_3 x_3 H locs hq_3 hP hD hS => ?_)
    rw [hq_3.1]
    rw [hq_3.2] at hP hD
    refine lv_iload_n hx hb dX5_need_17 rfl (lv_at hl 4 rfl) ?_
    refine kc_v (va_runS (As := [.ref b2, .int p2]) (rest := []) ⟨hx, hb, hml, hown, htT⟩ (c_checkVariant l D cA _ S b2 (hR.2 i2 hi2 b2 hjb).1.1 p2 hv) (cwS 2 htT (kg_S m_ml_X5_49 m_st_X5_checkVariant m_in_X5 m_cd_X5_checkVariant) rfl rfl rfl (by decide +kernel) ⟨Nat.le_of_ble_eq_true rfl, Nat.le_of_ble_eq_true rfl⟩) (kp_S hK hP hD hTB) rfl rfl hl.1 rfl (lv_room (Nat.le_of_ble_eq_true rfl)) dX5_need_18 ⟨Nat.le_of_ble_eq_true rfl, Nat.le_of_ble_eq_true rfl⟩) hD hS hA (fun x_4 H locs hq_4 hP hD hS => ?_)
    rw [hq_4] at hP hD
    refine lv_iload_n hx hb dX5_need_21 rfl (lv_at hl 3 rfl) ?_
    refine lv_iload_n hx hb dX5_need_22 rfl (lv_at hl 2 rfl) ?_
    refine lv_icmp_lt (tgt := 36) hx hb dX5_need_23 (by decide) (fun c_5 => ?_) (fun c_5 => ?_)
    · refine lv_aload hx hb dX5_need_36 (lv_at hl 0 rfl) ?_
      refine kx_getiN hx hb htT m_u_X3 hown hK hP ((hR.2 j hj a hja).1.1) (Nat.le_of_ble_eq_true rfl) rfl 16 (by decide) (by decide) rfl (hTB.use m_fl_X5_99) dX5_need_38 ?_
      refine lv_istore (lv' := [(5, .int (gI S a 16)), (4, .ref a), (0, .ref x), (1, .int p0), (2, .int p1), (3, .int p2)]) hx hb dX5_need_41 hl (by decide) rfl (fun ls hl => ?_)
      refine lv_aload hx hb dX5_need_43 (lv_at hl 1 rfl) ?_
      refine lv_iload_n hx hb dX5_need_45 rfl (lv_at hl 4 rfl) ?_
      refine kx_putiN (ty := .int) hx hb htT m_u_X3 tyX3 tyX3_ok nmX3 hown hK hP hD hS ((hR.2 j hj a hja).1.1) (Nat.le_of_ble_eq_true rfl) rfl 16 (by decide) (by decide) rfl (hTB.use m_fl_X5_99) rfl (by decide +kernel) rfl rfl dX5_need_46 (fun H locs hP hD hS => ?_)
      refine lv_aload hx hb dX5_need_49 (lv_at hl 1 rfl) ?_
      refine lv_iload_n hx hb dX5_need_51 rfl (lv_at hl 5 rfl) ?_
      refine kx_putiN (ty := .int) hx hb htT m_u_X3 tyX3 tyX3_ok nmX3 hown hK hP hD hS ((hR.2 j hj a hja).1.1) (Nat.le_of_ble_eq_true rfl) rfl 17 (by decide) (by decide) rfl (hTB.use m_fl_X5_102) rfl (by decide +kernel) rfl rfl dX5_need_52 (fun H locs hP hD hS => ?_)
      refine lv_iload hx hb dX5_need_55 (lv_at hl 0 rfl) ?_
      exact W.iret (v := gI S a 16) hx hb hr (fun t ht hW => ⟨⟨gI S a 16, pI (pI S a 16 p1) a 17 p2, rfl, ⟨rfl, rfl⟩, by rw [ht]; exact hP, va_K.moved hW.alike hK, hD⟩, hS.F ht⟩) hS.2.2 dX5_need_57
    · exact absurd hlt c_5

set_option maxRecDepth 100000 in
set_option maxHeartbeats 4000000 in
theorem c_need_2 (l : Launch) (hst : l.stackTraces = false) (D : va_G) (cA : Nat → ClassId) (sz : Nat) (S : Pool) (x : Nat) (hx5 : isO S x 5) (ar : Nat) (hq0 : gQ S x 0 = some ar) (ak : Nat) (hq1 : gQ S x 1 = some ak) (hak : isO S ak 1) (hR : okR S ar) (j : Nat) (hj : j < 8) (a : Nat) (hja : gP S ar j = some a) (p0 : Int32) (hsw : kSw S ar p0 = some a) (p1 p2 : Int32) (hn1 : ¬ p1 = -1) (b2 : Nat) (hs2 : kSw S ar p1 = some b2) (i2 : Nat) (hi2 : i2 < 8) (hjb : gP S ar i2 = some b2) (hv : kOut p2 0 (gI S b2 2 - 1) = 0) (hlt : ¬ p1 < p0) : vx_Met l yX5_need (Cond.code yX5_need cX5_need 6 (some .int) :: TT) ({ frames := 6, cells := 1, slots := 6, locals := 82 }) (va_Pc [.ref x, .int p0, .int p1, .int p2] (kPreX D cA (PW cA S) sz)) kNo (kXC D cA (PW cA S) "java/lang/IllegalArgumentException" (va_A (PW cA S) sz)) 1 6 (va_A (PW cA S) sz) := by
  refine vx_ofW (cc := cX5_need) (maxL := 6) (ret := (some .int)) (by decide) rfl ?_
  intro p e s m args below meth c s₁ B hml hTab hv
  obtain ⟨rfl, ⟨hsz, hP, hK, hD0, hTB⟩, hTX⟩ := hv
  have hx := B.exec
  have hb := B.bytes
  have hr := B.returns
  have hts := atoms_spec (ws := Cond.code yX5_need cX5_need 6 (some .int) :: TT) B.pre
  have htT : ∀ w ∈ TT, w.before _ s = true := fun w h => hts w (List.mem_cons_of_mem _ h)
  have hown : s.vm.findClass RX5 = some m.cls := findClass_of_methodNamed B.named
  have hlocks := B.notSynchronized
  subst hsz
  have hD := hD0.self (sz := s.heap.size)
  generalize hAe : va_A (PW cA S) s.heap.size = A at hD hTX ⊢
  have hA : ∀ q : Nat, s.heap.size ≤ q → A q := fun q h => by rw [← hAe]; exact Or.inr h
  have hS : va_S A s.heap s.heap [] := va_S.rf
  have hl := lv_entry ([.ref x, .int p0, .int p1, .int p2]) (n := 6) (Nat.le_of_ble_eq_true rfl)
  rw [lg_entry_eq]
  generalize (lg_sl ([.ref x, .int p0, .int p1, .int p2]) ++ List.replicate (6 - (lg_sl ([.ref x, .int p0, .int p1, .int p2])).length) Slot.unset).toArray = ls at hl ⊢
  have hl : lv_has ls 6 [(0, .ref x), (1, .int p0), (2, .int p1), (3, .int p2)] := hl
  refine lv_aload_n hx hb dX5_need_0 rfl (lv_at hl 0 rfl) ?_
  refine lv_iload_n hx hb dX5_need_1 rfl (lv_at hl 1 rfl) ?_
  refine kc_q (va_runV (As := [.int p0]) (rest := []) ⟨hx, hb, hml, hown, htT⟩ (c_known l D cA _ S x hx5 ar hq0 hR.1 p0 a hsw) (cwV 1 htT (kg_V m_ml_X5_45 m_im_X5_known m_sl_X5_known m_in_X5 m_cd_X5_known) rfl rfl rfl (by decide +kernel) ⟨Nat.le_of_ble_eq_true rfl, Nat.le_of_ble_eq_true rfl⟩) (kp_V hK hP hD hTB (kp_rc hK hP hx5 (Nat.le_of_ble_eq_true rfl) rfl)) rfl rfl hl.1 rfl (lv_room (Nat.le_of_ble_eq_true rfl)) dX5_need_2 ⟨Nat.le_of_ble_eq_true rfl, Nat.le_of_ble_eq_true rfl⟩) hD hS hA (fun r_1 x_1 H locs hq_1 hP hD hS => ?_)
  rw [hq_1.1]
  rw [hq_1.2] at hP hD
  refine lv_astore (lv' := [(4, .ref a), (0, .ref x), (1, .int p0), (2, .int p1), (3, .int p2)]) hx hb dX5_need_5 hl (by decide) rfl (fun ls hl => ?_)
  refine lv_iload_n hx hb dX5_need_7 rfl (lv_at hl 3 rfl) ?_
  refine lv_iconst (v := (-1)) hx hb dX5_need_8 (by decide) ?_
  refine lv_icmp_eq (tgt := 36) hx hb dX5_need_9 (by decide) (fun c_2 => ?_) (fun c_2 => ?_)
  · exact absurd c_2 hn1
  · refine lv_aload_n hx hb dX5_need_12 rfl (lv_at hl 1 rfl) ?_
    refine lv_iload_n hx hb dX5_need_13 rfl (lv_at hl 3 rfl) ?_
    refine kc_q (va_runV (As := [.int p1]) (rest := []) ⟨hx, hb, hml, hown, htT⟩ (c_known l D cA _ S x hx5 ar hq0 hR.1 p1 b2 hs2) (cwV 1 htT (kg_V m_ml_X5_45 m_im_X5_known m_sl_X5_known m_in_X5 m_cd_X5_known) rfl rfl rfl (by decide +kernel) ⟨Nat.le_of_ble_eq_true rfl, Nat.le_of_ble_eq_true rfl⟩) (kp_V hK hP hD hTB (kp_rc hK hP hx5 (Nat.le_of_ble_eq_true rfl) rfl)) rfl rfl hl.1 rfl (lv_room (Nat.le_of_ble_eq_true rfl)) dX5_need_14 ⟨Nat.le_of_ble_eq_true rfl, Nat.le_of_ble_eq_true rfl⟩) hD hS hA (fun r_3 x_3 H locs hq_3 hP hD hS => ?_)
    rw [hq_3.1]
    rw [hq_3.2] at hP hD
    refine lv_iload_n hx hb dX5_need_17 rfl (lv_at hl 4 rfl) ?_
    refine kc_v (va_runS (As := [.ref b2, .int p2]) (rest := []) ⟨hx, hb, hml, hown, htT⟩ (c_checkVariant l D cA _ S b2 (hR.2 i2 hi2 b2 hjb).1.1 p2 hv) (cwS 2 htT (kg_S m_ml_X5_49 m_st_X5_checkVariant m_in_X5 m_cd_X5_checkVariant) rfl rfl rfl (by decide +kernel) ⟨Nat.le_of_ble_eq_true rfl, Nat.le_of_ble_eq_true rfl⟩) (kp_S hK hP hD hTB) rfl rfl hl.1 rfl (lv_room (Nat.le_of_ble_eq_true rfl)) dX5_need_18 ⟨Nat.le_of_ble_eq_true rfl, Nat.le_of_ble_eq_true rfl⟩) hD hS hA (fun x_4 H locs hq_4 hP hD hS => ?_)
    rw [hq_4] at hP hD
    refine lv_iload_n hx hb dX5_need_21 rfl (lv_at hl 3 rfl) ?_
    refine lv_iload_n hx hb dX5_need_22 rfl (lv_at hl 2 rfl) ?_
    refine lv_icmp_lt (tgt := 36) hx hb dX5_need_23 (by decide) (fun c_5 => ?_) (fun c_5 => ?_)
    · exact absurd c_5 hlt
    · exact kt_new (text := "only a switch with a smaller number can be needed") hx hb hst hown (Or.inl rfl) (htT _ m_cl_X5_26) (htT _ m_in_IllegalArgumentException) (by decide +kernel) (fun w h => htT w (at_IAE w h)) an_IAE (ag_IAE 26) hTB hTX hK hP hD hS (hl.1.trans hml.symm) dX5_need_26 dX5_need_29 dX5_need_30 dX5_need_32 dX5_need_35 hTab (Nat.le_of_ble_eq_true rfl) (Nat.le_of_ble_eq_true rfl) (Nat.le_of_ble_eq_true rfl) (Nat.le_of_ble_eq_true rfl) hlocks (Nat.le_of_ble_eq_true rfl) (Nat.le_of_ble_eq_true rfl)

set_option maxRecDepth 100000 in
set_option maxHeartbeats 4000000 in
theorem c_need_v (l : Launch) (hst : l.stackTraces = false) (D : va_G) (cA : Nat → ClassId) (sz : Nat) (S : Pool) (x : Nat) (hx5 : isO S x 5) (ar : Nat) (hq0 : gQ S x 0 = some ar) (ak : Nat) (hq1 : gQ S x 1 = some ak) (hak : isO S ak 1) (hR : okR S ar) (j : Nat) (hj : j < 8) (a : Nat) (hja : gP S ar j = some a) (p0 : Int32) (hsw : kSw S ar p0 = some a) (p1 p2 : Int32) (hn1 : ¬ p1 = -1) (b2 : Nat) (hs2 : kSw S ar p1 = some b2) (i2 : Nat) (hi2 : i2 < 8) (hjb : gP S ar i2 = some b2) (hv : kOut p2 0 (gI S b2 2 - 1) = 1) : vx_Met l yX5_need (Cond.code yX5_need cX5_need 6 (some .int) :: TT) ({ frames := 7, cells := 1, slots := 6, locals := 103 }) (va_Pc [.ref x, .int p0, .int p1, .int p2] (kPreX D cA (PW cA S) sz)) kNo (kXC D cA (PW cA S) "java/lang/IndexOutOfBoundsException" (va_A (PW cA S) sz)) 1 6 (va_A (PW cA S) sz) := by
  refine vx_ofW (cc := cX5_need) (maxL := 6) (ret := (some .int)) (by decide) rfl ?_
  intro p e s m args below meth c s₁ B hml hTab hv
  obtain ⟨rfl, ⟨hsz, hP, hK, hD0, hTB⟩, hTX⟩ := hv
  have hx := B.exec
  have hb := B.bytes
  have hr := B.returns
  have hts := atoms_spec (ws := Cond.code yX5_need cX5_need 6 (some .int) :: TT) B.pre
  have htT : ∀ w ∈ TT, w.before _ s = true := fun w h => hts w (List.mem_cons_of_mem _ h)
  have hown : s.vm.findClass RX5 = some m.cls := findClass_of_methodNamed B.named
  have hlocks := B.notSynchronized
  subst hsz
  have hD := hD0.self (sz := s.heap.size)
  generalize hAe : va_A (PW cA S) s.heap.size = A at hD hTX ⊢
  have hA : ∀ q : Nat, s.heap.size ≤ q → A q := fun q h => by rw [← hAe]; exact Or.inr h
  have hS : va_S A s.heap s.heap [] := va_S.rf
  have hl := lv_entry ([.ref x, .int p0, .int p1, .int p2]) (n := 6) (Nat.le_of_ble_eq_true rfl)
  rw [lg_entry_eq]
  generalize (lg_sl ([.ref x, .int p0, .int p1, .int p2]) ++ List.replicate (6 - (lg_sl ([.ref x, .int p0, .int p1, .int p2])).length) Slot.unset).toArray = ls at hl ⊢
  have hl : lv_has ls 6 [(0, .ref x), (1, .int p0), (2, .int p1), (3, .int p2)] := hl
  refine lv_aload_n hx hb dX5_need_0 rfl (lv_at hl 0 rfl) ?_
  refine lv_iload_n hx hb dX5_need_1 rfl (lv_at hl 1 rfl) ?_
  refine kc_q (va_runV (As := [.int p0]) (rest := []) ⟨hx, hb, hml, hown, htT⟩ (c_known l D cA _ S x hx5 ar hq0 hR.1 p0 a hsw) (cwV 1 htT (kg_V m_ml_X5_45 m_im_X5_known m_sl_X5_known m_in_X5 m_cd_X5_known) rfl rfl rfl (by decide +kernel) ⟨Nat.le_of_ble_eq_true rfl, Nat.le_of_ble_eq_true rfl⟩) (kp_V hK hP hD hTB (kp_rc hK hP hx5 (Nat.le_of_ble_eq_true rfl) rfl)) rfl rfl hl.1 rfl (lv_room (Nat.le_of_ble_eq_true rfl)) dX5_need_2 ⟨Nat.le_of_ble_eq_true rfl, Nat.le_of_ble_eq_true rfl⟩) hD hS hA (fun r_1 x_1 H locs hq_1 hP hD hS => ?_)
  rw [hq_1.1]
  rw [hq_1.2] at hP hD
  refine lv_astore (lv' := [(4, .ref a), (0, .ref x), (1, .int p0), (2, .int p1), (3, .int p2)]) hx hb dX5_need_5 hl (by decide) rfl (fun ls hl => ?_)
  refine lv_iload_n hx hb dX5_need_7 rfl (lv_at hl 3 rfl) ?_
  refine lv_iconst (v := (-1)) hx hb dX5_need_8 (by decide) ?_
  refine lv_icmp_eq (tgt := 36) hx hb dX5_need_9 (by decide) (fun c_2 => ?_) (fun c_2 => ?_)
  · exact absurd c_2 hn1
  · refine lv_aload_n hx hb dX5_need_12 rfl (lv_at hl 1 rfl) ?_
    refine lv_iload_n hx hb dX5_need_13 rfl (lv_at hl 3 rfl) ?_
    refine kc_q (va_runV (As := [.int p1]) (rest := []) ⟨hx, hb, hml, hown, htT⟩ (c_known l D cA _ S x hx5 ar hq0 hR.1 p1 b2 hs2) (cwV 1 htT (kg_V m_ml_X5_45 m_im_X5_known m_sl_X5_known m_in_X5 m_cd_X5_known) rfl rfl rfl (by decide +kernel) ⟨Nat.le_of_ble_eq_true rfl, Nat.le_of_ble_eq_true rfl⟩) (kp_V hK hP hD hTB (kp_rc hK hP hx5 (Nat.le_of_ble_eq_true rfl) rfl)) rfl rfl hl.1 rfl (lv_room (Nat.le_of_ble_eq_true rfl)) dX5_need_14 ⟨Nat.le_of_ble_eq_true rfl, Nat.le_of_ble_eq_true rfl⟩) hD hS hA (fun r_3 x_3 H locs hq_3 hP hD hS => ?_)
    rw [hq_3.1]
    rw [hq_3.2] at hP hD
    refine lv_iload_n hx hb dX5_need_17 rfl (lv_at hl 4 rfl) ?_
    refine kt_call (vx_runS (As := [.ref b2, .int p2]) (rest := []) ⟨hx, hb, hml, hown, htT⟩ (c_checkVariant_t l hst D cA _ S b2 (hR.2 i2 hi2 b2 hjb).1.1 p2 hv) (cwS 2 htT (kg_S m_ml_X5_49 m_st_X5_checkVariant m_in_X5 m_cd_X5_checkVariant) rfl rfl rfl (by decide +kernel) ⟨Nat.le_of_ble_eq_true rfl, Nat.le_of_ble_eq_true rfl⟩) (kp_SX hK hP hD hTB hTX hS hA) rfl rfl hl.1 rfl (lv_room (Nat.le_of_ble_eq_true rfl)) dX5_need_18 ⟨Nat.le_of_ble_eq_true rfl, Nat.le_of_ble_eq_true rfl⟩) hD hS hA (fun ce q9 H locs hP hD hS hce hcv hcl => ?_)
    exact kt_out hTab hlocks hK hP hD hS hce hcv hcl (Nat.le_of_ble_eq_true rfl) (Nat.le_of_ble_eq_true rfl)

set_option maxRecDepth 100000 in
set_option maxHeartbeats 4000000 in
theorem c_need_o (l : Launch) (hst : l.stackTraces = false) (D : va_G) (cA : Nat → ClassId) (sz : Nat) (S : Pool) (x : Nat) (hx5 : isO S x 5) (ar : Nat) (hq0 : gQ S x 0 = some ar) (ak : Nat) (hq1 : gQ S x 1 = some ak) (hak : isO S ak 1) (hR : okR S ar) (j : Nat) (hj : j < 8) (a : Nat) (hja : gP S ar j = some a) (p0 : Int32) (hsw : kSw S ar p0 = some a) (p1 p2 : Int32) (hn1 : ¬ p1 = -1) (hs2 : kSw S ar p1 = none) : vx_Met l yX5_need (Cond.code yX5_need cX5_need 6 (some .int) :: TT) ({ frames := 7, cells := 1, slots := 6, locals := 104 }) (va_Pc [.ref x, .int p0, .int p1, .int p2] (kPreX D cA (PW cA S) sz)) kNo (kXC D cA (PW cA S) "java/lang/IndexOutOfBoundsException" (va_A (PW cA S) sz)) 1 6 (va_A (PW cA S) sz) := by
  refine vx_ofW (cc := cX5_need) (maxL := 6) (ret := (some .int)) (by decide) rfl ?_
  intro p e s m args below meth c s₁ B hml hTab hv
  obtain ⟨rfl, ⟨hsz, hP, hK, hD0, hTB⟩, hTX⟩ := hv
  have hx := B.exec
  have hb := B.bytes
  have hr := B.returns
  have hts := atoms_spec (ws := Cond.code yX5_need cX5_need 6 (some .int) :: TT) B.pre
  have htT : ∀ w ∈ TT, w.before _ s = true := fun w h => hts w (List.mem_cons_of_mem _ h)
  have hown : s.vm.findClass RX5 = some m.cls := findClass_of_methodNamed B.named
  have hlocks := B.notSynchronized
  subst hsz
  have hD := hD0.self (sz := s.heap.size)
  generalize hAe : va_A (PW cA S) s.heap.size = A at hD hTX ⊢
  have hA : ∀ q : Nat, s.heap.size ≤ q → A q := fun q h => by rw [← hAe]; exact Or.inr h
  have hS : va_S A s.heap s.heap [] := va_S.rf
  have hl := lv_entry ([.ref x, .int p0, .int p1, .int p2]) (n := 6) (Nat.le_of_ble_eq_true rfl)
  rw [lg_entry_eq]
  generalize (lg_sl ([.ref x, .int p0, .int p1, .int p2]) ++ List.replicate (6 - (lg_sl ([.ref x, .int p0, .int p1, .int p2])).length) Slot.unset).toArray = ls at hl ⊢
  have hl : lv_has ls 6 [(0, .ref x), (1, .int p0), (2, .int p1), (3, .int p2)] := hl
  refine lv_aload_n hx hb dX5_need_0 rfl (lv_at hl 0 rfl) ?_
  refine lv_iload_n hx hb dX5_need_1 rfl (lv_at hl 1 rfl) ?_
  refine kc_q (va_runV (As := [.int p0]) (rest := []) ⟨hx, hb, hml, hown, htT⟩ (c_known l D cA _ S x hx5 ar hq0 hR.1 p0 a hsw) (cwV 1 htT (kg_V m_ml_X5_45 m_im_X5_known m_sl_X5_known m_in_X5 m_cd_X5_known) rfl rfl rfl (by decide +kernel) ⟨Nat.le_of_ble_eq_true rfl, Nat.le_of_ble_eq_true rfl⟩) (kp_V hK hP hD hTB (kp_rc hK hP hx5 (Nat.le_of_ble_eq_true rfl) rfl)) rfl rfl hl.1 rfl (lv_room (Nat.le_of_ble_eq_true rfl)) dX5_need_2 ⟨Nat.le_of_ble_eq_true rfl, Nat.le_of_ble_eq_true rfl⟩) hD hS hA (fun r_1 x_1 H locs hq_1 hP hD hS => ?_)
  rw [hq_1.1]
  rw [hq_1.2] at hP hD
  refine lv_astore (lv' := [(4, .ref a), (0, .ref x), (1, .int p0), (2, .int p1), (3, .int p2)]) hx hb dX5_need_5 hl (by decide) rfl (fun ls hl => ?_)
  refine lv_iload_n hx hb dX5_need_7 rfl (lv_at hl 3 rfl) ?_
  refine lv_iconst (v := (-1)) hx hb dX5_need_8 (by decide) ?_
  refine lv_icmp_eq (tgt := 36) hx hb dX5_need_9 (by decide) (fun c_2 => ?_) (fun c_2 => ?_)
  · exact absurd c_2 hn1
  · refine lv_aload_n hx hb dX5_need_12 rfl (lv_at hl 1 rfl) ?_
    refine lv_iload_n hx hb dX5_need_13 rfl (lv_at hl 3 rfl) ?_
    refine kt_call (vx_runV (As := [.int p1]) (rest := []) ⟨hx, hb, hml, hown, htT⟩ (c_known_t l hst D cA _ S x hx5 ar hq0 hR.1 p1 hs2) (cwV 1 htT (kg_V m_ml_X5_45 m_im_X5_known m_sl_X5_known m_in_X5 m_cd_X5_known) rfl rfl rfl (by decide +kernel) ⟨Nat.le_of_ble_eq_true rfl, Nat.le_of_ble_eq_true rfl⟩) (kp_VX hK hP hD hTB hTX hS hA (kp_rc hK hP hx5 (Nat.le_of_ble_eq_true rfl) rfl)) rfl rfl hl.1 rfl (lv_room (Nat.le_of_ble_eq_true rfl)) dX5_need_14 ⟨Nat.le_of_ble_eq_true rfl, Nat.le_of_ble_eq_true rfl⟩) hD hS hA (fun ce q9 H locs hP hD hS hce hcv hcl => ?_)
    exact kt_out hTab hlocks hK hP hD hS hce hcv hcl (Nat.le_of_ble_eq_true rfl) (Nat.le_of_ble_eq_true rfl)

/-- is a range right -/
def kRng (la f t : Int32) : Int32 := if kOut la 0 2 = 0 then (if f < 0 then 0 else if t < f then 0 else if 1000 < t then 0 else 1) else 0
def cShr (S : Pool) (a : Nat) (f t : Int32) : Int32 := if kMaxI (gI S a 14) f < kMinI (gI S a 15) t then 1 else 0
def cTak (S : Pool) (ar : Nat) (one la f t : Int32) : Nat → Nat → Int32
  | 0, _ => 0
  | c + 1, k => match gP S ar k with
    | none => cTak S ar one la f t c (k + 1)
    | some a => if gI S a 0 = one then cTak S ar one la f t c (k + 1) else if gI S a 13 = la then (if cShr S a f t = 0 then cTak S ar one la f t c (k + 1) else 1) else cTak S ar one la f t c (k + 1)
def cLeft (S : Pool) (ar : Nat) (la : Int32) : Nat → Nat → Int32 → Int32
  | 0, _, acc => acc
  | c + 1, k, acc => match gP S ar k with
    | none => cLeft S ar la c (k + 1) acc
    | some a => if gI S a 13 = la then cLeft S ar la c (k + 1) (acc - (gI S a 15 - gI S a 14)) else cLeft S ar la c (k + 1) acc
theorem cShr_01 (S : Pool) (a : Nat) (f t : Int32) : cShr S a f t = 0 ∨ cShr S a f t = 1 := by
  unfold cShr
  split
  · exact Or.inr rfl
  · exact Or.inl rfl
set_option maxRecDepth 100000 in
set_option maxHeartbeats 4000000 in
theorem c_checkRange (l : Launch) (D : va_G) (cA : Nat → ClassId) (sz : Nat) (S : Pool) (p0 p1 p2 : Int32) (hbad : kRng p0 p1 p2 = 1) : Met l yX5_checkRange (Cond.code yX5_checkRange cX5_checkRange 3 none :: TT) ({ frames := 1, cells := 0, slots := 0, locals := 22 }) (va_Pc [.int p0, .int p1, .int p2] (kPre D cA (PW cA S) sz)) (va_Qv (fun (x_ : Pool) => x_ = S) (fun x_ => kB D cA (va_A (PW cA S) sz) (PW cA x_)) (va_A (PW cA S) sz)) 0 0 (va_A (PW cA S) sz) := by
  refine Met.ofW (cc := cX5_checkRange) (maxL := 3) (ret := none) (by decide) rfl ?_
  intro p e s m args below meth c s₁ B hml hv
  obtain ⟨rfl, hsz, hP, hK, hD0, hTB⟩ := hv
  have hx := B.exec
  have hb := B.bytes
  have hr := B.returns
  have hts := atoms_spec (ws := Cond.code yX5_checkRange cX5_checkRange 3 none :: TT) B.pre
  have htT : ∀ w ∈ TT, w.before _ s = true := fun w h => hts w (List.mem_cons_of_mem _ h)
  have hown : s.vm.findClass RX5 = some m.cls := findClass_of_methodNamed B.named
  have hlocks := B.notSynchronized
  subst hsz
  have hD := hD0.self (sz := s.heap.size)
  generalize hAe : va_A (PW cA S) s.heap.size = A at hD ⊢
  have hA : ∀ q : Nat, s.heap.size ≤ q → A q := fun q h => by rw [← hAe]; exact Or.inr h
  have hS : va_S A s.heap s.heap [] := va_S.rf
  have hl := lv_entry ([.int p0, .int p1, .int p2]) (n := 3) (Nat.le_of_ble_eq_true rfl)
  rw [lg_entry_eq]
  generalize (lg_sl ([.int p0, .int p1, .int p2]) ++ List.replicate (3 - (lg_sl ([.int p0, .int p1, .int p2])).length) Slot.unset).toArray = ls at hl ⊢
  have hl : lv_has ls 3 [(0, .int p0), (1, .int p1), (2, .int p2)] := hl
  refine lv_iload_n hx hb dX5_checkRange_0 rfl (lv_at hl 0 rfl) ?_
  refine lv_iconst (v := 0) hx hb dX5_checkRange_1 (by decide) ?_
  refine lv_iconst (v := 2) hx hb dX5_checkRange_2 (by decide) ?_
  refine kc_i (va_runS (As := [.int p0, .int 0, .int 2]) (rest := []) ⟨hx, hb, hml, hown, htT⟩ (c_isOutside l D cA _ S p0 0 2) (cwS 3 htT (kg_S m_ml_X5_22 m_st_X5_isOutside m_in_X5 m_cd_X5_isOutside) rfl rfl rfl (by decide +kernel) ⟨Nat.le_of_ble_eq_true rfl, Nat.le_of_ble_eq_true rfl⟩) (kp_S hK hP hD hTB) rfl rfl hl.1 rfl (lv_room (Nat.le_of_ble_eq_true rfl)) dX5_checkRange_3 ⟨Nat.le_of_ble_eq_true rfl, Nat.le_of_ble_eq_true rfl⟩) hD hS hA (fun r_1 x_1 H locs hq_1 hP hD hS => ?_)
  rw [hq_1.1]
  rw [hq_1.2] at hP hD
  refine lv_if_ne (tgt := 25) hx hb dX5_checkRange_6 (by decide) (fun c_2 => ?_) (fun c_2 => ?_)
  · exact absurd hbad (by simp [kRng, c_2])
  · refine lv_iload_n hx hb dX5_checkRange_9 rfl (lv_at hl 1 rfl) ?_
    refine lv_if_lt (tgt := 25) hx hb dX5_checkRange_10 (by decide) (fun c_3 => ?_) (fun c_3 => ?_)
    · exact absurd hbad (by simp [kRng, c_2, c_3])
    · refine lv_iload_n hx hb dX5_checkRange_13 rfl (lv_at hl 1 rfl) ?_
      refine lv_iload_n hx hb dX5_checkRange_14 rfl (lv_at hl 2 rfl) ?_
      refine lv_icmp_gt (tgt := 25) hx hb dX5_checkRange_15 (by decide) (fun c_4 => ?_) (fun c_4 => ?_)
      · exact absurd hbad (by simp [kRng, c_2, c_3, c_4])
      · refine lv_iload_n hx hb dX5_checkRange_18 rfl (lv_at hl 2 rfl) ?_
        refine lv_sipush (v := 1000) hx hb dX5_checkRange_19 (by decide) ?_
        refine lv_icmp_le (tgt := 36) hx hb dX5_checkRange_22 (by decide) (fun c_5 => ?_) (fun c_5 => ?_)
        · replace c_5 := Int32.not_lt.mpr c_5
          exact W.vret hx hb hr (fun t ht hW => ⟨⟨S, rfl, rfl, by rw [ht]; exact hP, va_K.moved hW.alike hK, hD⟩, hS.F ht⟩) hS.2.2 dX5_checkRange_36
        · replace c_5 := Int32.not_le.mp c_5
          exact absurd hbad (by simp [kRng, c_2, c_3, c_4, c_5])

set_option maxRecDepth 100000 in
set_option maxHeartbeats 4000000 in
theorem c_checkRange_t (l : Launch) (hst : l.stackTraces = false) (D : va_G) (cA : Nat → ClassId) (sz : Nat) (S : Pool) (p0 p1 p2 : Int32) (hbad : kRng p0 p1 p2 = 0) : vx_Met l yX5_checkRange (Cond.code yX5_checkRange cX5_checkRange 3 none :: TT) ({ frames := 6, cells := 1, slots := 6, locals := 82 }) (va_Pc [.int p0, .int p1, .int p2] (kPreX D cA (PW cA S) sz)) kNo (kXC D cA (PW cA S) "java/lang/IllegalArgumentException" (va_A (PW cA S) sz)) 1 6 (va_A (PW cA S) sz) := by
  refine vx_ofW (cc := cX5_checkRange) (maxL := 3) (ret := none) (by decide) rfl ?_
  intro p e s m args below meth c s₁ B hml hTab hv
  obtain ⟨rfl, ⟨hsz, hP, hK, hD0, hTB⟩, hTX⟩ := hv
  have hx := B.exec
  have hb := B.bytes
  have hr := B.returns
  have hts := atoms_spec (ws := Cond.code yX5_checkRange cX5_checkRange 3 none :: TT) B.pre
  have htT : ∀ w ∈ TT, w.before _ s = true := fun w h => hts w (List.mem_cons_of_mem _ h)
  have hown : s.vm.findClass RX5 = some m.cls := findClass_of_methodNamed B.named
  have hlocks := B.notSynchronized
  subst hsz
  have hD := hD0.self (sz := s.heap.size)
  generalize hAe : va_A (PW cA S) s.heap.size = A at hD hTX ⊢
  have hA : ∀ q : Nat, s.heap.size ≤ q → A q := fun q h => by rw [← hAe]; exact Or.inr h
  have hS : va_S A s.heap s.heap [] := va_S.rf
  have hl := lv_entry ([.int p0, .int p1, .int p2]) (n := 3) (Nat.le_of_ble_eq_true rfl)
  rw [lg_entry_eq]
  generalize (lg_sl ([.int p0, .int p1, .int p2]) ++ List.replicate (3 - (lg_sl ([.int p0, .int p1, .int p2])).length) Slot.unset).toArray = ls at hl ⊢
  have hl : lv_has ls 3 [(0, .int p0), (1, .int p1), (2, .int p2)] := hl
  refine lv_iload_n hx hb dX5_checkRange_0 rfl (lv_at hl 0 rfl) ?_
  refine lv_iconst (v := 0) hx hb dX5_checkRange_1 (by decide) ?_
  refine lv_iconst (v := 2) hx hb dX5_checkRange_2 (by decide) ?_
  refine kc_i (va_runS (As := [.int p0, .int 0, .int 2]) (rest := []) ⟨hx, hb, hml, hown, htT⟩ (c_isOutside l D cA _ S p0 0 2) (cwS 3 htT (kg_S m_ml_X5_22 m_st_X5_isOutside m_in_X5 m_cd_X5_isOutside) rfl rfl rfl (by decide +kernel) ⟨Nat.le_of_ble_eq_true rfl, Nat.le_of_ble_eq_true rfl⟩) (kp_S hK hP hD hTB) rfl rfl hl.1 rfl (lv_room (Nat.le_of_ble_eq_true rfl)) dX5_checkRange_3 ⟨Nat.le_of_ble_eq_true rfl, Nat.le_of_ble_eq_true rfl⟩) hD hS hA (fun r_1 x_1 H locs hq_1 hP hD hS => ?_)
  rw [hq_1.1]
  rw [hq_1.2] at hP hD
  refine lv_if_ne (tgt := 25) hx hb dX5_checkRange_6 (by decide) (fun c_2 => ?_) (fun c_2 => ?_)
  · exact kt_newW (text := "layer or range out of range") hx hb hst hown (Or.inl rfl) (htT _ m_cl_X5_26) (htT _ m_in_IllegalArgumentException) (by decide +kernel) (fun w h => htT w (at_IAE w h)) an_IAE (ag_IAE 26) hTB hTX hK hP hD hS (hl.1.trans hml.symm) dX5_checkRange_25 dX5_checkRange_28 dX5_checkRange_29 dX5_checkRange_32 dX5_checkRange_35 hTab (Nat.le_of_ble_eq_true rfl) (Nat.le_of_ble_eq_true rfl) (Nat.le_of_ble_eq_true rfl) (Nat.le_of_ble_eq_true rfl) hlocks (Nat.le_of_ble_eq_true rfl) (Nat.le_of_ble_eq_true rfl)
  · refine lv_iload_n hx hb dX5_checkRange_9 rfl (lv_at hl 1 rfl) ?_
    refine lv_if_lt (tgt := 25) hx hb dX5_checkRange_10 (by decide) (fun c_3 => ?_) (fun c_3 => ?_)
    · exact kt_newW (text := "layer or range out of range") hx hb hst hown (Or.inl rfl) (htT _ m_cl_X5_26) (htT _ m_in_IllegalArgumentException) (by decide +kernel) (fun w h => htT w (at_IAE w h)) an_IAE (ag_IAE 26) hTB hTX hK hP hD hS (hl.1.trans hml.symm) dX5_checkRange_25 dX5_checkRange_28 dX5_checkRange_29 dX5_checkRange_32 dX5_checkRange_35 hTab (Nat.le_of_ble_eq_true rfl) (Nat.le_of_ble_eq_true rfl) (Nat.le_of_ble_eq_true rfl) (Nat.le_of_ble_eq_true rfl) hlocks (Nat.le_of_ble_eq_true rfl) (Nat.le_of_ble_eq_true rfl)
    · refine lv_iload_n hx hb dX5_checkRange_13 rfl (lv_at hl 1 rfl) ?_
      refine lv_iload_n hx hb dX5_checkRange_14 rfl (lv_at hl 2 rfl) ?_
      refine lv_icmp_gt (tgt := 25) hx hb dX5_checkRange_15 (by decide) (fun c_4 => ?_) (fun c_4 => ?_)
      · exact kt_newW (text := "layer or range out of range") hx hb hst hown (Or.inl rfl) (htT _ m_cl_X5_26) (htT _ m_in_IllegalArgumentException) (by decide +kernel) (fun w h => htT w (at_IAE w h)) an_IAE (ag_IAE 26) hTB hTX hK hP hD hS (hl.1.trans hml.symm) dX5_checkRange_25 dX5_checkRange_28 dX5_checkRange_29 dX5_checkRange_32 dX5_checkRange_35 hTab (Nat.le_of_ble_eq_true rfl) (Nat.le_of_ble_eq_true rfl) (Nat.le_of_ble_eq_true rfl) (Nat.le_of_ble_eq_true rfl) hlocks (Nat.le_of_ble_eq_true rfl) (Nat.le_of_ble_eq_true rfl)
      · refine lv_iload_n hx hb dX5_checkRange_18 rfl (lv_at hl 2 rfl) ?_
        refine lv_sipush (v := 1000) hx hb dX5_checkRange_19 (by decide) ?_
        refine lv_icmp_le (tgt := 36) hx hb dX5_checkRange_22 (by decide) (fun c_5 => ?_) (fun c_5 => ?_)
        · replace c_5 := Int32.not_lt.mpr c_5
          exact absurd hbad (by simp [kRng, c_2, c_3, c_4, c_5])
        · replace c_5 := Int32.not_le.mp c_5
          exact kt_newW (text := "layer or range out of range") hx hb hst hown (Or.inl rfl) (htT _ m_cl_X5_26) (htT _ m_in_IllegalArgumentException) (by decide +kernel) (fun w h => htT w (at_IAE w h)) an_IAE (ag_IAE 26) hTB hTX hK hP hD hS (hl.1.trans hml.symm) dX5_checkRange_25 dX5_checkRange_28 dX5_checkRange_29 dX5_checkRange_32 dX5_checkRange_35 hTab (Nat.le_of_ble_eq_true rfl) (Nat.le_of_ble_eq_true rfl) (Nat.le_of_ble_eq_true rfl) (Nat.le_of_ble_eq_true rfl) hlocks (Nat.le_of_ble_eq_true rfl) (Nat.le_of_ble_eq_true rfl)

set_option maxRecDepth 100000 in
set_option maxHeartbeats 4000000 in
theorem c_sharesRange (l : Launch) (D : va_G) (cA : Nat → ClassId) (sz : Nat) (S : Pool) (a : Nat) (ho : isO S a 3) (p0 p1 : Int32) : Met l yX3_sharesRange (Cond.code yX3_sharesRange cX3_sharesRange 3 (some .boolean) :: TT) ({ frames := 1, cells := 0, slots := 0, locals := 16 }) (va_Pc [.ref a, .int p0, .int p1] (kPre D cA (PW cA S) sz)) (va_Qi (fun (r_ : Int32) (x_ : Pool) => r_ = cShr S a p0 p1 ∧ x_ = S) (fun x_ => kB D cA (va_A (PW cA S) sz) (PW cA x_)) (va_A (PW cA S) sz)) 0 0 (va_A (PW cA S) sz) := by
  refine Met.ofW (cc := cX3_sharesRange) (maxL := 3) (ret := (some .boolean)) (by decide) rfl ?_
  intro p e s m args below meth c s₁ B hml hv
  obtain ⟨rfl, hsz, hP, hK, hD0, hTB⟩ := hv
  have hx := B.exec
  have hb := B.bytes
  have hr := B.returns
  have hts := atoms_spec (ws := Cond.code yX3_sharesRange cX3_sharesRange 3 (some .boolean) :: TT) B.pre
  have htT : ∀ w ∈ TT, w.before _ s = true := fun w h => hts w (List.mem_cons_of_mem _ h)
  have hown : s.vm.findClass RX3 = some m.cls := findClass_of_methodNamed B.named
  have hlocks := B.notSynchronized
  subst hsz
  have hD := hD0.self (sz := s.heap.size)
  generalize hAe : va_A (PW cA S) s.heap.size = A at hD ⊢
  have hA : ∀ q : Nat, s.heap.size ≤ q → A q := fun q h => by rw [← hAe]; exact Or.inr h
  have hS : va_S A s.heap s.heap [] := va_S.rf
  have hl := lv_entry ([.ref a, .int p0, .int p1]) (n := 3) (Nat.le_of_ble_eq_true rfl)
  rw [lg_entry_eq]
  generalize (lg_sl ([.ref a, .int p0, .int p1]) ++ List.replicate (3 - (lg_sl ([.ref a, .int p0, .int p1])).length) Slot.unset).toArray = ls at hl ⊢
  have hl : lv_has ls 3 [(0, .ref a), (1, .int p0), (2, .int p1)] := hl
  refine lv_aload_n hx hb dX3_sharesRange_0 rfl (lv_at hl 0 rfl) ?_
  refine kx_geti hx hb htT m_u_X3 hown hK hP ho (Nat.le_of_ble_eq_true rfl) rfl 14 (by decide) (by decide) rfl (htT _ m_fl_X3_59) dX3_sharesRange_1 ?_
  refine lv_iload_n hx hb dX3_sharesRange_4 rfl (lv_at hl 1 rfl) ?_
  refine va_mmax hx hb (hml.trans hl.1.symm) hown (htT _ m_ml_X3_62) (htT _ m_st_J9_max_7cf53) (htT _ m_in_Math) (htT _ m_cd_J9_max_7cf53) (Nat.le_of_ble_eq_true rfl) (Nat.le_of_ble_eq_true rfl) (Nat.le_of_ble_eq_true rfl) (Nat.le_of_ble_eq_true rfl) dX3_sharesRange_5 ?_
  refine lv_aload_n hx hb dX3_sharesRange_8 rfl (lv_at hl 0 rfl) ?_
  refine kx_geti hx hb htT m_u_X3 hown hK hP ho (Nat.le_of_ble_eq_true rfl) rfl 15 (by decide) (by decide) rfl (htT _ m_fl_X3_68) dX3_sharesRange_9 ?_
  refine lv_iload_n hx hb dX3_sharesRange_12 rfl (lv_at hl 2 rfl) ?_
  refine va_mmin hx hb (hml.trans hl.1.symm) hown (htT _ m_ml_X3_71) (htT _ m_st_J9_min_7cf53) (htT _ m_in_Math) (htT _ m_cd_J9_min_7cf53) (Nat.le_of_ble_eq_true rfl) (Nat.le_of_ble_eq_true rfl) (Nat.le_of_ble_eq_true rfl) (Nat.le_of_ble_eq_true rfl) dX3_sharesRange_13 ?_
  refine lv_icmp_ge (tgt := 23) hx hb dX3_sharesRange_16 (by decide) (fun c_1 => ?_) (fun c_1 => ?_)
  · replace c_1 := Int32.not_lt.mpr c_1
    refine lv_iconst (v := 0) hx hb dX3_sharesRange_23 (by decide) ?_
    exact W.zret (v := 0) hx hb hr (rfl) (fun t ht hW => ⟨⟨0, S, rfl, ⟨by simp [cShr, kMaxI, kMinI, c_1], rfl⟩, by rw [ht]; exact hP, va_K.moved hW.alike hK, hD⟩, hS.F ht⟩) hS.2.2 dX3_sharesRange_24
  · replace c_1 := Int32.not_le.mp c_1
    refine lv_iconst (v := 1) hx hb dX3_sharesRange_19 (by decide) ?_
    refine lv_goto (tgt := 24) hx hb dX3_sharesRange_20 (by decide) ?_
    exact W.zret (v := 1) hx hb hr (rfl) (fun t ht hW => ⟨⟨1, S, rfl, ⟨by simp [cShr, kMaxI, kMinI, c_1], rfl⟩, by rw [ht]; exact hP, va_K.moved hW.alike hK, hD⟩, hS.F ht⟩) hS.2.2 dX3_sharesRange_24

set_option maxRecDepth 100000 in
set_option maxHeartbeats 4000000 in
/-- is a range taken -/
theorem c_isTaken (l : Launch) (D : va_G) (cA : Nat → ClassId) (sz : Nat) (S : Pool) (x : Nat) (hx5 : isO S x 5) (ar : Nat) (hq0 : gQ S x 0 = some ar) (hR : okR S ar) (p0 p1 p2 p3 : Int32) : Met l yX5_isTaken (Cond.code yX5_isTaken cX5_isTaken 9 (some .boolean) :: TT) ({ frames := 2, cells := 0, slots := 0, locals := 38 }) (va_Pc [.ref x, .int p0, .int p1, .int p2, .int p3] (kPre D cA (PW cA S) sz)) (va_Qi (fun (r_ : Int32) (x_ : Pool) => r_ = cTak S ar p0 p1 p2 p3 8 0 ∧ x_ = S) (fun x_ => kB D cA (va_A (PW cA S) sz) (PW cA x_)) (va_A (PW cA S) sz)) 0 0 (va_A (PW cA S) sz) := by
  refine Met.ofW (cc := cX5_isTaken) (maxL := 9) (ret := (some .boolean)) (by decide) rfl ?_
  intro p e s m args below meth c s₁ B hml hv
  obtain ⟨rfl, hsz, hP, hK, hD0, hTB⟩ := hv
  have hx := B.exec
  have hb := B.bytes
  have hr := B.returns
  have hts := atoms_spec (ws := Cond.code yX5_isTaken cX5_isTaken 9 (some .boolean) :: TT) B.pre
  have htT : ∀ w ∈ TT, w.before _ s = true := fun w h => hts w (List.mem_cons_of_mem _ h)
  have hown : s.vm.findClass RX5 = some m.cls := findClass_of_methodNamed B.named
  have hlocks := B.notSynchronized
  subst hsz
  have hD := hD0.self (sz := s.heap.size)
  generalize hAe : va_A (PW cA S) s.heap.size = A at hD ⊢
  have hA : ∀ q : Nat, s.heap.size ≤ q → A q := fun q h => by rw [← hAe]; exact Or.inr h
  have hS : va_S A s.heap s.heap [] := va_S.rf
  have hl := lv_entry ([.ref x, .int p0, .int p1, .int p2, .int p3]) (n := 9) (Nat.le_of_ble_eq_true rfl)
  rw [lg_entry_eq]
  generalize (lg_sl ([.ref x, .int p0, .int p1, .int p2, .int p3]) ++ List.replicate (9 - (lg_sl ([.ref x, .int p0, .int p1, .int p2, .int p3])).length) Slot.unset).toArray = ls at hl ⊢
  have hl : lv_has ls 9 [(0, .ref x), (1, .int p0), (2, .int p1), (3, .int p2), (4, .int p3)] := hl
  refine lv_aload_n hx hb dX5_isTaken_0 rfl (lv_at hl 0 rfl) ?_
  refine kx_gets hx hb htT m_u_X5 hown hK hP hx5 (Nat.le_of_ble_eq_true rfl) rfl 0 (by decide) (by decide) rfl hq0 (htT _ m_fl_X5_11) dX5_isTaken_1 ?_
  refine lv_astore (lv' := [(5, .ref ar), (0, .ref x), (1, .int p0), (2, .int p1), (3, .int p2), (4, .int p3)]) hx hb dX5_isTaken_4 hl (by decide) rfl (fun ls hl => ?_)
  refine lv_aload hx hb dX5_isTaken_6 (lv_at hl 0 rfl) ?_
  refine kx_alen (v := 8) hx hb hK hP hR.1 (Nat.le_of_ble_eq_true rfl) (Nat.le_of_ble_eq_true rfl) rfl dX5_isTaken_8 ?_
  refine lv_istore (lv' := [(6, .int 8), (5, .ref ar), (0, .ref x), (1, .int p0), (2, .int p1), (3, .int p2), (4, .int p3)]) hx hb dX5_isTaken_9 hl (by decide) rfl (fun ls hl => ?_)
  refine lv_iconst (v := 0) hx hb dX5_isTaken_11 (by decide) ?_
  refine lv_istore (lv' := [(7, .int 0), (6, .int 8), (5, .ref ar), (0, .ref x), (1, .int p0), (2, .int p1), (3, .int p2), (4, .int p3)]) hx hb dX5_isTaken_12 hl (by decide) rfl (fun ls hl => ?_)
  refine kz_loop 14 (fun N9 H locs ls => ∃ (j : Nat), N9 = 8 - j ∧ j ≤ 8 ∧ cTak S ar p0 p1 p2 p3 8 0 = cTak S ar p0 p1 p2 p3 (8 - j) j ∧ va_P D vwCl (PW cA S) H ∧ va_D A (PW cA S) ∧ va_S A s.heap H locs ∧ lv_has ls 9 [(7, .int (nI j)), (6, .int 8), (5, .ref ar), (4, .int p3), (3, .int p2), (2, .int p1), (1, .int p0), (0, .ref x)]) (fun N9 ih_14 H locs ls hI => ?_) ⟨0, rfl, by omega, rfl, hP, hD, hS, lv_sub hl [0, 1, 2, 7, 6, 5, 4, 3] rfl⟩
  obtain ⟨j, hn9, hj, hF, hP, hD, hS, hl⟩ := hI
  refine lv_iload hx hb dX5_isTaken_14 (lv_at hl 0 rfl) ?_
  refine lv_iload hx hb dX5_isTaken_16 (lv_at hl 1 rfl) ?_
  refine lv_icmp_ge (tgt := 70) hx hb dX5_isTaken_18 (by decide) (fun c_1 => ?_) (fun c_1 => ?_)
  · replace c_1 := (nI_leI (a := 8) (b := j) (by omega) (by omega)).mp c_1
    refine lv_iconst (v := 0) hx hb dX5_isTaken_70 (by decide) ?_
    exact W.zret (v := 0) hx hb hr (rfl) (fun t ht hW => ⟨⟨0, S, rfl, ⟨by rw [hF, show 8 - j = 0 by omega]; rfl, rfl⟩, by rw [ht]; exact hP, va_K.moved hW.alike hK, hD⟩, hS.F ht⟩) hS.2.2 dX5_isTaken_71
  · replace c_1 : ¬ (8 ≤ j) := fun h9 => c_1 ((nI_leI (a := 8) (b := j) (by omega) (by omega)).mpr h9)
    refine lv_aload hx hb dX5_isTaken_21 (lv_at hl 2 rfl) ?_
    refine lv_iload hx hb dX5_isTaken_23 (lv_at hl 0 rfl) ?_
    refine kx_alds (r := gP S ar j) hx hb hK hP hR.1 (show vp_in (nI (j)) 8 from ki_in (by omega) (by decide)) (congrArg _ (ki_cl (by omega))) dX5_isTaken_25 ?_
    rcases hr9 : gP S ar j with _ | y_9
    · refine lv_astoreN (lv' := [(8, .null), (7, .int (nI j)), (6, .int 8), (5, .ref ar), (4, .int p3), (3, .int p2), (2, .int p1), (1, .int p0), (0, .ref x)]) hx hb dX5_isTaken_26 hl (by decide) rfl (fun ls hl => ?_)
      refine lv_aloadN hx hb dX5_isTaken_28 (lv_at hl 0 rfl) ?_
      refine lv_ifnullN (tgt := 64) hx hb dX5_isTaken_30 (by decide) ?_
      refine lv_iinc (v := nI (j + 1)) (lv' := [(7, .int (nI (j + 1))), (8, .null), (6, .int 8), (5, .ref ar), (4, .int p3), (3, .int p2), (2, .int p1), (1, .int p0), (0, .ref x)]) hx hb dX5_isTaken_64 hl (k := 1) rfl (nI_1 _) (by decide) rfl (fun ls hl => ?_)
      refine lv_goto (tgt := 14) hx hb dX5_isTaken_67 (by decide) ?_
      have hl := lv_sub hl [0, 2, 3, 4, 5, 6, 7, 8] rfl
      exact ih_14 _ (by omega) H locs ls ⟨j + 1, rfl, by omega, by rw [hF, show 8 - j = (8 - (j + 1)) + 1 by omega]; simp [cTak, hr9], hP, hD, hS, hl⟩
    · have hy9 := (hR.2 j (by omega) y_9 hr9).1.1
      refine lv_astore (lv' := [(8, .ref y_9), (7, .int (nI j)), (6, .int 8), (5, .ref ar), (4, .int p3), (3, .int p2), (2, .int p1), (1, .int p0), (0, .ref x)]) hx hb dX5_isTaken_26 hl (by decide) rfl (fun ls hl => ?_)
      refine lv_aload hx hb dX5_isTaken_28 (lv_at hl 0 rfl) ?_
      refine lv_ifnull hx hb dX5_isTaken_30 ?_
      refine lv_aload hx hb dX5_isTaken_33 (lv_at hl 0 rfl) ?_
      refine kx_getiN hx hb htT m_u_X3 hown hK hP hy9 (Nat.le_of_ble_eq_true rfl) rfl 0 (by decide) (by decide) rfl (hTB.use m_fl_X5_314) dX5_isTaken_35 ?_
      refine lv_iload_n hx hb dX5_isTaken_38 rfl (lv_at hl 7 rfl) ?_
      refine lv_icmp_eq (tgt := 64) hx hb dX5_isTaken_39 (by decide) (fun c_2 => ?_) (fun c_2 => ?_)
      · refine lv_iinc (v := nI (j + 1)) (lv' := [(7, .int (nI (j + 1))), (8, .ref y_9), (6, .int 8), (5, .ref ar), (4, .int p3), (3, .int p2), (2, .int p1), (1, .int p0), (0, .ref x)]) hx hb dX5_isTaken_64 hl (k := 1) rfl (nI_1 _) (by decide) rfl (fun ls hl => ?_)
        refine lv_goto (tgt := 14) hx hb dX5_isTaken_67 (by decide) ?_
        have hl := lv_sub hl [0, 2, 3, 4, 5, 6, 7, 8] rfl
        exact ih_14 _ (by omega) H locs ls ⟨j + 1, rfl, by omega, by rw [hF, show 8 - j = (8 - (j + 1)) + 1 by omega]; simp [cTak, hr9, c_2], hP, hD, hS, hl⟩
      · refine lv_aload hx hb dX5_isTaken_42 (lv_at hl 0 rfl) ?_
        refine kx_getiN hx hb htT m_u_X3 hown hK hP hy9 (Nat.le_of_ble_eq_true rfl) rfl 13 (by decide) (by decide) rfl (hTB.use m_fl_X5_88) dX5_isTaken_44 ?_
        refine lv_iload_n hx hb dX5_isTaken_47 rfl (lv_at hl 6 rfl) ?_
        refine lv_icmp_ne (tgt := 64) hx hb dX5_isTaken_48 (by decide) (fun c_3 => ?_) (fun c_3 => ?_)
        · refine lv_iinc (v := nI (j + 1)) (lv' := [(7, .int (nI (j + 1))), (8, .ref y_9), (6, .int 8), (5, .ref ar), (4, .int p3), (3, .int p2), (2, .int p1), (1, .int p0), (0, .ref x)]) hx hb dX5_isTaken_64 hl (k := 1) rfl (nI_1 _) (by decide) rfl (fun ls hl => ?_)
          refine lv_goto (tgt := 14) hx hb dX5_isTaken_67 (by decide) ?_
          have hl := lv_sub hl [0, 2, 3, 4, 5, 6, 7, 8] rfl
          exact ih_14 _ (by omega) H locs ls ⟨j + 1, rfl, by omega, by rw [hF, show 8 - j = (8 - (j + 1)) + 1 by omega]; simp [cTak, hr9, c_2, c_3], hP, hD, hS, hl⟩
        · refine lv_aload hx hb dX5_isTaken_51 (lv_at hl 0 rfl) ?_
          refine lv_iload_n hx hb dX5_isTaken_53 rfl (lv_at hl 5 rfl) ?_
          refine lv_iload hx hb dX5_isTaken_54 (lv_at hl 4 rfl) ?_
          refine kc_i (va_runV (As := [.int p2, .int p3]) (rest := []) ⟨hx, hb, hml, hown, htT⟩ (c_sharesRange l D cA _ S y_9 hy9 p2 p3) (cwV 2 htT (kg_V m_ml_X5_317 m_im_X3_sharesRange m_sl_X3_sharesRange m_in_X3 m_cd_X3_sharesRange) rfl rfl rfl (by decide +kernel) ⟨Nat.le_of_ble_eq_true rfl, Nat.le_of_ble_eq_true rfl⟩) (kp_V hK hP hD hTB (kp_rc hK hP hy9 (Nat.le_of_ble_eq_true rfl) rfl)) rfl rfl hl.1 rfl (lv_room (Nat.le_of_ble_eq_true rfl)) dX5_isTaken_56 ⟨Nat.le_of_ble_eq_true rfl, Nat.le_of_ble_eq_true rfl⟩) hD hS hA (fun r_4 x_4 H locs hq_4 hP hD hS => ?_)
          rw [hq_4.1]
          rw [hq_4.2] at hP hD
          refine lv_if_eq (tgt := 64) hx hb dX5_isTaken_59 (by decide) (fun c_5 => ?_) (fun c_5 => ?_)
          · refine lv_iinc (v := nI (j + 1)) (lv' := [(7, .int (nI (j + 1))), (8, .ref y_9), (6, .int 8), (5, .ref ar), (4, .int p3), (3, .int p2), (2, .int p1), (1, .int p0), (0, .ref x)]) hx hb dX5_isTaken_64 hl (k := 1) rfl (nI_1 _) (by decide) rfl (fun ls hl => ?_)
            refine lv_goto (tgt := 14) hx hb dX5_isTaken_67 (by decide) ?_
            have hl := lv_sub hl [0, 2, 3, 4, 5, 6, 7, 8] rfl
            exact ih_14 _ (by omega) H locs ls ⟨j + 1, rfl, by omega, by rw [hF, show 8 - j = (8 - (j + 1)) + 1 by omega]; simp [cTak, hr9, c_2, c_3, c_5], hP, hD, hS, hl⟩
          · refine lv_iconst (v := 1) hx hb dX5_isTaken_62 (by decide) ?_
            exact W.zret (v := 1) hx hb hr (rfl) (fun t ht hW => ⟨⟨1, S, rfl, ⟨by rw [hF, show 8 - j = (8 - (j + 1)) + 1 by omega]; simp [cTak, hr9, c_2, c_3, c_5], rfl⟩, by rw [ht]; exact hP, va_K.moved hW.alike hK, hD⟩, hS.F ht⟩) hS.2.2 dX5_isTaken_63

set_option maxRecDepth 100000 in
set_option maxHeartbeats 4000000 in
/-- place -/
theorem c_place (l : Launch) (D : va_G) (cA : Nat → ClassId) (sz : Nat) (S : Pool) (x : Nat) (hx5 : isO S x 5) (ar : Nat) (hq0 : gQ S x 0 = some ar) (ak : Nat) (hq1 : gQ S x 1 = some ak) (hak : isO S ak 1) (hR : okR S ar) (j : Nat) (hj : j < 8) (a : Nat) (hja : gP S ar j = some a) (p0 : Int32) (hsw : kSw S ar p0 = some a) (p1 p2 p3 : Int32) (hn1 : ¬ p1 = -1) (hbad : kRng p1 p2 p3 = 1) (htk : cTak S ar p0 p1 p2 p3 8 0 = 0) : Met l yX5_place (Cond.code yX5_place cX5_place 7 (some .int) :: TT) ({ frames := 3, cells := 0, slots := 0, locals := 66 }) (va_Pc [.ref x, .int p0, .int p1, .int p2, .int p3] (kPre D cA (PW cA S) sz)) (va_Qi (fun (r_ : Int32) (x_ : Pool) => r_ = gI S a 13 ∧ x_ = pI (pI (pI S a 13 p1) a 14 p2) a 15 p3) (fun x_ => kB D cA (va_A (PW cA S) sz) (PW cA x_)) (va_A (PW cA S) sz)) 0 0 (va_A (PW cA S) sz) := by
  refine Met.ofW (cc := cX5_place) (maxL := 7) (ret := (some .int)) (by decide) rfl ?_
  intro p e s m args below meth c s₁ B hml hv
  obtain ⟨rfl, hsz, hP, hK, hD0, hTB⟩ := hv
  have hx := B.exec
  have hb := B.bytes
  have hr := B.returns
  have hts := atoms_spec (ws := Cond.code yX5_place cX5_place 7 (some .int) :: TT) B.pre
  have htT : ∀ w ∈ TT, w.before _ s = true := fun w h => hts w (List.mem_cons_of_mem _ h)
  have hown : s.vm.findClass RX5 = some m.cls := findClass_of_methodNamed B.named
  have hlocks := B.notSynchronized
  subst hsz
  have hD := hD0.self (sz := s.heap.size)
  generalize hAe : va_A (PW cA S) s.heap.size = A at hD ⊢
  have hA : ∀ q : Nat, s.heap.size ≤ q → A q := fun q h => by rw [← hAe]; exact Or.inr h
  have hS : va_S A s.heap s.heap [] := va_S.rf
  have hl := lv_entry ([.ref x, .int p0, .int p1, .int p2, .int p3]) (n := 7) (Nat.le_of_ble_eq_true rfl)
  rw [lg_entry_eq]
  generalize (lg_sl ([.ref x, .int p0, .int p1, .int p2, .int p3]) ++ List.replicate (7 - (lg_sl ([.ref x, .int p0, .int p1, .int p2, .int p3])).length) Slot.unset).toArray = ls at hl ⊢
  have hl : lv_has ls 7 [(0, .ref x), (1, .int p0), (2, .int p1), (3, .int p2), (4, .int p3)] := hl
  refine lv_aload_n hx hb dX5_place_0 rfl (lv_at hl 0 rfl) ?_
  refine lv_iload_n hx hb dX5_place_1 rfl (lv_at hl 1 rfl) ?_
  refine kc_q (va_runV (As := [.int p0]) (rest := []) ⟨hx, hb, hml, hown, htT⟩ (c_known l D cA _ S x hx5 ar hq0 hR.1 p0 a hsw) (cwV 1 htT (kg_V m_ml_X5_45 m_im_X5_known m_sl_X5_known m_in_X5 m_cd_X5_known) rfl rfl rfl (by decide +kernel) ⟨Nat.le_of_ble_eq_true rfl, Nat.le_of_ble_eq_true rfl⟩) (kp_V hK hP hD hTB (kp_rc hK hP hx5 (Nat.le_of_ble_eq_true rfl) rfl)) rfl rfl hl.1 rfl (lv_room (Nat.le_of_ble_eq_true rfl)) dX5_place_2 ⟨Nat.le_of_ble_eq_true rfl, Nat.le_of_ble_eq_true rfl⟩) hD hS hA (fun r_1 x_1 H locs hq_1 hP hD hS => ?_)
  rw [hq_1.1]
  rw [hq_1.2] at hP hD
  refine lv_astore (lv' := [(5, .ref a), (0, .ref x), (1, .int p0), (2, .int p1), (3, .int p2), (4, .int p3)]) hx hb dX5_place_5 hl (by decide) rfl (fun ls hl => ?_)
  refine lv_iload_n hx hb dX5_place_7 rfl (lv_at hl 3 rfl) ?_
  refine lv_iconst (v := (-1)) hx hb dX5_place_8 (by decide) ?_
  refine lv_icmp_eq (tgt := 41) hx hb dX5_place_9 (by decide) (fun c_2 => ?_) (fun c_2 => ?_)
  · exact absurd c_2 hn1
  · refine lv_iload_n hx hb dX5_place_12 rfl (lv_at hl 3 rfl) ?_
    refine lv_iload_n hx hb dX5_place_13 rfl (lv_at hl 4 rfl) ?_
    refine lv_iload hx hb dX5_place_14 (lv_at hl 5 rfl) ?_
    refine kc_v (va_runS (As := [.int p1, .int p2, .int p3]) (rest := []) ⟨hx, hb, hml, hown, htT⟩ (c_checkRange l D cA _ S p1 p2 p3 hbad) (cwS 3 htT (kg_S m_ml_X5_79 m_st_X5_checkRange m_in_X5 m_cd_X5_checkRange) rfl rfl rfl (by decide +kernel) ⟨Nat.le_of_ble_eq_true rfl, Nat.le_of_ble_eq_true rfl⟩) (kp_S hK hP hD hTB) rfl rfl hl.1 rfl (lv_room (Nat.le_of_ble_eq_true rfl)) dX5_place_16 ⟨Nat.le_of_ble_eq_true rfl, Nat.le_of_ble_eq_true rfl⟩) hD hS hA (fun x_3 H locs hq_3 hP hD hS => ?_)
    rw [hq_3] at hP hD
    refine lv_aload_n hx hb dX5_place_19 rfl (lv_at hl 1 rfl) ?_
    refine lv_iload_n hx hb dX5_place_20 rfl (lv_at hl 2 rfl) ?_
    refine lv_iload_n hx hb dX5_place_21 rfl (lv_at hl 3 rfl) ?_
    refine lv_iload_n hx hb dX5_place_22 rfl (lv_at hl 4 rfl) ?_
    refine lv_iload hx hb dX5_place_23 (lv_at hl 5 rfl) ?_
    refine kc_i (va_runV (As := [.int p0, .int p1, .int p2, .int p3]) (rest := []) ⟨hx, hb, hml, hown, htT⟩ (c_isTaken l D cA _ S x hx5 ar hq0 hR p0 p1 p2 p3) (cwV 4 htT (kg_V m_ml_X5_82 m_im_X5_isTaken m_sl_X5_isTaken m_in_X5 m_cd_X5_isTaken) rfl rfl rfl (by decide +kernel) ⟨Nat.le_of_ble_eq_true rfl, Nat.le_of_ble_eq_true rfl⟩) (kp_V hK hP hD hTB (kp_rc hK hP hx5 (Nat.le_of_ble_eq_true rfl) rfl)) rfl rfl hl.1 rfl (lv_room (Nat.le_of_ble_eq_true rfl)) dX5_place_25 ⟨Nat.le_of_ble_eq_true rfl, Nat.le_of_ble_eq_true rfl⟩) hD hS hA (fun r_4 x_4 H locs hq_4 hP hD hS => ?_)
    rw [hq_4.1]
    rw [hq_4.2] at hP hD
    refine lv_if_eq (tgt := 41) hx hb dX5_place_28 (by decide) (fun c_5 => ?_) (fun c_5 => ?_)
    · refine lv_aload hx hb dX5_place_41 (lv_at hl 0 rfl) ?_
      refine kx_getiN hx hb htT m_u_X3 hown hK hP ((hR.2 j hj a hja).1.1) (Nat.le_of_ble_eq_true rfl) rfl 13 (by decide) (by decide) rfl (hTB.use m_fl_X5_88) dX5_place_43 ?_
      refine lv_istore (lv' := [(6, .int (gI S a 13)), (5, .ref a), (0, .ref x), (1, .int p0), (2, .int p1), (3, .int p2), (4, .int p3)]) hx hb dX5_place_46 hl (by decide) rfl (fun ls hl => ?_)
      refine lv_aload hx hb dX5_place_48 (lv_at hl 1 rfl) ?_
      refine lv_iload_n hx hb dX5_place_50 rfl (lv_at hl 4 rfl) ?_
      refine kx_putiN (ty := .int) hx hb htT m_u_X3 tyX3 tyX3_ok nmX3 hown hK hP hD hS ((hR.2 j hj a hja).1.1) (Nat.le_of_ble_eq_true rfl) rfl 13 (by decide) (by decide) rfl (hTB.use m_fl_X5_88) rfl (by decide +kernel) rfl rfl dX5_place_51 (fun H locs hP hD hS => ?_)
      refine lv_aload hx hb dX5_place_54 (lv_at hl 1 rfl) ?_
      refine lv_iload_n hx hb dX5_place_56 rfl (lv_at hl 4 rfl) ?_
      refine lv_iconst (v := (-1)) hx hb dX5_place_57 (by decide) ?_
      refine lv_icmp_ne (tgt := 65) hx hb dX5_place_58 (by decide) (fun c_6 => ?_) (fun c_6 => ?_)
      · refine lv_iload_n hx hb dX5_place_65 rfl (lv_at hl 5 rfl) ?_
        refine kx_putiN (ty := .int) hx hb htT m_u_X3 tyX3 tyX3_ok nmX3 hown hK hP hD hS ((hR.2 j hj a hja).1.1) (Nat.le_of_ble_eq_true rfl) rfl 14 (by decide) (by decide) rfl (hTB.use m_fl_X5_91) rfl (by decide +kernel) rfl rfl dX5_place_66 (fun H locs hP hD hS => ?_)
        refine lv_aload hx hb dX5_place_69 (lv_at hl 1 rfl) ?_
        refine lv_iload_n hx hb dX5_place_71 rfl (lv_at hl 4 rfl) ?_
        refine lv_iconst (v := (-1)) hx hb dX5_place_72 (by decide) ?_
        refine lv_icmp_ne (tgt := 80) hx hb dX5_place_73 (by decide) (fun c_7 => ?_) (fun c_7 => ?_)
        · refine lv_iload hx hb dX5_place_80 (lv_at hl 6 rfl) ?_
          refine kx_putiN (ty := .int) hx hb htT m_u_X3 tyX3 tyX3_ok nmX3 hown hK hP hD hS ((hR.2 j hj a hja).1.1) (Nat.le_of_ble_eq_true rfl) rfl 15 (by decide) (by decide) rfl (hTB.use m_fl_X5_94) rfl (by decide +kernel) rfl rfl dX5_place_82 (fun H locs hP hD hS => ?_)
          refine lv_iload hx hb dX5_place_85 (lv_at hl 0 rfl) ?_
          exact W.iret (v := gI S a 13) hx hb hr (fun t ht hW => ⟨⟨gI S a 13, pI (pI (pI S a 13 p1) a 14 p2) a 15 p3, rfl, ⟨rfl, rfl⟩, by rw [ht]; exact hP, va_K.moved hW.alike hK, hD⟩, hS.F ht⟩) hS.2.2 dX5_place_87
        · exact absurd c_7 hn1
      · exact absurd c_6 hn1
    · exact absurd htk c_5

set_option maxRecDepth 100000 in
set_option maxHeartbeats 4000000 in
/-- place, in no layer -/
theorem c_place_n (l : Launch) (D : va_G) (cA : Nat → ClassId) (sz : Nat) (S : Pool) (x : Nat) (hx5 : isO S x 5) (ar : Nat) (hq0 : gQ S x 0 = some ar) (ak : Nat) (hq1 : gQ S x 1 = some ak) (hak : isO S ak 1) (hR : okR S ar) (j : Nat) (hj : j < 8) (a : Nat) (hja : gP S ar j = some a) (p0 : Int32) (hsw : kSw S ar p0 = some a) (p2 p3 : Int32) : Met l yX5_place (Cond.code yX5_place cX5_place 7 (some .int) :: TT) ({ frames := 2, cells := 0, slots := 0, locals := 43 }) (va_Pc [.ref x, .int p0, .int (-1), .int p2, .int p3] (kPre D cA (PW cA S) sz)) (va_Qi (fun (r_ : Int32) (x_ : Pool) => r_ = gI S a 13 ∧ x_ = pI (pI (pI S a 13 (-1)) a 14 0) a 15 0) (fun x_ => kB D cA (va_A (PW cA S) sz) (PW cA x_)) (va_A (PW cA S) sz)) 0 0 (va_A (PW cA S) sz) := by
  refine Met.ofW (cc := cX5_place) (maxL := 7) (ret := (some .int)) (by decide) rfl ?_
  intro p e s m args below meth c s₁ B hml hv
  obtain ⟨rfl, hsz, hP, hK, hD0, hTB⟩ := hv
  have hx := B.exec
  have hb := B.bytes
  have hr := B.returns
  have hts := atoms_spec (ws := Cond.code yX5_place cX5_place 7 (some .int) :: TT) B.pre
  have htT : ∀ w ∈ TT, w.before _ s = true := fun w h => hts w (List.mem_cons_of_mem _ h)
  have hown : s.vm.findClass RX5 = some m.cls := findClass_of_methodNamed B.named
  have hlocks := B.notSynchronized
  subst hsz
  have hD := hD0.self (sz := s.heap.size)
  generalize hAe : va_A (PW cA S) s.heap.size = A at hD ⊢
  have hA : ∀ q : Nat, s.heap.size ≤ q → A q := fun q h => by rw [← hAe]; exact Or.inr h
  have hS : va_S A s.heap s.heap [] := va_S.rf
  have hl := lv_entry ([.ref x, .int p0, .int (-1), .int p2, .int p3]) (n := 7) (Nat.le_of_ble_eq_true rfl)
  rw [lg_entry_eq]
  generalize (lg_sl ([.ref x, .int p0, .int (-1), .int p2, .int p3]) ++ List.replicate (7 - (lg_sl ([.ref x, .int p0, .int (-1), .int p2, .int p3])).length) Slot.unset).toArray = ls at hl ⊢
  have hl : lv_has ls 7 [(0, .ref x), (1, .int p0), (2, .int (-1)), (3, .int p2), (4, .int p3)] := hl
  refine lv_aload_n hx hb dX5_place_0 rfl (lv_at hl 0 rfl) ?_
  refine lv_iload_n hx hb dX5_place_1 rfl (lv_at hl 1 rfl) ?_
  refine kc_q (va_runV (As := [.int p0]) (rest := []) ⟨hx, hb, hml, hown, htT⟩ (c_known l D cA _ S x hx5 ar hq0 hR.1 p0 a hsw) (cwV 1 htT (kg_V m_ml_X5_45 m_im_X5_known m_sl_X5_known m_in_X5 m_cd_X5_known) rfl rfl rfl (by decide +kernel) ⟨Nat.le_of_ble_eq_true rfl, Nat.le_of_ble_eq_true rfl⟩) (kp_V hK hP hD hTB (kp_rc hK hP hx5 (Nat.le_of_ble_eq_true rfl) rfl)) rfl rfl hl.1 rfl (lv_room (Nat.le_of_ble_eq_true rfl)) dX5_place_2 ⟨Nat.le_of_ble_eq_true rfl, Nat.le_of_ble_eq_true rfl⟩) hD hS hA (fun r_1 x_1 H locs hq_1 hP hD hS => ?_)
  rw [hq_1.1]
  rw [hq_1.2] at hP hD
  refine lv_astore (lv' := [(5, .ref a), (0, .ref x), (1, .int p0), (2, .int (-1)), (3, .int p2), (4, .int p3)]) hx hb dX5_place_5 hl (by decide) rfl (fun ls hl => ?_)
  refine lv_iload_n hx hb dX5_place_7 rfl (lv_at hl 3 rfl) ?_
  refine lv_iconst (v := (-1)) hx hb dX5_place_8 (by decide) ?_
  refine lv_icmp_eq (tgt := 41) hx hb dX5_place_9 (by decide) (fun _ => ?_) (fun c_2 => absurd c_2 (by decide))
  refine lv_aload hx hb dX5_place_41 (lv_at hl 0 rfl) ?_
  refine kx_getiN hx hb htT m_u_X3 hown hK hP ((hR.2 j hj a hja).1.1) (Nat.le_of_ble_eq_true rfl) rfl 13 (by decide) (by decide) rfl (hTB.use m_fl_X5_88) dX5_place_43 ?_
  refine lv_istore (lv' := [(6, .int (gI S a 13)), (5, .ref a), (0, .ref x), (1, .int p0), (2, .int (-1)), (3, .int p2), (4, .int p3)]) hx hb dX5_place_46 hl (by decide) rfl (fun ls hl => ?_)
  refine lv_aload hx hb dX5_place_48 (lv_at hl 1 rfl) ?_
  refine lv_iload_n hx hb dX5_place_50 rfl (lv_at hl 4 rfl) ?_
  refine kx_putiN (ty := .int) hx hb htT m_u_X3 tyX3 tyX3_ok nmX3 hown hK hP hD hS ((hR.2 j hj a hja).1.1) (Nat.le_of_ble_eq_true rfl) rfl 13 (by decide) (by decide) rfl (hTB.use m_fl_X5_88) rfl (by decide +kernel) rfl rfl dX5_place_51 (fun H locs hP hD hS => ?_)
  refine lv_aload hx hb dX5_place_54 (lv_at hl 1 rfl) ?_
  refine lv_iload_n hx hb dX5_place_56 rfl (lv_at hl 4 rfl) ?_
  refine lv_iconst (v := (-1)) hx hb dX5_place_57 (by decide) ?_
  refine lv_icmp_ne (tgt := 65) hx hb dX5_place_58 (by decide) (fun c_3 => absurd c_3 (by decide)) (fun _ => ?_)
  refine lv_iconst (v := 0) hx hb dX5_place_61 (by decide) ?_
  refine lv_goto (tgt := 66) hx hb dX5_place_62 (by decide) ?_
  refine kx_putiN (ty := .int) hx hb htT m_u_X3 tyX3 tyX3_ok nmX3 hown hK hP hD hS ((hR.2 j hj a hja).1.1) (Nat.le_of_ble_eq_true rfl) rfl 14 (by decide) (by decide) rfl (hTB.use m_fl_X5_91) rfl (by decide +kernel) rfl rfl dX5_place_66 (fun H locs hP hD hS => ?_)
  refine lv_aload hx hb dX5_place_69 (lv_at hl 1 rfl) ?_
  refine lv_iload_n hx hb dX5_place_71 rfl (lv_at hl 4 rfl) ?_
  refine lv_iconst (v := (-1)) hx hb dX5_place_72 (by decide) ?_
  refine lv_icmp_ne (tgt := 80) hx hb dX5_place_73 (by decide) (fun c_4 => absurd c_4 (by decide)) (fun _ => ?_)
  refine lv_iconst (v := 0) hx hb dX5_place_76 (by decide) ?_
  refine lv_goto (tgt := 82) hx hb dX5_place_77 (by decide) ?_
  refine kx_putiN (ty := .int) hx hb htT m_u_X3 tyX3 tyX3_ok nmX3 hown hK hP hD hS ((hR.2 j hj a hja).1.1) (Nat.le_of_ble_eq_true rfl) rfl 15 (by decide) (by decide) rfl (hTB.use m_fl_X5_94) rfl (by decide +kernel) rfl rfl dX5_place_82 (fun H locs hP hD hS => ?_)
  refine lv_iload hx hb dX5_place_85 (lv_at hl 0 rfl) ?_
  exact W.iret (v := gI S a 13) hx hb hr (fun t ht hW => ⟨⟨gI S a 13, pI (pI (pI S a 13 (-1)) a 14 0) a 15 0, rfl, ⟨rfl, rfl⟩, by rw [ht]; exact hP, va_K.moved hW.alike hK, hD⟩, hS.F ht⟩) hS.2.2 dX5_place_87

set_option maxRecDepth 100000 in
set_option maxHeartbeats 4000000 in
theorem c_place_t1 (l : Launch) (hst : l.stackTraces = false) (D : va_G) (cA : Nat → ClassId) (sz : Nat) (S : Pool) (x : Nat) (hx5 : isO S x 5) (ar : Nat) (hq0 : gQ S x 0 = some ar) (ak : Nat) (hq1 : gQ S x 1 = some ak) (hak : isO S ak 1) (hR : okR S ar) (j : Nat) (hj : j < 8) (a : Nat) (hja : gP S ar j = some a) (p0 : Int32) (hsw : kSw S ar p0 = some a) (p1 p2 p3 : Int32) (hn1 : ¬ p1 = -1) (hbad : kRng p1 p2 p3 = 0) : vx_Met l yX5_place (Cond.code yX5_place cX5_place 7 (some .int) :: TT) ({ frames := 7, cells := 1, slots := 6, locals := 104 }) (va_Pc [.ref x, .int p0, .int p1, .int p2, .int p3] (kPreX D cA (PW cA S) sz)) kNo (kXC D cA (PW cA S) "java/lang/IllegalArgumentException" (va_A (PW cA S) sz)) 1 6 (va_A (PW cA S) sz) := by
  refine vx_ofW (cc := cX5_place) (maxL := 7) (ret := (some .int)) (by decide) rfl ?_
  intro p e s m args below meth c s₁ B hml hTab hv
  obtain ⟨rfl, ⟨hsz, hP, hK, hD0, hTB⟩, hTX⟩ := hv
  have hx := B.exec
  have hb := B.bytes
  have hr := B.returns
  have hts := atoms_spec (ws := Cond.code yX5_place cX5_place 7 (some .int) :: TT) B.pre
  have htT : ∀ w ∈ TT, w.before _ s = true := fun w h => hts w (List.mem_cons_of_mem _ h)
  have hown : s.vm.findClass RX5 = some m.cls := findClass_of_methodNamed B.named
  have hlocks := B.notSynchronized
  subst hsz
  have hD := hD0.self (sz := s.heap.size)
  generalize hAe : va_A (PW cA S) s.heap.size = A at hD hTX ⊢
  have hA : ∀ q : Nat, s.heap.size ≤ q → A q := fun q h => by rw [← hAe]; exact Or.inr h
  have hS : va_S A s.heap s.heap [] := va_S.rf
  have hl := lv_entry ([.ref x, .int p0, .int p1, .int p2, .int p3]) (n := 7) (Nat.le_of_ble_eq_true rfl)
  rw [lg_entry_eq]
  generalize (lg_sl ([.ref x, .int p0, .int p1, .int p2, .int p3]) ++ List.replicate (7 - (lg_sl ([.ref x, .int p0, .int p1, .int p2, .int p3])).length) Slot.unset).toArray = ls at hl ⊢
  have hl : lv_has ls 7 [(0, .ref x), (1, .int p0), (2, .int p1), (3, .int p2), (4, .int p3)] := hl
  refine lv_aload_n hx hb dX5_place_0 rfl (lv_at hl 0 rfl) ?_
  refine lv_iload_n hx hb dX5_place_1 rfl (lv_at hl 1 rfl) ?_
  refine kc_q (va_runV (As := [.int p0]) (rest := []) ⟨hx, hb, hml, hown, htT⟩ (c_known l D cA _ S x hx5 ar hq0 hR.1 p0 a hsw) (cwV 1 htT (kg_V m_ml_X5_45 m_im_X5_known m_sl_X5_known m_in_X5 m_cd_X5_known) rfl rfl rfl (by decide +kernel) ⟨Nat.le_of_ble_eq_true rfl, Nat.le_of_ble_eq_true rfl⟩) (kp_V hK hP hD hTB (kp_rc hK hP hx5 (Nat.le_of_ble_eq_true rfl) rfl)) rfl rfl hl.1 rfl (lv_room (Nat.le_of_ble_eq_true rfl)) dX5_place_2 ⟨Nat.le_of_ble_eq_true rfl, Nat.le_of_ble_eq_true rfl⟩) hD hS hA (fun r_1 x_1 H locs hq_1 hP hD hS => ?_)
  rw [hq_1.1]
  rw [hq_1.2] at hP hD
  refine lv_astore (lv' := [(5, .ref a), (0, .ref x), (1, .int p0), (2, .int p1), (3, .int p2), (4, .int p3)]) hx hb dX5_place_5 hl (by decide) rfl (fun ls hl => ?_)
  refine lv_iload_n hx hb dX5_place_7 rfl (lv_at hl 3 rfl) ?_
  refine lv_iconst (v := (-1)) hx hb dX5_place_8 (by decide) ?_
  refine lv_icmp_eq (tgt := 41) hx hb dX5_place_9 (by decide) (fun c_2 => ?_) (fun c_2 => ?_)
  · exact absurd c_2 hn1
  · refine lv_iload_n hx hb dX5_place_12 rfl (lv_at hl 3 rfl) ?_
    refine lv_iload_n hx hb dX5_place_13 rfl (lv_at hl 4 rfl) ?_
    refine lv_iload hx hb dX5_place_14 (lv_at hl 5 rfl) ?_
    refine kt_call (vx_runS (As := [.int p1, .int p2, .int p3]) (rest := []) ⟨hx, hb, hml, hown, htT⟩ (c_checkRange_t l hst D cA _ S p1 p2 p3 hbad) (cwS 3 htT (kg_S m_ml_X5_79 m_st_X5_checkRange m_in_X5 m_cd_X5_checkRange) rfl rfl rfl (by decide +kernel) ⟨Nat.le_of_ble_eq_true rfl, Nat.le_of_ble_eq_true rfl⟩) (kp_SX hK hP hD hTB hTX hS hA) rfl rfl hl.1 rfl (lv_room (Nat.le_of_ble_eq_true rfl)) dX5_place_16 ⟨Nat.le_of_ble_eq_true rfl, Nat.le_of_ble_eq_true rfl⟩) hD hS hA (fun ce q9 H locs hP hD hS hce hcv hcl => ?_)
    exact kt_out hTab hlocks hK hP hD hS hce hcv hcl (Nat.le_of_ble_eq_true rfl) (Nat.le_of_ble_eq_true rfl)

set_option maxRecDepth 100000 in
set_option maxHeartbeats 4000000 in
theorem c_place_t2 (l : Launch) (hst : l.stackTraces = false) (D : va_G) (cA : Nat → ClassId) (sz : Nat) (S : Pool) (x : Nat) (hx5 : isO S x 5) (ar : Nat) (hq0 : gQ S x 0 = some ar) (ak : Nat) (hq1 : gQ S x 1 = some ak) (hak : isO S ak 1) (hR : okR S ar) (j : Nat) (hj : j < 8) (a : Nat) (hja : gP S ar j = some a) (p0 : Int32) (hsw : kSw S ar p0 = some a) (p1 p2 p3 : Int32) (hn1 : ¬ p1 = -1) (hbad : kRng p1 p2 p3 = 1) (htk : ¬ cTak S ar p0 p1 p2 p3 8 0 = 0) : vx_Met l yX5_place (Cond.code yX5_place cX5_place 7 (some .int) :: TT) ({ frames := 6, cells := 1, slots := 6, locals := 82 }) (va_Pc [.ref x, .int p0, .int p1, .int p2, .int p3] (kPreX D cA (PW cA S) sz)) kNo (kXC D cA (PW cA S) "java/lang/IllegalStateException" (va_A (PW cA S) sz)) 1 6 (va_A (PW cA S) sz) := by
  refine vx_ofW (cc := cX5_place) (maxL := 7) (ret := (some .int)) (by decide) rfl ?_
  intro p e s m args below meth c s₁ B hml hTab hv
  obtain ⟨rfl, ⟨hsz, hP, hK, hD0, hTB⟩, hTX⟩ := hv
  have hx := B.exec
  have hb := B.bytes
  have hr := B.returns
  have hts := atoms_spec (ws := Cond.code yX5_place cX5_place 7 (some .int) :: TT) B.pre
  have htT : ∀ w ∈ TT, w.before _ s = true := fun w h => hts w (List.mem_cons_of_mem _ h)
  have hown : s.vm.findClass RX5 = some m.cls := findClass_of_methodNamed B.named
  have hlocks := B.notSynchronized
  subst hsz
  have hD := hD0.self (sz := s.heap.size)
  generalize hAe : va_A (PW cA S) s.heap.size = A at hD hTX ⊢
  have hA : ∀ q : Nat, s.heap.size ≤ q → A q := fun q h => by rw [← hAe]; exact Or.inr h
  have hS : va_S A s.heap s.heap [] := va_S.rf
  have hl := lv_entry ([.ref x, .int p0, .int p1, .int p2, .int p3]) (n := 7) (Nat.le_of_ble_eq_true rfl)
  rw [lg_entry_eq]
  generalize (lg_sl ([.ref x, .int p0, .int p1, .int p2, .int p3]) ++ List.replicate (7 - (lg_sl ([.ref x, .int p0, .int p1, .int p2, .int p3])).length) Slot.unset).toArray = ls at hl ⊢
  have hl : lv_has ls 7 [(0, .ref x), (1, .int p0), (2, .int p1), (3, .int p2), (4, .int p3)] := hl
  refine lv_aload_n hx hb dX5_place_0 rfl (lv_at hl 0 rfl) ?_
  refine lv_iload_n hx hb dX5_place_1 rfl (lv_at hl 1 rfl) ?_
  refine kc_q (va_runV (As := [.int p0]) (rest := []) ⟨hx, hb, hml, hown, htT⟩ (c_known l D cA _ S x hx5 ar hq0 hR.1 p0 a hsw) (cwV 1 htT (kg_V m_ml_X5_45 m_im_X5_known m_sl_X5_known m_in_X5 m_cd_X5_known) rfl rfl rfl (by decide +kernel) ⟨Nat.le_of_ble_eq_true rfl, Nat.le_of_ble_eq_true rfl⟩) (kp_V hK hP hD hTB (kp_rc hK hP hx5 (Nat.le_of_ble_eq_true rfl) rfl)) rfl rfl hl.1 rfl (lv_room (Nat.le_of_ble_eq_true rfl)) dX5_place_2 ⟨Nat.le_of_ble_eq_true rfl, Nat.le_of_ble_eq_true rfl⟩) hD hS hA (fun r_1 x_1 H locs hq_1 hP hD hS => ?_)
  rw [hq_1.1]
  rw [hq_1.2] at hP hD
  refine lv_astore (lv' := [(5, .ref a), (0, .ref x), (1, .int p0), (2, .int p1), (3, .int p2), (4, .int p3)]) hx hb dX5_place_5 hl (by decide) rfl (fun ls hl => ?_)
  refine lv_iload_n hx hb dX5_place_7 rfl (lv_at hl 3 rfl) ?_
  refine lv_iconst (v := (-1)) hx hb dX5_place_8 (by decide) ?_
  refine lv_icmp_eq (tgt := 41) hx hb dX5_place_9 (by decide) (fun c_2 => ?_) (fun c_2 => ?_)
  · exact absurd c_2 hn1
  · refine lv_iload_n hx hb dX5_place_12 rfl (lv_at hl 3 rfl) ?_
    refine lv_iload_n hx hb dX5_place_13 rfl (lv_at hl 4 rfl) ?_
    refine lv_iload hx hb dX5_place_14 (lv_at hl 5 rfl) ?_
    refine kc_v (va_runS (As := [.int p1, .int p2, .int p3]) (rest := []) ⟨hx, hb, hml, hown, htT⟩ (c_checkRange l D cA _ S p1 p2 p3 hbad) (cwS 3 htT (kg_S m_ml_X5_79 m_st_X5_checkRange m_in_X5 m_cd_X5_checkRange) rfl rfl rfl (by decide +kernel) ⟨Nat.le_of_ble_eq_true rfl, Nat.le_of_ble_eq_true rfl⟩) (kp_S hK hP hD hTB) rfl rfl hl.1 rfl (lv_room (Nat.le_of_ble_eq_true rfl)) dX5_place_16 ⟨Nat.le_of_ble_eq_true rfl, Nat.le_of_ble_eq_true rfl⟩) hD hS hA (fun x_3 H locs hq_3 hP hD hS => ?_)
    rw [hq_3] at hP hD
    refine lv_aload_n hx hb dX5_place_19 rfl (lv_at hl 1 rfl) ?_
    refine lv_iload_n hx hb dX5_place_20 rfl (lv_at hl 2 rfl) ?_
    refine lv_iload_n hx hb dX5_place_21 rfl (lv_at hl 3 rfl) ?_
    refine lv_iload_n hx hb dX5_place_22 rfl (lv_at hl 4 rfl) ?_
    refine lv_iload hx hb dX5_place_23 (lv_at hl 5 rfl) ?_
    refine kc_i (va_runV (As := [.int p0, .int p1, .int p2, .int p3]) (rest := []) ⟨hx, hb, hml, hown, htT⟩ (c_isTaken l D cA _ S x hx5 ar hq0 hR p0 p1 p2 p3) (cwV 4 htT (kg_V m_ml_X5_82 m_im_X5_isTaken m_sl_X5_isTaken m_in_X5 m_cd_X5_isTaken) rfl rfl rfl (by decide +kernel) ⟨Nat.le_of_ble_eq_true rfl, Nat.le_of_ble_eq_true rfl⟩) (kp_V hK hP hD hTB (kp_rc hK hP hx5 (Nat.le_of_ble_eq_true rfl) rfl)) rfl rfl hl.1 rfl (lv_room (Nat.le_of_ble_eq_true rfl)) dX5_place_25 ⟨Nat.le_of_ble_eq_true rfl, Nat.le_of_ble_eq_true rfl⟩) hD hS hA (fun r_4 x_4 H locs hq_4 hP hD hS => ?_)
    rw [hq_4.1]
    rw [hq_4.2] at hP hD
    refine lv_if_eq (tgt := 41) hx hb dX5_place_28 (by decide) (fun c_5 => ?_) (fun c_5 => ?_)
    · exact absurd c_5 htk
    · exact kt_new (text := "another switch has some of the range") hx hb hst hown (Or.inr (Or.inl rfl)) (htT _ m_cl_X5_37) (htT _ m_in_IllegalStateException) (by decide +kernel) (fun w h => htT w (at_ISE w h)) an_ISE (ag_ISE 37) hTB hTX hK hP hD hS (hl.1.trans hml.symm) dX5_place_31 dX5_place_34 dX5_place_35 dX5_place_37 dX5_place_40 hTab (Nat.le_of_ble_eq_true rfl) (Nat.le_of_ble_eq_true rfl) (Nat.le_of_ble_eq_true rfl) (Nat.le_of_ble_eq_true rfl) hlocks (Nat.le_of_ble_eq_true rfl) (Nat.le_of_ble_eq_true rfl)

set_option maxRecDepth 100000 in
set_option maxHeartbeats 4000000 in
/-- left -/
theorem c_left (l : Launch) (D : va_G) (cA : Nat → ClassId) (sz : Nat) (S : Pool) (x : Nat) (hx5 : isO S x 5) (ar : Nat) (hq0 : gQ S x 0 = some ar) (hR : okR S ar) (p0 : Int32) (h1 : kOut p0 0 2 = 0) : Met l yX5_left (Cond.code yX5_left cX5_left 7 (some .int) :: TT) ({ frames := 1, cells := 0, slots := 0, locals := 22 }) (va_Pc [.ref x, .int p0] (kPre D cA (PW cA S) sz)) (va_Qi (fun (r_ : Int32) (x_ : Pool) => r_ = cLeft S ar p0 8 0 1000 ∧ x_ = S) (fun x_ => kB D cA (va_A (PW cA S) sz) (PW cA x_)) (va_A (PW cA S) sz)) 0 0 (va_A (PW cA S) sz) := by
  refine Met.ofW (cc := cX5_left) (maxL := 7) (ret := (some .int)) (by decide) rfl ?_
  intro p e s m args below meth c s₁ B hml hv
  obtain ⟨rfl, hsz, hP, hK, hD0, hTB⟩ := hv
  have hx := B.exec
  have hb := B.bytes
  have hr := B.returns
  have hts := atoms_spec (ws := Cond.code yX5_left cX5_left 7 (some .int) :: TT) B.pre
  have htT : ∀ w ∈ TT, w.before _ s = true := fun w h => hts w (List.mem_cons_of_mem _ h)
  have hown : s.vm.findClass RX5 = some m.cls := findClass_of_methodNamed B.named
  have hlocks := B.notSynchronized
  subst hsz
  have hD := hD0.self (sz := s.heap.size)
  generalize hAe : va_A (PW cA S) s.heap.size = A at hD ⊢
  have hA : ∀ q : Nat, s.heap.size ≤ q → A q := fun q h => by rw [← hAe]; exact Or.inr h
  have hS : va_S A s.heap s.heap [] := va_S.rf
  have hl := lv_entry ([.ref x, .int p0]) (n := 7) (Nat.le_of_ble_eq_true rfl)
  rw [lg_entry_eq]
  generalize (lg_sl ([.ref x, .int p0]) ++ List.replicate (7 - (lg_sl ([.ref x, .int p0])).length) Slot.unset).toArray = ls at hl ⊢
  have hl : lv_has ls 7 [(0, .ref x), (1, .int p0)] := hl
  refine lv_iload_n hx hb dX5_left_0 rfl (lv_at hl 1 rfl) ?_
  refine lv_iconst (v := 0) hx hb dX5_left_1 (by decide) ?_
  refine lv_iconst (v := 2) hx hb dX5_left_2 (by decide) ?_
  refine kc_i (va_runS (As := [.int p0, .int 0, .int 2]) (rest := []) ⟨hx, hb, hml, hown, htT⟩ (c_isOutside l D cA _ S p0 0 2) (cwS 3 htT (kg_S m_ml_X5_22 m_st_X5_isOutside m_in_X5 m_cd_X5_isOutside) rfl rfl rfl (by decide +kernel) ⟨Nat.le_of_ble_eq_true rfl, Nat.le_of_ble_eq_true rfl⟩) (kp_S hK hP hD hTB) rfl rfl hl.1 rfl (lv_room (Nat.le_of_ble_eq_true rfl)) dX5_left_3 ⟨Nat.le_of_ble_eq_true rfl, Nat.le_of_ble_eq_true rfl⟩) hD hS hA (fun r_1 x_1 H locs hq_1 hP hD hS => ?_)
  rw [hq_1.1.trans h1]
  rw [hq_1.2] at hP hD
  refine lv_if_eq (tgt := 19) hx hb dX5_left_6 (by decide) (fun _ => ?_) (fun c_2 => absurd c_2 (by decide))
  refine lv_sipush (v := 1000) hx hb dX5_left_19 (by decide) ?_
  refine lv_istore_n (lv' := [(2, .int 1000), (0, .ref x), (1, .int p0)]) hx hb dX5_left_22 rfl hl (by decide) rfl (fun ls hl => ?_)
  refine lv_aload_n hx hb dX5_left_23 rfl (lv_at hl 1 rfl) ?_
  refine kx_gets hx hb htT m_u_X5 hown hK hP hx5 (Nat.le_of_ble_eq_true rfl) rfl 0 (by decide) (by decide) rfl hq0 (htT _ m_fl_X5_11) dX5_left_24 ?_
  refine lv_astore_n (lv' := [(3, .ref ar), (2, .int 1000), (0, .ref x), (1, .int p0)]) hx hb dX5_left_27 rfl hl (by decide) rfl (fun ls hl => ?_)
  refine lv_aload_n hx hb dX5_left_28 rfl (lv_at hl 0 rfl) ?_
  refine kx_alen (v := 8) hx hb hK hP hR.1 (Nat.le_of_ble_eq_true rfl) (Nat.le_of_ble_eq_true rfl) rfl dX5_left_29 ?_
  refine lv_istore (lv' := [(4, .int 8), (3, .ref ar), (2, .int 1000), (0, .ref x), (1, .int p0)]) hx hb dX5_left_30 hl (by decide) rfl (fun ls hl => ?_)
  refine lv_iconst (v := 0) hx hb dX5_left_32 (by decide) ?_
  refine lv_istore (lv' := [(5, .int 0), (4, .int 8), (3, .ref ar), (2, .int 1000), (0, .ref x), (1, .int p0)]) hx hb dX5_left_33 hl (by decide) rfl (fun ls hl => ?_)
  refine kz_loop 35 (fun N9 H locs ls => ∃ (j : Nat) (acc : Int32), N9 = 8 - j ∧ j ≤ 8 ∧ cLeft S ar p0 8 0 1000 = cLeft S ar p0 (8 - j) j acc ∧ va_P D vwCl (PW cA S) H ∧ va_D A (PW cA S) ∧ va_S A s.heap H locs ∧ lv_has ls 7 [(5, .int (nI j)), (4, .int 8), (3, .ref ar), (2, .int acc), (1, .int p0), (0, .ref x)]) (fun N9 ih_35 H locs ls hI => ?_) ⟨0, 1000, rfl, by omega, rfl, hP, hD, hS, lv_sub hl [0, 1, 2, 3, 5, 4] rfl⟩
  obtain ⟨j, acc, hn9, hj, hF, hP, hD, hS, hl⟩ := hI
  refine lv_iload hx hb dX5_left_35 (lv_at hl 0 rfl) ?_
  refine lv_iload hx hb dX5_left_37 (lv_at hl 1 rfl) ?_
  refine lv_icmp_ge (tgt := 82) hx hb dX5_left_39 (by decide) (fun c_3 => ?_) (fun c_3 => ?_)
  · replace c_3 := (nI_leI (a := 8) (b := j) (by omega) (by omega)).mp c_3
    refine lv_iload_n hx hb dX5_left_82 rfl (lv_at hl 3 rfl) ?_
    exact W.iret (v := acc) hx hb hr (fun t ht hW => ⟨⟨acc, S, rfl, ⟨by rw [hF, show 8 - j = 0 by omega]; rfl, rfl⟩, by rw [ht]; exact hP, va_K.moved hW.alike hK, hD⟩, hS.F ht⟩) hS.2.2 dX5_left_83
  · replace c_3 : ¬ (8 ≤ j) := fun h9 => c_3 ((nI_leI (a := 8) (b := j) (by omega) (by omega)).mpr h9)
    refine lv_aload_n hx hb dX5_left_42 rfl (lv_at hl 2 rfl) ?_
    refine lv_iload hx hb dX5_left_43 (lv_at hl 0 rfl) ?_
    refine kx_alds (r := gP S ar j) hx hb hK hP hR.1 (show vp_in (nI (j)) 8 from ki_in (by omega) (by decide)) (congrArg _ (ki_cl (by omega))) dX5_left_45 ?_
    rcases hr9 : gP S ar j with _ | y_9
    · refine lv_astoreN (lv' := [(6, .null), (5, .int (nI j)), (4, .int 8), (3, .ref ar), (2, .int acc), (1, .int p0), (0, .ref x)]) hx hb dX5_left_46 hl (by decide) rfl (fun ls hl => ?_)
      refine lv_aloadN hx hb dX5_left_48 (lv_at hl 0 rfl) ?_
      refine lv_ifnullN (tgt := 76) hx hb dX5_left_50 (by decide) ?_
      refine lv_iinc (v := nI (j + 1)) (lv' := [(5, .int (nI (j + 1))), (6, .null), (4, .int 8), (3, .ref ar), (2, .int acc), (1, .int p0), (0, .ref x)]) hx hb dX5_left_76 hl (k := 1) rfl (nI_1 _) (by decide) rfl (fun ls hl => ?_)
      refine lv_goto (tgt := 35) hx hb dX5_left_79 (by decide) ?_
      have hl := lv_sub hl [0, 2, 3, 4, 5, 6] rfl
      exact ih_35 _ (by omega) H locs ls ⟨j + 1, _, rfl, by omega, by rw [hF, show 8 - j = (8 - (j + 1)) + 1 by omega]; simp [cLeft, hr9], hP, hD, hS, hl⟩
    · have hy9 := (hR.2 j (by omega) y_9 hr9).1.1
      refine lv_astore (lv' := [(6, .ref y_9), (5, .int (nI j)), (4, .int 8), (3, .ref ar), (2, .int acc), (1, .int p0), (0, .ref x)]) hx hb dX5_left_46 hl (by decide) rfl (fun ls hl => ?_)
      refine lv_aload hx hb dX5_left_48 (lv_at hl 0 rfl) ?_
      refine lv_ifnull hx hb dX5_left_50 ?_
      refine lv_aload hx hb dX5_left_53 (lv_at hl 0 rfl) ?_
      refine kx_getiN hx hb htT m_u_X3 hown hK hP hy9 (Nat.le_of_ble_eq_true rfl) rfl 13 (by decide) (by decide) rfl (hTB.use m_fl_X5_88) dX5_left_55 ?_
      refine lv_iload_n hx hb dX5_left_58 rfl (lv_at hl 5 rfl) ?_
      refine lv_icmp_ne (tgt := 76) hx hb dX5_left_59 (by decide) (fun c_4 => ?_) (fun c_4 => ?_)
      · refine lv_iinc (v := nI (j + 1)) (lv' := [(5, .int (nI (j + 1))), (6, .ref y_9), (4, .int 8), (3, .ref ar), (2, .int acc), (1, .int p0), (0, .ref x)]) hx hb dX5_left_76 hl (k := 1) rfl (nI_1 _) (by decide) rfl (fun ls hl => ?_)
        refine lv_goto (tgt := 35) hx hb dX5_left_79 (by decide) ?_
        have hl := lv_sub hl [0, 2, 3, 4, 5, 6] rfl
        exact ih_35 _ (by omega) H locs ls ⟨j + 1, _, rfl, by omega, by rw [hF, show 8 - j = (8 - (j + 1)) + 1 by omega]; simp [cLeft, hr9, c_4], hP, hD, hS, hl⟩
      · refine lv_iload_n hx hb dX5_left_62 rfl (lv_at hl 4 rfl) ?_
        refine lv_aload hx hb dX5_left_63 (lv_at hl 0 rfl) ?_
        refine kx_getiN hx hb htT m_u_X3 hown hK hP hy9 (Nat.le_of_ble_eq_true rfl) rfl 15 (by decide) (by decide) rfl (hTB.use m_fl_X5_94) dX5_left_65 ?_
        refine lv_aload hx hb dX5_left_68 (lv_at hl 0 rfl) ?_
        refine kx_getiN hx hb htT m_u_X3 hown hK hP hy9 (Nat.le_of_ble_eq_true rfl) rfl 14 (by decide) (by decide) rfl (hTB.use m_fl_X5_91) dX5_left_70 ?_
        refine lv_isub hx hb dX5_left_73 ?_
        refine lv_isub hx hb dX5_left_74 ?_
        refine lv_istore_n (lv' := [(2, .int (acc - ((gI S y_9 15) - (gI S y_9 14)))), (6, .ref y_9), (5, .int (nI j)), (4, .int 8), (3, .ref ar), (1, .int p0), (0, .ref x)]) hx hb dX5_left_75 rfl hl (by decide) rfl (fun ls hl => ?_)
        refine lv_iinc (v := nI (j + 1)) (lv' := [(5, .int (nI (j + 1))), (2, .int (acc - ((gI S y_9 15) - (gI S y_9 14)))), (6, .ref y_9), (4, .int 8), (3, .ref ar), (1, .int p0), (0, .ref x)]) hx hb dX5_left_76 hl (k := 2) rfl (nI_1 _) (by decide) rfl (fun ls hl => ?_)
        refine lv_goto (tgt := 35) hx hb dX5_left_79 (by decide) ?_
        have hl := lv_sub hl [0, 3, 4, 1, 5, 6] rfl
        exact ih_35 _ (by omega) H locs ls ⟨j + 1, _, rfl, by omega, by rw [hF, show 8 - j = (8 - (j + 1)) + 1 by omega]; simp [cLeft, hr9, c_4], hP, hD, hS, hl⟩

