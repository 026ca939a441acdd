/-! the class: what is told, what would be -/
theorem kOut_lt {v : Int32} (h : kOut v 0 3 = 1) : v.toInt < 0 ∨ 3 < v.toInt := by
  unfold kOut at h
  by_cases h0 : v < 0
  · exact Or.inl (Int32.lt_iff_toInt_lt.mp h0)
  · rw [if_neg h0] at h
    by_cases h1 : v ≤ 3
    · rw [if_pos h1] at h; exact absurd h (by decide)
    · exact Or.inr (Int32.lt_iff_toInt_lt.mp (Int32.not_le.mp h1))
set_option maxRecDepth 100000 in
set_option maxHeartbeats 4000000 in
/-- told -/
theorem c_told (l : Launch) (D : va_G) (cA : Nat → ClassId) (sz : Nat) (S : Pool) (x : Nat) (hx5 : isO S x 5) (ar : Nat) (hq0 : gQ S x 0 = some ar) (ak : Nat) (hq1 : gQ S x 1 = some ak) (hak : isO S ak 1) (hR : okR S ar) (j : Nat) (hj : j < 8) (a : Nat) (hja : gP S ar j = some a) (p0 : Int32) (hsw : kSw S ar p0 = some a) (p1 : Int32) (hv : kOut p1 0 (gI S a 2 - 1) = 0) (q : Nat) (hq : q < 4) : Met l yX5_told (Cond.code yX5_told cX5_told 5 (some .int) :: TT) ({ frames := 2, cells := 0, slots := 0, locals := 43 }) (va_Pc [.ref x, .int p0, .int p1, .int (nI q)] (kPre D cA (PW cA S) sz)) (va_Qi (fun (r_ : Int32) (x_ : Pool) => True ∧ x_ = S) (fun x_ => kB D cA (va_A (PW cA S) sz) (PW cA x_)) (va_A (PW cA S) sz)) 0 0 (va_A (PW cA S) sz) := by
  refine Met.ofW (cc := cX5_told) (maxL := 5) (ret := (some .int)) (by decide) rfl ?_
  intro p e s m args below meth c s₁ B hml hv
  obtain ⟨rfl, hsz, hP, hK, hD0, hTB⟩ := hv
  have hx := B.exec
  have hb := B.bytes
  have hr := B.returns
  have hts := atoms_spec (ws := Cond.code yX5_told cX5_told 5 (some .int) :: TT) B.pre
  have htT : ∀ w ∈ TT, w.before _ s = true := fun w h => hts w (List.mem_cons_of_mem _ h)
  have hown : s.vm.findClass RX5 = some m.cls := findClass_of_methodNamed B.named
  have hlocks := B.notSynchronized
  subst hsz
  have hD := hD0.self (sz := s.heap.size)
  generalize hAe : va_A (PW cA S) s.heap.size = A at hD ⊢
  have hA : ∀ q : Nat, s.heap.size ≤ q → A q := fun q h => by rw [← hAe]; exact Or.inr h
  have hS : va_S A s.heap s.heap [] := va_S.rf
  have hl := lv_entry ([.ref x, .int p0, .int p1, .int (nI q)]) (n := 5) (Nat.le_of_ble_eq_true rfl)
  rw [lg_entry_eq]
  generalize (lg_sl ([.ref x, .int p0, .int p1, .int (nI q)]) ++ List.replicate (5 - (lg_sl ([.ref x, .int p0, .int p1, .int (nI q)])).length) Slot.unset).toArray = ls at hl ⊢
  have hl : lv_has ls 5 [(0, .ref x), (1, .int p0), (2, .int p1), (3, .int (nI q))] := hl
  obtain ⟨-, ⟨wt, hq4, hwt⟩, -, -, ⟨ty, hq6, hty, ⟨t0, hqt0, ht0⟩, ⟨t1, hqt1, ht1⟩, ⟨t2, hqt2, ht2⟩, ⟨t3, hqt3, ht3⟩⟩, -⟩ := (hR.2 j hj a hja).1
  refine lv_aload_n hx hb dX5_told_0 rfl (lv_at hl 0 rfl) ?_
  refine lv_iload_n hx hb dX5_told_1 rfl (lv_at hl 1 rfl) ?_
  refine kc_q (va_runV (As := [.int p0]) (rest := []) ⟨hx, hb, hml, hown, htT⟩ (c_known l D cA _ S x hx5 ar hq0 hR.1 p0 a hsw) (cwV 1 htT (kg_V m_ml_X5_45 m_im_X5_known m_sl_X5_known m_in_X5 m_cd_X5_known) rfl rfl rfl (by decide +kernel) ⟨Nat.le_of_ble_eq_true rfl, Nat.le_of_ble_eq_true rfl⟩) (kp_V hK hP hD hTB (kp_rc hK hP hx5 (Nat.le_of_ble_eq_true rfl) rfl)) rfl rfl hl.1 rfl (lv_room (Nat.le_of_ble_eq_true rfl)) dX5_told_2 ⟨Nat.le_of_ble_eq_true rfl, Nat.le_of_ble_eq_true rfl⟩) hD hS hA (fun r_1 x_1 H locs hq_1 hP hD hS => ?_)
  rw [hq_1.1]
  rw [hq_1.2] at hP hD
  refine lv_astore (lv' := [(4, .ref a), (0, .ref x), (1, .int p0), (2, .int p1), (3, .int (nI q))]) hx hb dX5_told_5 hl (by decide) rfl (fun ls hl => ?_)
  refine lv_aload hx hb dX5_told_7 (lv_at hl 0 rfl) ?_
  refine lv_iload_n hx hb dX5_told_9 rfl (lv_at hl 3 rfl) ?_
  refine kc_v (va_runS (As := [.ref a, .int p1]) (rest := []) ⟨hx, hb, hml, hown, htT⟩ (c_checkVariant l D cA _ S a (hR.2 j hj a hja).1.1 p1 hv) (cwS 2 htT (kg_S m_ml_X5_49 m_st_X5_checkVariant m_in_X5 m_cd_X5_checkVariant) rfl rfl rfl (by decide +kernel) ⟨Nat.le_of_ble_eq_true rfl, Nat.le_of_ble_eq_true rfl⟩) (kp_S hK hP hD hTB) rfl rfl hl.1 rfl (lv_room (Nat.le_of_ble_eq_true rfl)) dX5_told_10 ⟨Nat.le_of_ble_eq_true rfl, Nat.le_of_ble_eq_true rfl⟩) hD hS hA (fun x_2 H locs hq_2 hP hD hS => ?_)
  rw [hq_2] at hP hD
  refine lv_iload_n hx hb dX5_told_13 rfl (lv_at hl 4 rfl) ?_
  rcases (show q = 0 ∨ q = 1 ∨ q = 2 ∨ q = 3 by omega) with rfl | rfl | rfl | rfl
  · refine lv_tableIn (off := 30) (tgt := 44) hx hb dX5_told_14 (by decide) (by decide) (by decide) (by decide) ?_
    refine lv_aload hx hb dX5_told_44 (lv_at hl 0 rfl) ?_
    refine kx_getsN hx hb htT m_u_X3 hown hK hP ((hR.2 j hj a hja).1.1) (Nat.le_of_ble_eq_true rfl) rfl 6 (by decide) (by decide) rfl hq6 (hTB.use m_fl_X5_188) dX5_told_46 ?_
    refine lv_iload_n hx hb dX5_told_49 rfl (lv_at hl 3 rfl) ?_
    refine kc_i (va_runV (As := [.int p1]) (rest := []) ⟨hx, hb, hml, hown, htT⟩ (c_countOf l D cA _ S ty hty t0 hqt0 ht0 p1) (cwV 1 htT (kg_V m_ml_X5_192 m_im_X4_countOf m_sl_X4_countOf m_in_X4 m_cd_X4_countOf) rfl rfl rfl (by decide +kernel) ⟨Nat.le_of_ble_eq_true rfl, Nat.le_of_ble_eq_true rfl⟩) (kp_V hK hP hD hTB (kp_rc hK hP hty (Nat.le_of_ble_eq_true rfl) rfl)) rfl rfl hl.1 rfl (lv_room (Nat.le_of_ble_eq_true rfl)) dX5_told_50 ⟨Nat.le_of_ble_eq_true rfl, Nat.le_of_ble_eq_true rfl⟩) hD hS hA (fun r_3 x_3 H locs hq_3 hP hD hS => ?_)
    rw [hq_3.2] at hP hD
    exact W.iret (v := r_3) hx hb hr (fun t ht hW => ⟨⟨r_3, S, rfl, ⟨trivial, rfl⟩, by rw [ht]; exact hP, va_K.moved hW.alike hK, hD⟩, hS.F ht⟩) hS.2.2 dX5_told_53
  · refine lv_tableIn (off := 40) (tgt := 54) hx hb dX5_told_14 (by decide) (by decide) (by decide) (by decide) ?_
    refine lv_aload hx hb dX5_told_54 (lv_at hl 0 rfl) ?_
    refine kx_getsN hx hb htT m_u_X3 hown hK hP ((hR.2 j hj a hja).1.1) (Nat.le_of_ble_eq_true rfl) rfl 6 (by decide) (by decide) rfl hq6 (hTB.use m_fl_X5_188) dX5_told_56 ?_
    refine lv_iload_n hx hb dX5_told_59 rfl (lv_at hl 3 rfl) ?_
    refine kc_i (va_runV (As := [.int p1]) (rest := []) ⟨hx, hb, hml, hown, htT⟩ (c_actedOf l D cA _ S ty hty t1 hqt1 ht1 p1) (cwV 1 htT (kg_V m_ml_X5_197 m_im_X4_actedOf m_sl_X4_actedOf m_in_X4 m_cd_X4_actedOf) rfl rfl rfl (by decide +kernel) ⟨Nat.le_of_ble_eq_true rfl, Nat.le_of_ble_eq_true rfl⟩) (kp_V hK hP hD hTB (kp_rc hK hP hty (Nat.le_of_ble_eq_true rfl) rfl)) rfl rfl hl.1 rfl (lv_room (Nat.le_of_ble_eq_true rfl)) dX5_told_60 ⟨Nat.le_of_ble_eq_true rfl, Nat.le_of_ble_eq_true rfl⟩) hD hS hA (fun r_4 x_4 H locs hq_4 hP hD hS => ?_)
    rw [hq_4.2] at hP hD
    exact W.iret (v := r_4) hx hb hr (fun t ht hW => ⟨⟨r_4, S, rfl, ⟨trivial, rfl⟩, by rw [ht]; exact hP, va_K.moved hW.alike hK, hD⟩, hS.F ht⟩) hS.2.2 dX5_told_63
  · refine lv_tableIn (off := 50) (tgt := 64) hx hb dX5_told_14 (by decide) (by decide) (by decide) (by decide) ?_
    refine lv_aload hx hb dX5_told_64 (lv_at hl 0 rfl) ?_
    refine kx_getsN hx hb htT m_u_X3 hown hK hP ((hR.2 j hj a hja).1.1) (Nat.le_of_ble_eq_true rfl) rfl 6 (by decide) (by decide) rfl hq6 (hTB.use m_fl_X5_188) dX5_told_66 ?_
    refine lv_iload_n hx hb dX5_told_69 rfl (lv_at hl 3 rfl) ?_
    refine kc_i (va_runV (As := [.int p1]) (rest := []) ⟨hx, hb, hml, hown, htT⟩ (c_sumOf l D cA _ S ty hty t2 hqt2 ht2 p1) (cwV 1 htT (kg_V m_ml_X5_200 m_im_X4_sumOf m_sl_X4_sumOf m_in_X4 m_cd_X4_sumOf) rfl rfl rfl (by decide +kernel) ⟨Nat.le_of_ble_eq_true rfl, Nat.le_of_ble_eq_true rfl⟩) (kp_V hK hP hD hTB (kp_rc hK hP hty (Nat.le_of_ble_eq_true rfl) rfl)) rfl rfl hl.1 rfl (lv_room (Nat.le_of_ble_eq_true rfl)) dX5_told_70 ⟨Nat.le_of_ble_eq_true rfl, Nat.le_of_ble_eq_true rfl⟩) hD hS hA (fun r_5 x_5 H locs hq_5 hP hD hS => ?_)
    rw [hq_5.2] at hP hD
    exact W.iret (v := r_5) hx hb hr (fun t ht hW => ⟨⟨r_5, S, rfl, ⟨trivial, rfl⟩, by rw [ht]; exact hP, va_K.moved hW.alike hK, hD⟩, hS.F ht⟩) hS.2.2 dX5_told_73
  · refine lv_tableIn (off := 60) (tgt := 74) hx hb dX5_told_14 (by decide) (by decide) (by decide) (by decide) ?_
    refine lv_aload hx hb dX5_told_74 (lv_at hl 0 rfl) ?_
    refine kx_getsN hx hb htT m_u_X3 hown hK hP ((hR.2 j hj a hja).1.1) (Nat.le_of_ble_eq_true rfl) rfl 6 (by decide) (by decide) rfl hq6 (hTB.use m_fl_X5_188) dX5_told_76 ?_
    refine lv_iload_n hx hb dX5_told_79 rfl (lv_at hl 3 rfl) ?_
    refine kc_l (va_runV (As := [.int p1]) (rest := []) ⟨hx, hb, hml, hown, htT⟩ (c_squaresOf l D cA _ S ty hty t3 hqt3 ht3 p1) (cwV 1 htT (kg_V m_ml_X5_203 m_im_X4_squaresOf m_sl_X4_squaresOf m_in_X4 m_cd_X4_squaresOf) rfl rfl rfl (by decide +kernel) ⟨Nat.le_of_ble_eq_true rfl, Nat.le_of_ble_eq_true rfl⟩) (kp_V hK hP hD hTB (kp_rc hK hP hty (Nat.le_of_ble_eq_true rfl) rfl)) rfl rfl hl.1 rfl (lv_room (Nat.le_of_ble_eq_true rfl)) dX5_told_80 ⟨Nat.le_of_ble_eq_true rfl, Nat.le_of_ble_eq_true rfl⟩) hD hS hA (fun r_6 x_6 H locs hq_6 hP hD hS => ?_)
    rw [hq_6.2] at hP hD
    refine lv_l2i (v := r_6.toInt32) hx hb dX5_told_83 rfl ?_
    exact W.iret (v := r_6.toInt32) hx hb hr (fun t ht hW => ⟨⟨r_6.toInt32, S, rfl, ⟨trivial, rfl⟩, by rw [ht]; exact hP, va_K.moved hW.alike hK, hD⟩, hS.F ht⟩) hS.2.2 dX5_told_84

set_option maxRecDepth 100000 in
set_option maxHeartbeats 4000000 in
theorem c_told_1 (l : Launch) (hst : l.stackTraces = false) (D : va_G) (cA : Nat → ClassId) (sz : Nat) (S : Pool) (x : Nat) (hx5 : isO S x 5) (ar : Nat) (hq0 : gQ S x 0 = some ar) (ak : Nat) (hq1 : gQ S x 1 = some ak) (hak : isO S ak 1) (hR : okR S ar) (j : Nat) (hj : j < 8) (a : Nat) (hja : gP S ar j = some a) (p0 : Int32) (hsw : kSw S ar p0 = some a) (p1 p2 : Int32) (hv : kOut p1 0 (gI S a 2 - 1) = 0) (h1 : kOut p2 0 3 = 1) : vx_Met l yX5_told (Cond.code yX5_told cX5_told 5 (some .int) :: TT) ({ frames := 6, cells := 1, slots := 6, locals := 82 }) (va_Pc [.ref x, .int p0, .int p1, .int p2] (kPreX D cA (PW cA S) sz)) kNo (kXC D cA (PW cA S) "java/lang/IllegalArgumentException" (va_A (PW cA S) sz)) 1 6 (va_A (PW cA S) sz) := by
  refine vx_ofW (cc := cX5_told) (maxL := 5) (ret := (some .int)) (by decide) rfl ?_
  intro p e s m args below meth c s₁ B hml hTab hv
  obtain ⟨rfl, ⟨hsz, hP, hK, hD0, hTB⟩, hTX⟩ := hv
  have hx := B.exec
  have hb := B.bytes
  have hr := B.returns
  have hts := atoms_spec (ws := Cond.code yX5_told cX5_told 5 (some .int) :: TT) B.pre
  have htT : ∀ w ∈ TT, w.before _ s = true := fun w h => hts w (List.mem_cons_of_mem _ h)
  have hown : s.vm.findClass RX5 = some m.cls := findClass_of_methodNamed B.named
  have hlocks := B.notSynchronized
  subst hsz
  have hD := hD0.self (sz := s.heap.size)
  generalize hAe : va_A (PW cA S) s.heap.size = A at hD hTX ⊢
  have hA : ∀ q : Nat, s.heap.size ≤ q → A q := fun q h => by rw [← hAe]; exact Or.inr h
  have hS : va_S A s.heap s.heap [] := va_S.rf
  have hl := lv_entry ([.ref x, .int p0, .int p1, .int p2]) (n := 5) (Nat.le_of_ble_eq_true rfl)
  rw [lg_entry_eq]
  generalize (lg_sl ([.ref x, .int p0, .int p1, .int p2]) ++ List.replicate (5 - (lg_sl ([.ref x, .int p0, .int p1, .int p2])).length) Slot.unset).toArray = ls at hl ⊢
  have hl : lv_has ls 5 [(0, .ref x), (1, .int p0), (2, .int p1), (3, .int p2)] := hl
  obtain ⟨-, ⟨wt, hq4, hwt⟩, -, -, ⟨ty, hq6, hty, ⟨t0, hqt0, ht0⟩, ⟨t1, hqt1, ht1⟩, ⟨t2, hqt2, ht2⟩, ⟨t3, hqt3, ht3⟩⟩, -⟩ := (hR.2 j hj a hja).1
  refine lv_aload_n hx hb dX5_told_0 rfl (lv_at hl 0 rfl) ?_
  refine lv_iload_n hx hb dX5_told_1 rfl (lv_at hl 1 rfl) ?_
  refine kc_q (va_runV (As := [.int p0]) (rest := []) ⟨hx, hb, hml, hown, htT⟩ (c_known l D cA _ S x hx5 ar hq0 hR.1 p0 a hsw) (cwV 1 htT (kg_V m_ml_X5_45 m_im_X5_known m_sl_X5_known m_in_X5 m_cd_X5_known) rfl rfl rfl (by decide +kernel) ⟨Nat.le_of_ble_eq_true rfl, Nat.le_of_ble_eq_true rfl⟩) (kp_V hK hP hD hTB (kp_rc hK hP hx5 (Nat.le_of_ble_eq_true rfl) rfl)) rfl rfl hl.1 rfl (lv_room (Nat.le_of_ble_eq_true rfl)) dX5_told_2 ⟨Nat.le_of_ble_eq_true rfl, Nat.le_of_ble_eq_true rfl⟩) hD hS hA (fun r_1 x_1 H locs hq_1 hP hD hS => ?_)
  rw [hq_1.1]
  rw [hq_1.2] at hP hD
  refine lv_astore (lv' := [(4, .ref a), (0, .ref x), (1, .int p0), (2, .int p1), (3, .int p2)]) hx hb dX5_told_5 hl (by decide) rfl (fun ls hl => ?_)
  refine lv_aload hx hb dX5_told_7 (lv_at hl 0 rfl) ?_
  refine lv_iload_n hx hb dX5_told_9 rfl (lv_at hl 3 rfl) ?_
  refine kc_v (va_runS (As := [.ref a, .int p1]) (rest := []) ⟨hx, hb, hml, hown, htT⟩ (c_checkVariant l D cA _ S a (hR.2 j hj a hja).1.1 p1 hv) (cwS 2 htT (kg_S m_ml_X5_49 m_st_X5_checkVariant m_in_X5 m_cd_X5_checkVariant) rfl rfl rfl (by decide +kernel) ⟨Nat.le_of_ble_eq_true rfl, Nat.le_of_ble_eq_true rfl⟩) (kp_S hK hP hD hTB) rfl rfl hl.1 rfl (lv_room (Nat.le_of_ble_eq_true rfl)) dX5_told_10 ⟨Nat.le_of_ble_eq_true rfl, Nat.le_of_ble_eq_true rfl⟩) hD hS hA (fun x_2 H locs hq_2 hP hD hS => ?_)
  rw [hq_2] at hP hD
  refine lv_iload_n hx hb dX5_told_13 rfl (lv_at hl 4 rfl) ?_
  refine lv_tableOut (tgt := 85) hx hb dX5_told_14 (kOut_lt h1) (by decide) ?_
  exact kt_new (text := "what out of range") hx hb hst hown (Or.inl rfl) (htT _ m_cl_X5_26) (htT _ m_in_IllegalArgumentException) (by decide +kernel) (fun w h => htT w (at_IAE w h)) an_IAE (ag_IAE 26) hTB hTX hK hP hD hS (hl.1.trans hml.symm) dX5_told_85 dX5_told_88 dX5_told_89 dX5_told_91 dX5_told_94 hTab (Nat.le_of_ble_eq_true rfl) (Nat.le_of_ble_eq_true rfl) (Nat.le_of_ble_eq_true rfl) (Nat.le_of_ble_eq_true rfl) hlocks (Nat.le_of_ble_eq_true rfl) (Nat.le_of_ble_eq_true rfl)

set_option maxRecDepth 100000 in
set_option maxHeartbeats 4000000 in
/-- mean -/
theorem c_mean (l : Launch) (D : va_G) (cA : Nat → ClassId) (sz : Nat) (S : Pool) (x : Nat) (hx5 : isO S x 5) (ar : Nat) (hq0 : gQ S x 0 = some ar) (ak : Nat) (hq1 : gQ S x 1 = some ak) (hak : isO S ak 1) (hR : okR S ar) (j : Nat) (hj : j < 8) (a : Nat) (hja : gP S ar j = some a) (p0 : Int32) (hsw : kSw S ar p0 = some a) (p1 : Int32) (hv : kOut p1 0 (gI S a 2 - 1) = 0)  : MetD lw_cs l yX5_mean (Cond.code yX5_mean cX5_mean 4 (some .double) :: TT) ({ frames := 3, cells := 0, slots := 0, locals := 63 }) (va_Pc [.ref x, .int p0, .int p1] (kPre D cA (PW cA S) sz)) (va_Qd (fun (r_ : UInt64) (x_ : Pool) => True ∧ x_ = S) (fun x_ => kB D cA (va_A (PW cA S) sz) (PW cA x_)) (va_A (PW cA S) sz)) 0 0 (va_A (PW cA S) sz) := by
  refine MetD.ofW (cc := cX5_mean) (maxL := 4) (ret := (some .double)) (by decide) rfl ?_
  intro p e s m args below meth c s₁ B hml hv hd0
  obtain ⟨rfl, hsz, hP, hK, hD0, hTB⟩ := hv
  have hx := B.exec
  have hb := B.bytes
  have hr := B.returns
  have hts := atoms_spec (ws := Cond.code yX5_mean cX5_mean 4 (some .double) :: TT) B.pre
  have htT : ∀ w ∈ TT, w.before _ s = true := fun w h => hts w (List.mem_cons_of_mem _ h)
  have hown : s.vm.findClass RX5 = some m.cls := findClass_of_methodNamed B.named
  have hlocks := B.notSynchronized
  subst hsz
  have hD := hD0.self (sz := s.heap.size)
  generalize hAe : va_A (PW cA S) s.heap.size = A at hD ⊢
  have hA : ∀ q : Nat, s.heap.size ≤ q → A q := fun q h => by rw [← hAe]; exact Or.inr h
  have hS : va_S A s.heap s.heap [] := va_S.rf
  have hl := lv_entry ([.ref x, .int p0, .int p1]) (n := 4) (Nat.le_of_ble_eq_true rfl)
  rw [lg_entry_eq]
  generalize (lg_sl ([.ref x, .int p0, .int p1]) ++ List.replicate (4 - (lg_sl ([.ref x, .int p0, .int p1])).length) Slot.unset).toArray = ls at hl ⊢
  have hl : lv_has ls 4 [(0, .ref x), (1, .int p0), (2, .int p1)] := hl
  have htT0 := htT
  have hTB0 := hTB
  have hK0 := hK
  have hown0 := hown
  have htT : ∀ w ∈ TT, w.before _ (s.setDrawn s.drawn) = true := dr_words htT0 s.drawn
  have hTB : TBok (s.setDrawn s.drawn) := TBok.same (u := s) (U := s.setDrawn s.drawn) rfl (Vm.Alike.refl s.vm) hTB0
  have hK : va_K D vwCl (ty6 cA) (s.setDrawn s.drawn) := hK0
  have hown : (s.setDrawn s.drawn).vm.findClass RX5 = some m.cls := hown0
  obtain ⟨-, ⟨wt, hq4, hwt⟩, -, -, ⟨ty, hq6, hty, ⟨t0, hqt0, ht0⟩, ⟨t1, hqt1, ht1⟩, ⟨t2, hqt2, ht2⟩, ⟨t3, hqt3, ht3⟩⟩, -⟩ := (hR.2 j hj a hja).1
  refine lv_aload_n hx hb dX5_mean_0 rfl (lv_at hl 0 rfl) ?_
  refine lv_iload_n hx hb dX5_mean_1 rfl (lv_at hl 1 rfl) ?_
  refine kc_q (va_runV (As := [.int p0]) (rest := []) ⟨hx, hb, hml, hown, htT⟩ (c_known l D cA _ S x hx5 ar hq0 hR.1 p0 a hsw) (cwV 1 htT (kg_V m_ml_X5_45 m_im_X5_known m_sl_X5_known m_in_X5 m_cd_X5_known) rfl rfl rfl (by decide +kernel) ⟨Nat.le_of_ble_eq_true rfl, Nat.le_of_ble_eq_true rfl⟩) (kp_V hK hP hD hTB (kp_rc hK hP hx5 (Nat.le_of_ble_eq_true rfl) rfl)) rfl rfl hl.1 rfl (lv_room (Nat.le_of_ble_eq_true rfl)) dX5_mean_2 ⟨Nat.le_of_ble_eq_true rfl, Nat.le_of_ble_eq_true rfl⟩) hD hS hA (fun r_1 x_1 H locs hq_1 hP hD hS => ?_)
  rw [hq_1.1]
  rw [hq_1.2] at hP hD
  refine lv_astore_n (lv' := [(3, .ref a), (0, .ref x), (1, .int p0), (2, .int p1)]) hx hb dX5_mean_5 rfl hl (by decide) rfl (fun ls hl => ?_)
  refine lv_aload_n hx hb dX5_mean_6 rfl (lv_at hl 0 rfl) ?_
  refine lv_iload_n hx hb dX5_mean_7 rfl (lv_at hl 3 rfl) ?_
  refine kc_v (va_runS (As := [.ref a, .int p1]) (rest := []) ⟨hx, hb, hml, hown, htT⟩ (c_checkVariant l D cA _ S a (hR.2 j hj a hja).1.1 p1 hv) (cwS 2 htT (kg_S m_ml_X5_49 m_st_X5_checkVariant m_in_X5 m_cd_X5_checkVariant) rfl rfl rfl (by decide +kernel) ⟨Nat.le_of_ble_eq_true rfl, Nat.le_of_ble_eq_true rfl⟩) (kp_S hK hP hD hTB) rfl rfl hl.1 rfl (lv_room (Nat.le_of_ble_eq_true rfl)) dX5_mean_8 ⟨Nat.le_of_ble_eq_true rfl, Nat.le_of_ble_eq_true rfl⟩) hD hS hA (fun x_2 H locs hq_2 hP hD hS => ?_)
  rw [hq_2] at hP hD
  refine lv_aload_n hx hb dX5_mean_11 rfl (lv_at hl 0 rfl) ?_
  refine kx_getsN hx hb htT m_u_X3 hown hK hP ((hR.2 j hj a hja).1.1) (Nat.le_of_ble_eq_true rfl) rfl 6 (by decide) (by decide) rfl hq6 (hTB.use m_fl_X5_188) dX5_mean_12 ?_
  refine lv_iload_n hx hb dX5_mean_15 rfl (lv_at hl 3 rfl) ?_
  refine kcD_d hd0 (va_runV_D (As := [.int p1]) (rest := []) ⟨hx, hb, hml, hown, htT⟩ (c_meanOf l D cA _ S ty hty t0 hqt0 ht0 t2 hqt2 ht2 p1) (cwV 1 htT (kg_V m_ml_X5_209 m_im_X4_meanOf m_sl_X4_meanOf m_in_X4 m_cd_X4_meanOf) rfl rfl rfl (by decide +kernel) ⟨Nat.le_of_ble_eq_true rfl, Nat.le_of_ble_eq_true rfl⟩) (kp_V hK hP hD hTB (kp_rc hK hP hty (Nat.le_of_ble_eq_true rfl) rfl)) rfl rfl hl.1 rfl (lv_room (Nat.le_of_ble_eq_true rfl)) dX5_mean_16 ⟨Nat.le_of_ble_eq_true rfl, Nat.le_of_ble_eq_true rfl⟩) hD hS hA (fun r_3 x_3 H locs hq_3 hP hD hS d_3 hd0 => ?_)
  have htT : ∀ w ∈ TT, w.before _ (s.setDrawn d_3) = true := dr_words htT0 d_3
  have hTB : TBok (s.setDrawn d_3) := TBok.same (u := s) (U := s.setDrawn d_3) rfl (Vm.Alike.refl s.vm) hTB0
  have hK : va_K D vwCl (ty6 cA) (s.setDrawn d_3) := hK0
  have hown : (s.setDrawn d_3).vm.findClass RX5 = some m.cls := hown0
  rw [hq_3.2] at hP hD
  refine W.endD hd0 ?_
  exact W.dret (v := r_3) hx hb hr (fun t ht hW => ⟨⟨r_3, S, rfl, ⟨trivial, rfl⟩, by rw [ht]; exact hP, va_K.moved hW.alike hK, hD⟩, hS.F ht⟩) hS.2.2 dX5_mean_19

set_option maxRecDepth 100000 in
set_option maxHeartbeats 4000000 in
/-- lift -/
theorem c_lift (l : Launch) (D : va_G) (cA : Nat → ClassId) (sz : Nat) (S : Pool) (x : Nat) (hx5 : isO S x 5) (ar : Nat) (hq0 : gQ S x 0 = some ar) (ak : Nat) (hq1 : gQ S x 1 = some ak) (hak : isO S ak 1) (hR : okR S ar) (j : Nat) (hj : j < 8) (a : Nat) (hja : gP S ar j = some a) (p0 : Int32) (hsw : kSw S ar p0 = some a) (p1 : Int32) (hv : kOut p1 0 (gI S a 2 - 1) = 0)  : MetD lw_cs l yX5_lift (Cond.code yX5_lift cX5_lift 4 (some .double) :: TT) ({ frames := 4, cells := 0, slots := 0, locals := 84 }) (va_Pc [.ref x, .int p0, .int p1] (kPre D cA (PW cA S) sz)) (va_Qd (fun (r_ : UInt64) (x_ : Pool) => True ∧ x_ = S) (fun x_ => kB D cA (va_A (PW cA S) sz) (PW cA x_)) (va_A (PW cA S) sz)) 0 0 (va_A (PW cA S) sz) := by
  refine MetD.ofW (cc := cX5_lift) (maxL := 4) (ret := (some .double)) (by decide) rfl ?_
  intro p e s m args below meth c s₁ B hml hv hd0
  obtain ⟨rfl, hsz, hP, hK, hD0, hTB⟩ := hv
  have hx := B.exec
  have hb := B.bytes
  have hr := B.returns
  have hts := atoms_spec (ws := Cond.code yX5_lift cX5_lift 4 (some .double) :: TT) B.pre
  have htT : ∀ w ∈ TT, w.before _ s = true := fun w h => hts w (List.mem_cons_of_mem _ h)
  have hown : s.vm.findClass RX5 = some m.cls := findClass_of_methodNamed B.named
  have hlocks := B.notSynchronized
  subst hsz
  have hD := hD0.self (sz := s.heap.size)
  generalize hAe : va_A (PW cA S) s.heap.size = A at hD ⊢
  have hA : ∀ q : Nat, s.heap.size ≤ q → A q := fun q h => by rw [← hAe]; exact Or.inr h
  have hS : va_S A s.heap s.heap [] := va_S.rf
  have hl := lv_entry ([.ref x, .int p0, .int p1]) (n := 4) (Nat.le_of_ble_eq_true rfl)
  rw [lg_entry_eq]
  generalize (lg_sl ([.ref x, .int p0, .int p1]) ++ List.replicate (4 - (lg_sl ([.ref x, .int p0, .int p1])).length) Slot.unset).toArray = ls at hl ⊢
  have hl : lv_has ls 4 [(0, .ref x), (1, .int p0), (2, .int p1)] := hl
  have htT0 := htT
  have hTB0 := hTB
  have hK0 := hK
  have hown0 := hown
  have htT : ∀ w ∈ TT, w.before _ (s.setDrawn s.drawn) = true := dr_words htT0 s.drawn
  have hTB : TBok (s.setDrawn s.drawn) := TBok.same (u := s) (U := s.setDrawn s.drawn) rfl (Vm.Alike.refl s.vm) hTB0
  have hK : va_K D vwCl (ty6 cA) (s.setDrawn s.drawn) := hK0
  have hown : (s.setDrawn s.drawn).vm.findClass RX5 = some m.cls := hown0
  obtain ⟨-, ⟨wt, hq4, hwt⟩, -, -, ⟨ty, hq6, hty, ⟨t0, hqt0, ht0⟩, ⟨t1, hqt1, ht1⟩, ⟨t2, hqt2, ht2⟩, ⟨t3, hqt3, ht3⟩⟩, -⟩ := (hR.2 j hj a hja).1
  refine lv_aload_n hx hb dX5_lift_0 rfl (lv_at hl 0 rfl) ?_
  refine lv_iload_n hx hb dX5_lift_1 rfl (lv_at hl 1 rfl) ?_
  refine kc_q (va_runV (As := [.int p0]) (rest := []) ⟨hx, hb, hml, hown, htT⟩ (c_known l D cA _ S x hx5 ar hq0 hR.1 p0 a hsw) (cwV 1 htT (kg_V m_ml_X5_45 m_im_X5_known m_sl_X5_known m_in_X5 m_cd_X5_known) rfl rfl rfl (by decide +kernel) ⟨Nat.le_of_ble_eq_true rfl, Nat.le_of_ble_eq_true rfl⟩) (kp_V hK hP hD hTB (kp_rc hK hP hx5 (Nat.le_of_ble_eq_true rfl) rfl)) rfl rfl hl.1 rfl (lv_room (Nat.le_of_ble_eq_true rfl)) dX5_lift_2 ⟨Nat.le_of_ble_eq_true rfl, Nat.le_of_ble_eq_true rfl⟩) hD hS hA (fun r_1 x_1 H locs hq_1 hP hD hS => ?_)
  rw [hq_1.1]
  rw [hq_1.2] at hP hD
  refine lv_astore_n (lv' := [(3, .ref a), (0, .ref x), (1, .int p0), (2, .int p1)]) hx hb dX5_lift_5 rfl hl (by decide) rfl (fun ls hl => ?_)
  refine lv_aload_n hx hb dX5_lift_6 rfl (lv_at hl 0 rfl) ?_
  refine lv_iload_n hx hb dX5_lift_7 rfl (lv_at hl 3 rfl) ?_
  refine kc_v (va_runS (As := [.ref a, .int p1]) (rest := []) ⟨hx, hb, hml, hown, htT⟩ (c_checkVariant l D cA _ S a (hR.2 j hj a hja).1.1 p1 hv) (cwS 2 htT (kg_S m_ml_X5_49 m_st_X5_checkVariant m_in_X5 m_cd_X5_checkVariant) rfl rfl rfl (by decide +kernel) ⟨Nat.le_of_ble_eq_true rfl, Nat.le_of_ble_eq_true rfl⟩) (kp_S hK hP hD hTB) rfl rfl hl.1 rfl (lv_room (Nat.le_of_ble_eq_true rfl)) dX5_lift_8 ⟨Nat.le_of_ble_eq_true rfl, Nat.le_of_ble_eq_true rfl⟩) hD hS hA (fun x_2 H locs hq_2 hP hD hS => ?_)
  rw [hq_2] at hP hD
  refine lv_aload_n hx hb dX5_lift_11 rfl (lv_at hl 0 rfl) ?_
  refine kx_getsN hx hb htT m_u_X3 hown hK hP ((hR.2 j hj a hja).1.1) (Nat.le_of_ble_eq_true rfl) rfl 6 (by decide) (by decide) rfl hq6 (hTB.use m_fl_X5_188) dX5_lift_12 ?_
  refine lv_iload_n hx hb dX5_lift_15 rfl (lv_at hl 3 rfl) ?_
  refine kcD_d hd0 (va_runV_D (As := [.int p1]) (rest := []) ⟨hx, hb, hml, hown, htT⟩ (c_liftOf l D cA _ S ty hty t0 hqt0 ht0 t2 hqt2 ht2 p1) (cwV 1 htT (kg_V m_ml_X5_213 m_im_X4_liftOf m_sl_X4_liftOf m_in_X4 m_cd_X4_liftOf) rfl rfl rfl (by decide +kernel) ⟨Nat.le_of_ble_eq_true rfl, Nat.le_of_ble_eq_true rfl⟩) (kp_V hK hP hD hTB (kp_rc hK hP hty (Nat.le_of_ble_eq_true rfl) rfl)) rfl rfl hl.1 rfl (lv_room (Nat.le_of_ble_eq_true rfl)) dX5_lift_16 ⟨Nat.le_of_ble_eq_true rfl, Nat.le_of_ble_eq_true rfl⟩) hD hS hA (fun r_3 x_3 H locs hq_3 hP hD hS d_3 hd0 => ?_)
  have htT : ∀ w ∈ TT, w.before _ (s.setDrawn d_3) = true := dr_words htT0 d_3
  have hTB : TBok (s.setDrawn d_3) := TBok.same (u := s) (U := s.setDrawn d_3) rfl (Vm.Alike.refl s.vm) hTB0
  have hK : va_K D vwCl (ty6 cA) (s.setDrawn d_3) := hK0
  have hown : (s.setDrawn d_3).vm.findClass RX5 = some m.cls := hown0
  rw [hq_3.2] at hP hD
  refine W.endD hd0 ?_
  exact W.dret (v := r_3) hx hb hr (fun t ht hW => ⟨⟨r_3, S, rfl, ⟨trivial, rfl⟩, by rw [ht]; exact hP, va_K.moved hW.alike hK, hD⟩, hS.F ht⟩) hS.2.2 dX5_lift_19

set_option maxRecDepth 100000 in
set_option maxHeartbeats 4000000 in
/-- sure -/
theorem c_sure (l : Launch) (D : va_G) (cA : Nat → ClassId) (sz : Nat) (S : Pool) (x : Nat) (hx5 : isO S x 5) (ar : Nat) (hq0 : gQ S x 0 = some ar) (ak : Nat) (hq1 : gQ S x 1 = some ak) (hak : isO S ak 1) (hR : okR S ar) (j : Nat) (hj : j < 8) (a : Nat) (hja : gP S ar j = some a) (p0 : Int32) (hsw : kSw S ar p0 = some a) (p1 : Int32) (hv : kOut p1 0 (gI S a 2 - 1) = 0)  : MetD lw_cs l yX5_sure (Cond.code yX5_sure cX5_sure 4 (some .double) :: TT) ({ frames := 5, cells := 0, slots := 0, locals := 114 }) (va_Pc [.ref x, .int p0, .int p1] (kPre D cA (PW cA S) sz)) (va_Qd (fun (r_ : UInt64) (x_ : Pool) => True ∧ x_ = S) (fun x_ => kB D cA (va_A (PW cA S) sz) (PW cA x_)) (va_A (PW cA S) sz)) 0 0 (va_A (PW cA S) sz) := by
  refine MetD.ofW (cc := cX5_sure) (maxL := 4) (ret := (some .double)) (by decide) rfl ?_
  intro p e s m args below meth c s₁ B hml hv hd0
  obtain ⟨rfl, hsz, hP, hK, hD0, hTB⟩ := hv
  have hx := B.exec
  have hb := B.bytes
  have hr := B.returns
  have hts := atoms_spec (ws := Cond.code yX5_sure cX5_sure 4 (some .double) :: TT) B.pre
  have htT : ∀ w ∈ TT, w.before _ s = true := fun w h => hts w (List.mem_cons_of_mem _ h)
  have hown : s.vm.findClass RX5 = some m.cls := findClass_of_methodNamed B.named
  have hlocks := B.notSynchronized
  subst hsz
  have hD := hD0.self (sz := s.heap.size)
  generalize hAe : va_A (PW cA S) s.heap.size = A at hD ⊢
  have hA : ∀ q : Nat, s.heap.size ≤ q → A q := fun q h => by rw [← hAe]; exact Or.inr h
  have hS : va_S A s.heap s.heap [] := va_S.rf
  have hl := lv_entry ([.ref x, .int p0, .int p1]) (n := 4) (Nat.le_of_ble_eq_true rfl)
  rw [lg_entry_eq]
  generalize (lg_sl ([.ref x, .int p0, .int p1]) ++ List.replicate (4 - (lg_sl ([.ref x, .int p0, .int p1])).length) Slot.unset).toArray = ls at hl ⊢
  have hl : lv_has ls 4 [(0, .ref x), (1, .int p0), (2, .int p1)] := hl
  have htT0 := htT
  have hTB0 := hTB
  have hK0 := hK
  have hown0 := hown
  have htT : ∀ w ∈ TT, w.before _ (s.setDrawn s.drawn) = true := dr_words htT0 s.drawn
  have hTB : TBok (s.setDrawn s.drawn) := TBok.same (u := s) (U := s.setDrawn s.drawn) rfl (Vm.Alike.refl s.vm) hTB0
  have hK : va_K D vwCl (ty6 cA) (s.setDrawn s.drawn) := hK0
  have hown : (s.setDrawn s.drawn).vm.findClass RX5 = some m.cls := hown0
  obtain ⟨-, ⟨wt, hq4, hwt⟩, -, -, ⟨ty, hq6, hty, ⟨t0, hqt0, ht0⟩, ⟨t1, hqt1, ht1⟩, ⟨t2, hqt2, ht2⟩, ⟨t3, hqt3, ht3⟩⟩, -⟩ := (hR.2 j hj a hja).1
  refine lv_aload_n hx hb dX5_sure_0 rfl (lv_at hl 0 rfl) ?_
  refine lv_iload_n hx hb dX5_sure_1 rfl (lv_at hl 1 rfl) ?_
  refine kc_q (va_runV (As := [.int p0]) (rest := []) ⟨hx, hb, hml, hown, htT⟩ (c_known l D cA _ S x hx5 ar hq0 hR.1 p0 a hsw) (cwV 1 htT (kg_V m_ml_X5_45 m_im_X5_known m_sl_X5_known m_in_X5 m_cd_X5_known) rfl rfl rfl (by decide +kernel) ⟨Nat.le_of_ble_eq_true rfl, Nat.le_of_ble_eq_true rfl⟩) (kp_V hK hP hD hTB (kp_rc hK hP hx5 (Nat.le_of_ble_eq_true rfl) rfl)) rfl rfl hl.1 rfl (lv_room (Nat.le_of_ble_eq_true rfl)) dX5_sure_2 ⟨Nat.le_of_ble_eq_true rfl, Nat.le_of_ble_eq_true rfl⟩) hD hS hA (fun r_1 x_1 H locs hq_1 hP hD hS => ?_)
  rw [hq_1.1]
  rw [hq_1.2] at hP hD
  refine lv_astore_n (lv' := [(3, .ref a), (0, .ref x), (1, .int p0), (2, .int p1)]) hx hb dX5_sure_5 rfl hl (by decide) rfl (fun ls hl => ?_)
  refine lv_aload_n hx hb dX5_sure_6 rfl (lv_at hl 0 rfl) ?_
  refine lv_iload_n hx hb dX5_sure_7 rfl (lv_at hl 3 rfl) ?_
  refine kc_v (va_runS (As := [.ref a, .int p1]) (rest := []) ⟨hx, hb, hml, hown, htT⟩ (c_checkVariant l D cA _ S a (hR.2 j hj a hja).1.1 p1 hv) (cwS 2 htT (kg_S m_ml_X5_49 m_st_X5_checkVariant m_in_X5 m_cd_X5_checkVariant) rfl rfl rfl (by decide +kernel) ⟨Nat.le_of_ble_eq_true rfl, Nat.le_of_ble_eq_true rfl⟩) (kp_S hK hP hD hTB) rfl rfl hl.1 rfl (lv_room (Nat.le_of_ble_eq_true rfl)) dX5_sure_8 ⟨Nat.le_of_ble_eq_true rfl, Nat.le_of_ble_eq_true rfl⟩) hD hS hA (fun x_2 H locs hq_2 hP hD hS => ?_)
  rw [hq_2] at hP hD
  refine lv_aload_n hx hb dX5_sure_11 rfl (lv_at hl 0 rfl) ?_
  refine kx_getsN hx hb htT m_u_X3 hown hK hP ((hR.2 j hj a hja).1.1) (Nat.le_of_ble_eq_true rfl) rfl 6 (by decide) (by decide) rfl hq6 (hTB.use m_fl_X5_188) dX5_sure_12 ?_
  refine lv_iload_n hx hb dX5_sure_15 rfl (lv_at hl 3 rfl) ?_
  refine kcD_d hd0 (va_runV_D (As := [.int p1]) (rest := []) ⟨hx, hb, hml, hown, htT⟩ (c_surenessOf l D cA _ S ty hty t0 hqt0 ht0 t2 hqt2 ht2 t3 hqt3 ht3 p1) (cwV 1 htT (kg_V m_ml_X5_216 m_im_X4_surenessOf m_sl_X4_surenessOf m_in_X4 m_cd_X4_surenessOf) rfl rfl rfl (by decide +kernel) ⟨Nat.le_of_ble_eq_true rfl, Nat.le_of_ble_eq_true rfl⟩) (kp_V hK hP hD hTB (kp_rc hK hP hty (Nat.le_of_ble_eq_true rfl) rfl)) rfl rfl hl.1 rfl (lv_room (Nat.le_of_ble_eq_true rfl)) dX5_sure_16 ⟨Nat.le_of_ble_eq_true rfl, Nat.le_of_ble_eq_true rfl⟩) hD hS hA (fun r_3 x_3 H locs hq_3 hP hD hS d_3 hd0 => ?_)
  have htT : ∀ w ∈ TT, w.before _ (s.setDrawn d_3) = true := dr_words htT0 d_3
  have hTB : TBok (s.setDrawn d_3) := TBok.same (u := s) (U := s.setDrawn d_3) rfl (Vm.Alike.refl s.vm) hTB0
  have hK : va_K D vwCl (ty6 cA) (s.setDrawn d_3) := hK0
  have hown : (s.setDrawn d_3).vm.findClass RX5 = some m.cls := hown0
  rw [hq_3.2] at hP hD
  refine W.endD hd0 ?_
  exact W.dret (v := r_3) hx hb hr (fun t ht hW => ⟨⟨r_3, S, rfl, ⟨trivial, rfl⟩, by rw [ht]; exact hP, va_K.moved hW.alike hK, hD⟩, hS.F ht⟩) hS.2.2 dX5_sure_19

set_option maxRecDepth 100000 in
set_option maxHeartbeats 4000000 in
/-- bad -/
theorem c_bad (l : Launch) (D : va_G) (cA : Nat → ClassId) (sz : Nat) (S : Pool) (x : Nat) (hx5 : isO S x 5) (ar : Nat) (hq0 : gQ S x 0 = some ar) (ak : Nat) (hq1 : gQ S x 1 = some ak) (hak : isO S ak 1) (hR : okR S ar) (j : Nat) (hj : j < 8) (a : Nat) (hja : gP S ar j = some a) (p0 : Int32) (hsw : kSw S ar p0 = some a)  : Met l yX5_bad (Cond.code yX5_bad cX5_bad 2 (some .int) :: TT) ({ frames := 3, cells := 0, slots := 0, locals := 70 }) (va_Pc [.ref x, .int p0] (kPre D cA (PW cA S) sz)) (va_Qi (fun (r_ : Int32) (x_ : Pool) => True ∧ x_ = S) (fun x_ => kB D cA (va_A (PW cA S) sz) (PW cA x_)) (va_A (PW cA S) sz)) 0 0 (va_A (PW cA S) sz) := by
  refine Met.ofW (cc := cX5_bad) (maxL := 2) (ret := (some .int)) (by decide) rfl ?_
  intro p e s m args below meth c s₁ B hml hv
  obtain ⟨rfl, hsz, hP, hK, hD0, hTB⟩ := hv
  have hx := B.exec
  have hb := B.bytes
  have hr := B.returns
  have hts := atoms_spec (ws := Cond.code yX5_bad cX5_bad 2 (some .int) :: TT) B.pre
  have htT : ∀ w ∈ TT, w.before _ s = true := fun w h => hts w (List.mem_cons_of_mem _ h)
  have hown : s.vm.findClass RX5 = some m.cls := findClass_of_methodNamed B.named
  have hlocks := B.notSynchronized
  subst hsz
  have hD := hD0.self (sz := s.heap.size)
  generalize hAe : va_A (PW cA S) s.heap.size = A at hD ⊢
  have hA : ∀ q : Nat, s.heap.size ≤ q → A q := fun q h => by rw [← hAe]; exact Or.inr h
  have hS : va_S A s.heap s.heap [] := va_S.rf
  have hl := lv_entry ([.ref x, .int p0]) (n := 2) (Nat.le_of_ble_eq_true rfl)
  rw [lg_entry_eq]
  generalize (lg_sl ([.ref x, .int p0]) ++ List.replicate (2 - (lg_sl ([.ref x, .int p0])).length) Slot.unset).toArray = ls at hl ⊢
  have hl : lv_has ls 2 [(0, .ref x), (1, .int p0)] := hl
  obtain ⟨-, ⟨wt, hq4, hwt⟩, -, -, ⟨ty, hq6, hty, ⟨t0, hqt0, ht0⟩, ⟨t1, hqt1, ht1⟩, ⟨t2, hqt2, ht2⟩, ⟨t3, hqt3, ht3⟩⟩, -⟩ := (hR.2 j hj a hja).1
  refine lv_aload_n hx hb dX5_bad_0 rfl (lv_at hl 0 rfl) ?_
  refine lv_iload_n hx hb dX5_bad_1 rfl (lv_at hl 1 rfl) ?_
  refine kc_q (va_runV (As := [.int p0]) (rest := []) ⟨hx, hb, hml, hown, htT⟩ (c_known l D cA _ S x hx5 ar hq0 hR.1 p0 a hsw) (cwV 1 htT (kg_V m_ml_X5_45 m_im_X5_known m_sl_X5_known m_in_X5 m_cd_X5_known) rfl rfl rfl (by decide +kernel) ⟨Nat.le_of_ble_eq_true rfl, Nat.le_of_ble_eq_true rfl⟩) (kp_V hK hP hD hTB (kp_rc hK hP hx5 (Nat.le_of_ble_eq_true rfl) rfl)) rfl rfl hl.1 rfl (lv_room (Nat.le_of_ble_eq_true rfl)) dX5_bad_2 ⟨Nat.le_of_ble_eq_true rfl, Nat.le_of_ble_eq_true rfl⟩) hD hS hA (fun r_1 x_1 H locs hq_1 hP hD hS => ?_)
  rw [hq_1.1]
  rw [hq_1.2] at hP hD
  refine kc_i (va_runV (As := []) (rest := []) ⟨hx, hb, hml, hown, htT⟩ (c_badness l D cA _ S a (hR.2 j hj a hja).1.1 wt hq4 hwt ty hq6 hty t0 hqt0 ht0) (cwV 0 htT (kg_V m_ml_X5_219 m_im_X3_badness m_sl_X3_badness m_in_X3 m_cd_X3_badness) rfl rfl rfl (by decide +kernel) ⟨Nat.le_of_ble_eq_true rfl, Nat.le_of_ble_eq_true rfl⟩) (kp_V hK hP hD hTB (kp_rc hK hP ((hR.2 j hj a hja).1.1) (Nat.le_of_ble_eq_true rfl) rfl)) rfl rfl hl.1 rfl (lv_room (Nat.le_of_ble_eq_true rfl)) dX5_bad_5 ⟨Nat.le_of_ble_eq_true rfl, Nat.le_of_ble_eq_true rfl⟩) hD hS hA (fun r_2 x_2 H locs hq_2 hP hD hS => ?_)
  rw [hq_2.2] at hP hD
  exact W.iret (v := r_2) hx hb hr (fun t ht hW => ⟨⟨r_2, S, rfl, ⟨trivial, rfl⟩, by rw [ht]; exact hP, va_K.moved hW.alike hK, hD⟩, hS.F ht⟩) hS.2.2 dX5_bad_8

theorem cTru_01 (S : Pool) (wt t0 : Nat) (bd : Int32) : ∀ c k acc, cTru S wt t0 bd c k acc = 0 ∨ cTru S wt t0 bd c k acc = 1 := by
  intro c
  induction c with
  | zero =>
    intro k acc
    unfold cTru
    split
    · exact Or.inr rfl
    · split
      · exact Or.inl rfl
      · exact Or.inr rfl
  | succ c ih =>
    intro k acc
    unfold cTru
    split
    · exact ih _ _
    · split
      · exact Or.inl rfl
      · exact ih _ _
set_option maxRecDepth 100000 in
set_option maxHeartbeats 4000000 in
/-- isTrusted -/
theorem c_isTrusted (l : Launch) (D : va_G) (cA : Nat → ClassId) (sz : Nat) (S : Pool) (x : Nat) (hx5 : isO S x 5) (ar : Nat) (hq0 : gQ S x 0 = some ar) (ak : Nat) (hq1 : gQ S x 1 = some ak) (hak : isO S ak 1) (hR : okR S ar) (j : Nat) (hj : j < 8) (a : Nat) (hja : gP S ar j = some a) (p0 : Int32) (hsw : kSw S ar p0 = some a)  : Met l yX5_isTrusted (Cond.code yX5_isTrusted cX5_isTrusted 2 (some .boolean) :: TT) ({ frames := 4, cells := 0, slots := 0, locals := 92 }) (va_Pc [.ref x, .int p0] (kPre D cA (PW cA S) sz)) (va_Qi (fun (r_ : Int32) (x_ : Pool) => (r_ = 0 ∨ r_ = 1) ∧ x_ = S) (fun x_ => kB D cA (va_A (PW cA S) sz) (PW cA x_)) (va_A (PW cA S) sz)) 0 0 (va_A (PW cA S) sz) := by
  refine Met.ofW (cc := cX5_isTrusted) (maxL := 2) (ret := (some .boolean)) (by decide) rfl ?_
  intro p e s m args below meth c s₁ B hml hv
  obtain ⟨rfl, hsz, hP, hK, hD0, hTB⟩ := hv
  have hx := B.exec
  have hb := B.bytes
  have hr := B.returns
  have hts := atoms_spec (ws := Cond.code yX5_isTrusted cX5_isTrusted 2 (some .boolean) :: TT) B.pre
  have htT : ∀ w ∈ TT, w.before _ s = true := fun w h => hts w (List.mem_cons_of_mem _ h)
  have hown : s.vm.findClass RX5 = some m.cls := findClass_of_methodNamed B.named
  have hlocks := B.notSynchronized
  subst hsz
  have hD := hD0.self (sz := s.heap.size)
  generalize hAe : va_A (PW cA S) s.heap.size = A at hD ⊢
  have hA : ∀ q : Nat, s.heap.size ≤ q → A q := fun q h => by rw [← hAe]; exact Or.inr h
  have hS : va_S A s.heap s.heap [] := va_S.rf
  have hl := lv_entry ([.ref x, .int p0]) (n := 2) (Nat.le_of_ble_eq_true rfl)
  rw [lg_entry_eq]
  generalize (lg_sl ([.ref x, .int p0]) ++ List.replicate (2 - (lg_sl ([.ref x, .int p0])).length) Slot.unset).toArray = ls at hl ⊢
  have hl : lv_has ls 2 [(0, .ref x), (1, .int p0)] := hl
  obtain ⟨-, ⟨wt, hq4, hwt⟩, -, -, ⟨ty, hq6, hty, ⟨t0, hqt0, ht0⟩, ⟨t1, hqt1, ht1⟩, ⟨t2, hqt2, ht2⟩, ⟨t3, hqt3, ht3⟩⟩, -⟩ := (hR.2 j hj a hja).1
  refine lv_aload_n hx hb dX5_isTrusted_0 rfl (lv_at hl 0 rfl) ?_
  refine lv_iload_n hx hb dX5_isTrusted_1 rfl (lv_at hl 1 rfl) ?_
  refine kc_q (va_runV (As := [.int p0]) (rest := []) ⟨hx, hb, hml, hown, htT⟩ (c_known l D cA _ S x hx5 ar hq0 hR.1 p0 a hsw) (cwV 1 htT (kg_V m_ml_X5_45 m_im_X5_known m_sl_X5_known m_in_X5 m_cd_X5_known) rfl rfl rfl (by decide +kernel) ⟨Nat.le_of_ble_eq_true rfl, Nat.le_of_ble_eq_true rfl⟩) (kp_V hK hP hD hTB (kp_rc hK hP hx5 (Nat.le_of_ble_eq_true rfl) rfl)) rfl rfl hl.1 rfl (lv_room (Nat.le_of_ble_eq_true rfl)) dX5_isTrusted_2 ⟨Nat.le_of_ble_eq_true rfl, Nat.le_of_ble_eq_true rfl⟩) hD hS hA (fun r_1 x_1 H locs hq_1 hP hD hS => ?_)
  rw [hq_1.1]
  rw [hq_1.2] at hP hD
  refine kc_i (va_runV (As := []) (rest := []) ⟨hx, hb, hml, hown, htT⟩ (c_canBeTrusted l D cA _ S a (hR.2 j hj a hja).1.1 wt hq4 hwt ty hq6 hty t0 hqt0 ht0) (cwV 0 htT (kg_V m_ml_X5_223 m_im_X3_canBeTrusted m_sl_X3_canBeTrusted m_in_X3 m_cd_X3_canBeTrusted) rfl rfl rfl (by decide +kernel) ⟨Nat.le_of_ble_eq_true rfl, Nat.le_of_ble_eq_true rfl⟩) (kp_V hK hP hD hTB (kp_rc hK hP ((hR.2 j hj a hja).1.1) (Nat.le_of_ble_eq_true rfl) rfl)) rfl rfl hl.1 rfl (lv_room (Nat.le_of_ble_eq_true rfl)) dX5_isTrusted_5 ⟨Nat.le_of_ble_eq_true rfl, Nat.le_of_ble_eq_true rfl⟩) hD hS hA (fun r_2 x_2 H locs hq_2 hP hD hS => ?_)
  rw [hq_2.2] at hP hD
  have hzr : r_2 = 0 ∨ r_2 = 1 := by rw [hq_2.1]; exact cTru_01 _ _ _ _ _ _ _
  exact W.zret (v := r_2) hx hb hr ((kz_b hzr).1) (fun t ht hW => ⟨⟨r_2, S, rfl, ⟨hzr, rfl⟩, by rw [ht]; exact hP, va_K.moved hW.alike hK, hD⟩, hS.F ht⟩) hS.2.2 dX5_isTrusted_8

set_option maxRecDepth 100000 in
set_option maxHeartbeats 4000000 in
/-- best -/
theorem c_best (l : Launch) (D : va_G) (cA : Nat → ClassId) (sz : Nat) (S : Pool) (x : Nat) (hx5 : isO S x 5) (ar : Nat) (hq0 : gQ S x 0 = some ar) (ak : Nat) (hq1 : gQ S x 1 = some ak) (hak : isO S ak 1) (hR : okR S ar) (j : Nat) (hj : j < 8) (a : Nat) (hja : gP S ar j = some a) (p0 : Int32) (hsw : kSw S ar p0 = some a)  : MetD lw_cs l yX5_best (Cond.code yX5_best cX5_best 2 (some .int) :: TT) ({ frames := 4, cells := 0, slots := 0, locals := 85 }) (va_Pc [.ref x, .int p0] (kPre D cA (PW cA S) sz)) (va_Qi (fun (r_ : Int32) (x_ : Pool) => True ∧ x_ = S) (fun x_ => kB D cA (va_A (PW cA S) sz) (PW cA x_)) (va_A (PW cA S) sz)) 0 0 (va_A (PW cA S) sz) := by
  refine MetD.ofW (cc := cX5_best) (maxL := 2) (ret := (some .int)) (by decide) rfl ?_
  intro p e s m args below meth c s₁ B hml hv hd0
  obtain ⟨rfl, hsz, hP, hK, hD0, hTB⟩ := hv
  have hx := B.exec
  have hb := B.bytes
  have hr := B.returns
  have hts := atoms_spec (ws := Cond.code yX5_best cX5_best 2 (some .int) :: TT) B.pre
  have htT : ∀ w ∈ TT, w.before _ s = true := fun w h => hts w (List.mem_cons_of_mem _ h)
  have hown : s.vm.findClass RX5 = some m.cls := findClass_of_methodNamed B.named
  have hlocks := B.notSynchronized
  subst hsz
  have hD := hD0.self (sz := s.heap.size)
  generalize hAe : va_A (PW cA S) s.heap.size = A at hD ⊢
  have hA : ∀ q : Nat, s.heap.size ≤ q → A q := fun q h => by rw [← hAe]; exact Or.inr h
  have hS : va_S A s.heap s.heap [] := va_S.rf
  have hl := lv_entry ([.ref x, .int p0]) (n := 2) (Nat.le_of_ble_eq_true rfl)
  rw [lg_entry_eq]
  generalize (lg_sl ([.ref x, .int p0]) ++ List.replicate (2 - (lg_sl ([.ref x, .int p0])).length) Slot.unset).toArray = ls at hl ⊢
  have hl : lv_has ls 2 [(0, .ref x), (1, .int p0)] := hl
  have htT0 := htT
  have hTB0 := hTB
  have hK0 := hK
  have hown0 := hown
  have htT : ∀ w ∈ TT, w.before _ (s.setDrawn s.drawn) = true := dr_words htT0 s.drawn
  have hTB : TBok (s.setDrawn s.drawn) := TBok.same (u := s) (U := s.setDrawn s.drawn) rfl (Vm.Alike.refl s.vm) hTB0
  have hK : va_K D vwCl (ty6 cA) (s.setDrawn s.drawn) := hK0
  have hown : (s.setDrawn s.drawn).vm.findClass RX5 = some m.cls := hown0
  obtain ⟨-, ⟨wt, hq4, hwt⟩, -, -, ⟨ty, hq6, hty, ⟨t0, hqt0, ht0⟩, ⟨t1, hqt1, ht1⟩, ⟨t2, hqt2, ht2⟩, ⟨t3, hqt3, ht3⟩⟩, -⟩ := (hR.2 j hj a hja).1
  refine lv_aload_n hx hb dX5_best_0 rfl (lv_at hl 0 rfl) ?_
  refine lv_iload_n hx hb dX5_best_1 rfl (lv_at hl 1 rfl) ?_
  refine kc_q (va_runV (As := [.int p0]) (rest := []) ⟨hx, hb, hml, hown, htT⟩ (c_known l D cA _ S x hx5 ar hq0 hR.1 p0 a hsw) (cwV 1 htT (kg_V m_ml_X5_45 m_im_X5_known m_sl_X5_known m_in_X5 m_cd_X5_known) rfl rfl rfl (by decide +kernel) ⟨Nat.le_of_ble_eq_true rfl, Nat.le_of_ble_eq_true rfl⟩) (kp_V hK hP hD hTB (kp_rc hK hP hx5 (Nat.le_of_ble_eq_true rfl) rfl)) rfl rfl hl.1 rfl (lv_room (Nat.le_of_ble_eq_true rfl)) dX5_best_2 ⟨Nat.le_of_ble_eq_true rfl, Nat.le_of_ble_eq_true rfl⟩) hD hS hA (fun r_1 x_1 H locs hq_1 hP hD hS => ?_)
  rw [hq_1.1]
  rw [hq_1.2] at hP hD
  refine kx_getsN hx hb htT m_u_X3 hown hK hP ((hR.2 j hj a hja).1.1) (Nat.le_of_ble_eq_true rfl) rfl 6 (by decide) (by decide) rfl hq6 (hTB.use m_fl_X5_188) dX5_best_5 ?_
  refine kcD_i hd0 (va_runV_D (As := []) (rest := []) ⟨hx, hb, hml, hown, htT⟩ (c_bestVariant l D cA _ S ty hty t0 hqt0 ht0 t2 hqt2 ht2 ) (cwV 0 htT (kg_V m_ml_X5_227 m_im_X4_bestVariant m_sl_X4_bestVariant m_in_X4 m_cd_X4_bestVariant) rfl rfl rfl (by decide +kernel) ⟨Nat.le_of_ble_eq_true rfl, Nat.le_of_ble_eq_true rfl⟩) (kp_V hK hP hD hTB (kp_rc hK hP hty (Nat.le_of_ble_eq_true rfl) rfl)) rfl rfl hl.1 rfl (lv_room (Nat.le_of_ble_eq_true rfl)) dX5_best_8 ⟨Nat.le_of_ble_eq_true rfl, Nat.le_of_ble_eq_true rfl⟩) hD hS hA (fun r_2 x_2 H locs hq_2 hP hD hS d_2 hd0 => ?_)
  have htT : ∀ w ∈ TT, w.before _ (s.setDrawn d_2) = true := dr_words htT0 d_2
  have hTB : TBok (s.setDrawn d_2) := TBok.same (u := s) (U := s.setDrawn d_2) rfl (Vm.Alike.refl s.vm) hTB0
  have hK : va_K D vwCl (ty6 cA) (s.setDrawn d_2) := hK0
  have hown : (s.setDrawn d_2).vm.findClass RX5 = some m.cls := hown0
  rw [hq_2.2] at hP hD
  refine W.endD hd0 ?_
  exact W.iret (v := r_2) hx hb hr (fun t ht hW => ⟨⟨r_2, S, rfl, ⟨trivial, rfl⟩, by rw [ht]; exact hP, va_K.moved hW.alike hK, hD⟩, hS.F ht⟩) hS.2.2 dX5_best_11

set_option maxRecDepth 100000 in
set_option maxHeartbeats 4000000 in
theorem c_checkMany (l : Launch) (D : va_G) (cA : Nat → ClassId) (sz : Nat) (S : Pool) (p0 : Int32) (h1 : kOut p0 1 200 = 0) : Met l yX5_checkMany (Cond.code yX5_checkMany cX5_checkMany 1 none :: TT) ({ frames := 1, cells := 0, slots := 0, locals := 22 }) (va_Pc [.int p0] (kPre D cA (PW cA S) sz)) (va_Qv (fun (x_ : Pool) => x_ = S) (fun x_ => kB D cA (va_A (PW cA S) sz) (PW cA x_)) (va_A (PW cA S) sz)) 0 0 (va_A (PW cA S) sz) := by
  refine Met.ofW (cc := cX5_checkMany) (maxL := 1) (ret := none) (by decide) rfl ?_
  intro p e s m args below meth c s₁ B hml hv
  obtain ⟨rfl, hsz, hP, hK, hD0, hTB⟩ := hv
  have hx := B.exec
  have hb := B.bytes
  have hr := B.returns
  have hts := atoms_spec (ws := Cond.code yX5_checkMany cX5_checkMany 1 none :: TT) B.pre
  have htT : ∀ w ∈ TT, w.before _ s = true := fun w h => hts w (List.mem_cons_of_mem _ h)
  have hown : s.vm.findClass RX5 = some m.cls := findClass_of_methodNamed B.named
  have hlocks := B.notSynchronized
  subst hsz
  have hD := hD0.self (sz := s.heap.size)
  generalize hAe : va_A (PW cA S) s.heap.size = A at hD ⊢
  have hA : ∀ q : Nat, s.heap.size ≤ q → A q := fun q h => by rw [← hAe]; exact Or.inr h
  have hS : va_S A s.heap s.heap [] := va_S.rf
  have hl := lv_entry ([.int p0]) (n := 1) (Nat.le_of_ble_eq_true rfl)
  rw [lg_entry_eq]
  generalize (lg_sl ([.int p0]) ++ List.replicate (1 - (lg_sl ([.int p0])).length) Slot.unset).toArray = ls at hl ⊢
  have hl : lv_has ls 1 [(0, .int p0)] := hl
  refine lv_iload_n hx hb dX5_checkMany_0 rfl (lv_at hl 0 rfl) ?_
  refine lv_iconst (v := 1) hx hb dX5_checkMany_1 (by decide) ?_
  refine lv_sipush (v := 200) hx hb dX5_checkMany_2 (by decide) ?_
  refine kc_i (va_runS (As := [.int p0, .int 1, .int 200]) (rest := []) ⟨hx, hb, hml, hown, htT⟩ (c_isOutside l D cA _ S p0 1 200) (cwS 3 htT (kg_S m_ml_X5_22 m_st_X5_isOutside m_in_X5 m_cd_X5_isOutside) rfl rfl rfl (by decide +kernel) ⟨Nat.le_of_ble_eq_true rfl, Nat.le_of_ble_eq_true rfl⟩) (kp_S hK hP hD hTB) rfl rfl hl.1 rfl (lv_room (Nat.le_of_ble_eq_true rfl)) dX5_checkMany_5 ⟨Nat.le_of_ble_eq_true rfl, Nat.le_of_ble_eq_true rfl⟩) hD hS hA (fun r_1 x_1 H locs hq_1 hP hD hS => ?_)
  rw [hq_1.1.trans h1]
  rw [hq_1.2] at hP hD
  refine lv_if_eq (tgt := 22) hx hb dX5_checkMany_8 (by decide) (fun _ => ?_) (fun c_2 => absurd c_2 (by decide))
  exact W.vret hx hb hr (fun t ht hW => ⟨⟨S, rfl, rfl, by rw [ht]; exact hP, va_K.moved hW.alike hK, hD⟩, hS.F ht⟩) hS.2.2 dX5_checkMany_22

set_option maxRecDepth 100000 in
set_option maxHeartbeats 4000000 in
theorem c_checkMany_t (l : Launch) (hst : l.stackTraces = false) (D : va_G) (cA : Nat → ClassId) (sz : Nat) (S : Pool) (p0 : Int32) (h1 : kOut p0 1 200 = 1) : vx_Met l yX5_checkMany (Cond.code yX5_checkMany cX5_checkMany 1 none :: TT) ({ frames := 6, cells := 1, slots := 6, locals := 82 }) (va_Pc [.int p0] (kPreX D cA (PW cA S) sz)) kNo (kXC D cA (PW cA S) "java/lang/IllegalArgumentException" (va_A (PW cA S) sz)) 1 6 (va_A (PW cA S) sz) := by
  refine vx_ofW (cc := cX5_checkMany) (maxL := 1) (ret := none) (by decide) rfl ?_
  intro p e s m args below meth c s₁ B hml hTab hv
  obtain ⟨rfl, ⟨hsz, hP, hK, hD0, hTB⟩, hTX⟩ := hv
  have hx := B.exec
  have hb := B.bytes
  have hr := B.returns
  have hts := atoms_spec (ws := Cond.code yX5_checkMany cX5_checkMany 1 none :: TT) B.pre
  have htT : ∀ w ∈ TT, w.before _ s = true := fun w h => hts w (List.mem_cons_of_mem _ h)
  have hown : s.vm.findClass RX5 = some m.cls := findClass_of_methodNamed B.named
  have hlocks := B.notSynchronized
  subst hsz
  have hD := hD0.self (sz := s.heap.size)
  generalize hAe : va_A (PW cA S) s.heap.size = A at hD hTX ⊢
  have hA : ∀ q : Nat, s.heap.size ≤ q → A q := fun q h => by rw [← hAe]; exact Or.inr h
  have hS : va_S A s.heap s.heap [] := va_S.rf
  have hl := lv_entry ([.int p0]) (n := 1) (Nat.le_of_ble_eq_true rfl)
  rw [lg_entry_eq]
  generalize (lg_sl ([.int p0]) ++ List.replicate (1 - (lg_sl ([.int p0])).length) Slot.unset).toArray = ls at hl ⊢
  have hl : lv_has ls 1 [(0, .int p0)] := hl
  refine lv_iload_n hx hb dX5_checkMany_0 rfl (lv_at hl 0 rfl) ?_
  refine lv_iconst (v := 1) hx hb dX5_checkMany_1 (by decide) ?_
  refine lv_sipush (v := 200) hx hb dX5_checkMany_2 (by decide) ?_
  refine kc_i (va_runS (As := [.int p0, .int 1, .int 200]) (rest := []) ⟨hx, hb, hml, hown, htT⟩ (c_isOutside l D cA _ S p0 1 200) (cwS 3 htT (kg_S m_ml_X5_22 m_st_X5_isOutside m_in_X5 m_cd_X5_isOutside) rfl rfl rfl (by decide +kernel) ⟨Nat.le_of_ble_eq_true rfl, Nat.le_of_ble_eq_true rfl⟩) (kp_S hK hP hD hTB) rfl rfl hl.1 rfl (lv_room (Nat.le_of_ble_eq_true rfl)) dX5_checkMany_5 ⟨Nat.le_of_ble_eq_true rfl, Nat.le_of_ble_eq_true rfl⟩) hD hS hA (fun r_1 x_1 H locs hq_1 hP hD hS => ?_)
  rw [hq_1.1.trans h1]
  rw [hq_1.2] at hP hD
  refine lv_if_eq (tgt := 22) hx hb dX5_checkMany_8 (by decide) (fun c_2 => absurd c_2 (by decide)) (fun _ => ?_)
  exact kt_newW (text := "many out of range") hx hb hst hown (Or.inl rfl) (htT _ m_cl_X5_26) (htT _ m_in_IllegalArgumentException) (by decide +kernel) (fun w h => htT w (at_IAE w h)) an_IAE (ag_IAE 26) hTB hTX hK hP hD hS (hl.1.trans hml.symm) dX5_checkMany_11 dX5_checkMany_14 dX5_checkMany_15 dX5_checkMany_18 dX5_checkMany_21 hTab (Nat.le_of_ble_eq_true rfl) (Nat.le_of_ble_eq_true rfl) (Nat.le_of_ble_eq_true rfl) (Nat.le_of_ble_eq_true rfl) hlocks (Nat.le_of_ble_eq_true rfl) (Nat.le_of_ble_eq_true rfl)

set_option maxRecDepth 100000 in
set_option maxHeartbeats 4000000 in
/-- reach -/
theorem c_reach (l : Launch) (D : va_G) (cA : Nat → ClassId) (sz : Nat) (S : Pool) (x : Nat) (hx5 : isO S x 5) (ar : Nat) (hq0 : gQ S x 0 = some ar) (ak : Nat) (hq1 : gQ S x 1 = some ak) (hak : isO S ak 1) (hR : okR S ar) (j : Nat) (hj : j < 8) (a : Nat) (hja : gP S ar j = some a) (p0 : Int32) (hsw : kSw S ar p0 = some a) (p1 : Int32) (hv : kOut p1 0 (gI S a 2 - 1) = 0) (mm : Nat) (hm1 : 1 ≤ mm) (hmm : mm ≤ 200) (h1 : kOut (nI mm) 1 200 = 0)  : Met l yX5_reach (Cond.code yX5_reach cX5_reach 7 (some .int) :: TT) ({ frames := 26, cells := 0, slots := 0, locals := 620 }) (va_Pc [.ref x, .int p0, .int p1, .int (nI mm)] (kPre D cA (PW cA S) sz)) (va_Qi (fun (r_ : Int32) (x_ : Pool) => eqA S x_ ak) (fun x_ => kB D cA (va_A (PW cA S) sz) (PW cA x_)) (va_A (PW cA S) sz)) 0 0 (va_A (PW cA S) sz) := by
  refine Met.ofW (cc := cX5_reach) (maxL := 7) (ret := (some .int)) (by decide) rfl ?_
  intro p e s m args below meth c s₁ B hml hv
  obtain ⟨rfl, hsz, hP, hK, hD0, hTB⟩ := hv
  have hx := B.exec
  have hb := B.bytes
  have hr := B.returns
  have hts := atoms_spec (ws := Cond.code yX5_reach cX5_reach 7 (some .int) :: TT) B.pre
  have htT : ∀ w ∈ TT, w.before _ s = true := fun w h => hts w (List.mem_cons_of_mem _ h)
  have hown : s.vm.findClass RX5 = some m.cls := findClass_of_methodNamed B.named
  have hlocks := B.notSynchronized
  subst hsz
  have hD := hD0.self (sz := s.heap.size)
  generalize hAe : va_A (PW cA S) s.heap.size = A at hD ⊢
  have hA : ∀ q : Nat, s.heap.size ≤ q → A q := fun q h => by rw [← hAe]; exact Or.inr h
  have hS : va_S A s.heap s.heap [] := va_S.rf
  have hl := lv_entry ([.ref x, .int p0, .int p1, .int (nI mm)]) (n := 7) (Nat.le_of_ble_eq_true rfl)
  rw [lg_entry_eq]
  generalize (lg_sl ([.ref x, .int p0, .int p1, .int (nI mm)]) ++ List.replicate (7 - (lg_sl ([.ref x, .int p0, .int p1, .int (nI mm)])).length) Slot.unset).toArray = ls at hl ⊢
  have hl : lv_has ls 7 [(0, .ref x), (1, .int p0), (2, .int p1), (3, .int (nI mm))] := hl
  refine lv_aload_n hx hb dX5_reach_0 rfl (lv_at hl 0 rfl) ?_
  refine lv_iload_n hx hb dX5_reach_1 rfl (lv_at hl 1 rfl) ?_
  refine kc_q (va_runV (As := [.int p0]) (rest := []) ⟨hx, hb, hml, hown, htT⟩ (c_known l D cA _ S x hx5 ar hq0 hR.1 p0 a hsw) (cwV 1 htT (kg_V m_ml_X5_45 m_im_X5_known m_sl_X5_known m_in_X5 m_cd_X5_known) rfl rfl rfl (by decide +kernel) ⟨Nat.le_of_ble_eq_true rfl, Nat.le_of_ble_eq_true rfl⟩) (kp_V hK hP hD hTB (kp_rc hK hP hx5 (Nat.le_of_ble_eq_true rfl) rfl)) rfl rfl hl.1 rfl (lv_room (Nat.le_of_ble_eq_true rfl)) dX5_reach_2 ⟨Nat.le_of_ble_eq_true rfl, Nat.le_of_ble_eq_true rfl⟩) hD hS hA (fun r_1 x_1 H locs hq_1 hP hD hS => ?_)
  rw [hq_1.1]
  rw [hq_1.2] at hP hD
  refine lv_astore (lv' := [(4, .ref a), (0, .ref x), (1, .int p0), (2, .int p1), (3, .int (nI mm))]) hx hb dX5_reach_5 hl (by decide) rfl (fun ls hl => ?_)
  refine lv_aload hx hb dX5_reach_7 (lv_at hl 0 rfl) ?_
  refine lv_iload_n hx hb dX5_reach_9 rfl (lv_at hl 3 rfl) ?_
  refine kc_v (va_runS (As := [.ref a, .int p1]) (rest := []) ⟨hx, hb, hml, hown, htT⟩ (c_checkVariant l D cA _ S a (hR.2 j hj a hja).1.1 p1 hv) (cwS 2 htT (kg_S m_ml_X5_49 m_st_X5_checkVariant m_in_X5 m_cd_X5_checkVariant) rfl rfl rfl (by decide +kernel) ⟨Nat.le_of_ble_eq_true rfl, Nat.le_of_ble_eq_true rfl⟩) (kp_S hK hP hD hTB) rfl rfl hl.1 rfl (lv_room (Nat.le_of_ble_eq_true rfl)) dX5_reach_10 ⟨Nat.le_of_ble_eq_true rfl, Nat.le_of_ble_eq_true rfl⟩) hD hS hA (fun x_2 H locs hq_2 hP hD hS => ?_)
  rw [hq_2] at hP hD
  refine lv_iload_n hx hb dX5_reach_13 rfl (lv_at hl 4 rfl) ?_
  refine kc_v (va_runS (As := [.int (nI mm)]) (rest := []) ⟨hx, hb, hml, hown, htT⟩ (c_checkMany l D cA _ S (nI mm) h1) (cwS 1 htT (kg_S m_ml_X5_230 m_st_X5_checkMany m_in_X5 m_cd_X5_checkMany) rfl rfl rfl (by decide +kernel) ⟨Nat.le_of_ble_eq_true rfl, Nat.le_of_ble_eq_true rfl⟩) (kp_S hK hP hD hTB) rfl rfl hl.1 rfl (lv_room (Nat.le_of_ble_eq_true rfl)) dX5_reach_14 ⟨Nat.le_of_ble_eq_true rfl, Nat.le_of_ble_eq_true rfl⟩) hD hS hA (fun x_3 H locs hq_3 hP hD hS => ?_)
  rw [hq_3] at hP hD
  refine lv_iconst (v := 0) hx hb dX5_reach_17 (by decide) ?_
  refine lv_istore (lv' := [(5, .int 0), (4, .ref a), (0, .ref x), (1, .int p0), (2, .int p1), (3, .int (nI mm))]) hx hb dX5_reach_18 hl (by decide) rfl (fun ls hl => ?_)
  refine lv_iconst (v := 0) hx hb dX5_reach_20 (by decide) ?_
  refine lv_istore (lv' := [(6, .int 0), (5, .int 0), (4, .ref a), (0, .ref x), (1, .int p0), (2, .int p1), (3, .int (nI mm))]) hx hb dX5_reach_21 hl (by decide) rfl (fun ls hl => ?_)
  refine kz_loop 23 (fun N9 H locs ls => ∃ (u : Nat) (acc : Int32) (T : Pool), N9 = mm - u ∧ u ≤ mm ∧ eqA S T ak ∧ va_P D vwCl (PW cA T) H ∧ va_D A (PW cA T) ∧ va_S A s.heap H locs ∧ lv_has ls 7 [(6, .int (nI u)), (5, .int acc), (4, .ref a), (3, .int (nI mm)), (2, .int p1), (1, .int p0), (0, .ref x)]) (fun N9 ih_23 H locs ls hI => ?_) ⟨0, 0, S, rfl, by omega, eqA.rf, hP, hD, hS, lv_sub hl [0, 1, 2, 6, 5, 4, 3] rfl⟩
  obtain ⟨u, acc, T, hn9, hu, hE, hP, hD, hS, hl⟩ := hI
  have hx5_4 := hE.o hx5
  have hak_4 := hE.o hak
  have hR_4 := hE.okR hak hR
  have hq0_4 := (hE.q x 0).trans hq0
  have hq1_4 := (hE.q x 1).trans hq1
  have hja_4 := (hE.p ar j).trans hja
  refine lv_iload hx hb dX5_reach_23 (lv_at hl 0 rfl) ?_
  refine lv_iload_n hx hb dX5_reach_25 rfl (lv_at hl 3 rfl) ?_
  refine lv_icmp_ge (tgt := 57) hx hb dX5_reach_26 (by decide) (fun c_5 => ?_) (fun c_5 => ?_)
  · replace c_5 := (nI_leI (a := mm) (b := u) (by omega) (by omega)).mp c_5
    refine lv_iload hx hb dX5_reach_57 (lv_at hl 1 rfl) ?_
    exact W.iret (v := acc) hx hb hr (fun t ht hW => ⟨⟨acc, T, rfl, hE, by rw [ht]; exact hP, va_K.moved hW.alike hK, hD⟩, hS.F ht⟩) hS.2.2 dX5_reach_59
  · replace c_5 : ¬ (mm ≤ u) := fun h9 => c_5 ((nI_leI (a := mm) (b := u) (by omega) (by omega)).mpr h9)
    refine lv_aload_n hx hb dX5_reach_29 rfl (lv_at hl 6 rfl) ?_
    refine kx_gets hx hb htT m_u_X5 hown hK hP hx5_4 (Nat.le_of_ble_eq_true rfl) rfl 1 (by decide) (by decide) rfl hq1_4 (htT _ m_fl_X5_18) dX5_reach_30 ?_
    refine lv_iload hx hb dX5_reach_33 (lv_at hl 0 rfl) ?_
    refine kc_v (va_runV (As := [.int (nI u)]) (rest := []) ⟨hx, hb, hml, hown, htT⟩ (c_becomeCounted l D cA _ T ak hak_4 (nI u)) (cwV 1 htT (kg_V m_ml_X5_233 m_im_X1_becomeCounted m_sl_X1_becomeCounted m_in_X1 m_cd_X1_becomeCounted) rfl rfl rfl (by decide +kernel) ⟨Nat.le_of_ble_eq_true rfl, Nat.le_of_ble_eq_true rfl⟩) (kp_V hK hP hD hTB (kp_rc hK hP hak_4 (Nat.le_of_ble_eq_true rfl) rfl)) rfl rfl hl.1 rfl (lv_room (Nat.le_of_ble_eq_true rfl)) dX5_reach_35 ⟨Nat.le_of_ble_eq_true rfl, Nat.le_of_ble_eq_true rfl⟩) hD hS hA (fun x_6 H locs hq_6 hP hD hS => ?_)
    have hE_6 : eqA S x_6 ak := by rw [hq_6]; exact hE.tr eqA.bec
    have hx5_7 := hE_6.o hx5
    have hak_7 := hE_6.o hak
    have hR_7 := hE_6.okR hak hR
    have hq0_7 := (hE_6.q x 0).trans hq0
    have hq1_7 := (hE_6.q x 1).trans hq1
    have hja_7 := (hE_6.p ar j).trans hja
    refine lv_aload_n hx hb dX5_reach_38 rfl (lv_at hl 6 rfl) ?_
    refine lv_aload hx hb dX5_reach_39 (lv_at hl 2 rfl) ?_
    refine kc_i (va_runV (As := [.ref a]) (rest := []) ⟨hx, hb, hml, hown, htT⟩ (c_PV l D cA x_6 x hx5_7 ar hq0_7 ak hq1_7 hak_7 hR_7 7 _ j a hj (by omega) hja_7) (cwV 1 htT (kg_V m_ml_X5_151 m_im_X5_variantOf m_sl_X5_variantOf m_in_X5 m_cd_X5_variantOf) rfl rfl rfl (by decide +kernel) ⟨Nat.le_of_ble_eq_true rfl, Nat.le_of_ble_eq_true rfl⟩) (kp_V hK hP hD hTB (kp_rc hK hP hx5_7 (Nat.le_of_ble_eq_true rfl) rfl)) rfl rfl hl.1 rfl (lv_room (Nat.le_of_ble_eq_true rfl)) dX5_reach_41 ⟨Nat.le_of_ble_eq_true rfl, Nat.le_of_ble_eq_true rfl⟩) hD hS hA (fun r_8 x_8 H locs hq_8 hP hD hS => ?_)
    rw [hq_8.2] at hP hD
    refine lv_iload_n hx hb dX5_reach_44 rfl (lv_at hl 4 rfl) ?_
    refine lv_icmp_ne (tgt := 51) hx hb dX5_reach_45 (by decide) (fun c_9 => ?_) (fun c_9 => ?_)
    · refine lv_iinc (v := nI (u + 1)) (lv' := [(6, .int (nI (u + 1))), (5, .int acc), (4, .ref a), (3, .int (nI mm)), (2, .int p1), (1, .int p0), (0, .ref x)]) hx hb dX5_reach_51 hl (k := 0) rfl (nI_1 _) (by decide) rfl (fun ls hl => ?_)
      refine lv_goto (tgt := 23) hx hb dX5_reach_54 (by decide) ?_
      have hl := lv_sub hl [0, 1, 2, 3, 4, 5, 6] rfl
      exact ih_23 _ (by omega) H locs ls ⟨u + 1, _, x_6, rfl, by omega, hE_6, hP, hD, hS, hl⟩
    · obtain ⟨i_10, ei_10⟩ : ∃ y : Int32, y = acc + 1 := ⟨_, rfl⟩
      refine lv_iinc (v := i_10) (lv' := [(5, .int i_10), (6, .int (nI u)), (4, .ref a), (3, .int (nI mm)), (2, .int p1), (1, .int p0), (0, .ref x)]) hx hb dX5_reach_48 hl (k := 1) rfl (by rw [ei_10]; rfl) (by decide) rfl (fun ls hl => ?_)
      refine lv_iinc (v := nI (u + 1)) (lv' := [(6, .int (nI (u + 1))), (5, .int i_10), (4, .ref a), (3, .int (nI mm)), (2, .int p1), (1, .int p0), (0, .ref x)]) hx hb dX5_reach_51 hl (k := 1) rfl (nI_1 _) (by decide) rfl (fun ls hl => ?_)
      refine lv_goto (tgt := 23) hx hb dX5_reach_54 (by decide) ?_
      have hl := lv_sub hl [0, 1, 2, 3, 4, 5, 6] rfl
      exact ih_23 _ (by omega) H locs ls ⟨u + 1, _, x_6, rfl, by omega, hE_6, hP, hD, hS, hl⟩

set_option maxRecDepth 100000 in
set_option maxHeartbeats 4000000 in
theorem c_reach_1 (l : Launch) (hst : l.stackTraces = false) (D : va_G) (cA : Nat → ClassId) (sz : Nat) (S : Pool) (x : Nat) (hx5 : isO S x 5) (ar : Nat) (hq0 : gQ S x 0 = some ar) (ak : Nat) (hq1 : gQ S x 1 = some ak) (hak : isO S ak 1) (hR : okR S ar) (j : Nat) (hj : j < 8) (a : Nat) (hja : gP S ar j = some a) (p0 : Int32) (hsw : kSw S ar p0 = some a) (p1 p2 : Int32) (hv : kOut p1 0 (gI S a 2 - 1) = 0) (h1 : kOut p2 1 200 = 1) : vx_Met l yX5_reach (Cond.code yX5_reach cX5_reach 7 (some .int) :: TT) ({ frames := 7, cells := 1, slots := 6, locals := 102 }) (va_Pc [.ref x, .int p0, .int p1, .int p2] (kPreX D cA (PW cA S) sz)) kNo (kXC D cA (PW cA S) "java/lang/IllegalArgumentException" (va_A (PW cA S) sz)) 1 6 (va_A (PW cA S) sz) := by
  refine vx_ofW (cc := cX5_reach) (maxL := 7) (ret := (some .int)) (by decide) rfl ?_
  intro p e s m args below meth c s₁ B hml hTab hv
  obtain ⟨rfl, ⟨hsz, hP, hK, hD0, hTB⟩, hTX⟩ := hv
  have hx := B.exec
  have hb := B.bytes
  have hr := B.returns
  have hts := atoms_spec (ws := Cond.code yX5_reach cX5_reach 7 (some .int) :: TT) B.pre
  have htT : ∀ w ∈ TT, w.before _ s = true := fun w h => hts w (List.mem_cons_of_mem _ h)
  have hown : s.vm.findClass RX5 = some m.cls := findClass_of_methodNamed B.named
  have hlocks := B.notSynchronized
  subst hsz
  have hD := hD0.self (sz := s.heap.size)
  generalize hAe : va_A (PW cA S) s.heap.size = A at hD hTX ⊢
  have hA : ∀ q : Nat, s.heap.size ≤ q → A q := fun q h => by rw [← hAe]; exact Or.inr h
  have hS : va_S A s.heap s.heap [] := va_S.rf
  have hl := lv_entry ([.ref x, .int p0, .int p1, .int p2]) (n := 7) (Nat.le_of_ble_eq_true rfl)
  rw [lg_entry_eq]
  generalize (lg_sl ([.ref x, .int p0, .int p1, .int p2]) ++ List.replicate (7 - (lg_sl ([.ref x, .int p0, .int p1, .int p2])).length) Slot.unset).toArray = ls at hl ⊢
  have hl : lv_has ls 7 [(0, .ref x), (1, .int p0), (2, .int p1), (3, .int p2)] := hl
  refine lv_aload_n hx hb dX5_reach_0 rfl (lv_at hl 0 rfl) ?_
  refine lv_iload_n hx hb dX5_reach_1 rfl (lv_at hl 1 rfl) ?_
  refine kc_q (va_runV (As := [.int p0]) (rest := []) ⟨hx, hb, hml, hown, htT⟩ (c_known l D cA _ S x hx5 ar hq0 hR.1 p0 a hsw) (cwV 1 htT (kg_V m_ml_X5_45 m_im_X5_known m_sl_X5_known m_in_X5 m_cd_X5_known) rfl rfl rfl (by decide +kernel) ⟨Nat.le_of_ble_eq_true rfl, Nat.le_of_ble_eq_true rfl⟩) (kp_V hK hP hD hTB (kp_rc hK hP hx5 (Nat.le_of_ble_eq_true rfl) rfl)) rfl rfl hl.1 rfl (lv_room (Nat.le_of_ble_eq_true rfl)) dX5_reach_2 ⟨Nat.le_of_ble_eq_true rfl, Nat.le_of_ble_eq_true rfl⟩) hD hS hA (fun r_1 x_1 H locs hq_1 hP hD hS => ?_)
  rw [hq_1.1]
  rw [hq_1.2] at hP hD
  refine lv_astore (lv' := [(4, .ref a), (0, .ref x), (1, .int p0), (2, .int p1), (3, .int p2)]) hx hb dX5_reach_5 hl (by decide) rfl (fun ls hl => ?_)
  refine lv_aload hx hb dX5_reach_7 (lv_at hl 0 rfl) ?_
  refine lv_iload_n hx hb dX5_reach_9 rfl (lv_at hl 3 rfl) ?_
  refine kc_v (va_runS (As := [.ref a, .int p1]) (rest := []) ⟨hx, hb, hml, hown, htT⟩ (c_checkVariant l D cA _ S a (hR.2 j hj a hja).1.1 p1 hv) (cwS 2 htT (kg_S m_ml_X5_49 m_st_X5_checkVariant m_in_X5 m_cd_X5_checkVariant) rfl rfl rfl (by decide +kernel) ⟨Nat.le_of_ble_eq_true rfl, Nat.le_of_ble_eq_true rfl⟩) (kp_S hK hP hD hTB) rfl rfl hl.1 rfl (lv_room (Nat.le_of_ble_eq_true rfl)) dX5_reach_10 ⟨Nat.le_of_ble_eq_true rfl, Nat.le_of_ble_eq_true rfl⟩) hD hS hA (fun x_2 H locs hq_2 hP hD hS => ?_)
  rw [hq_2] at hP hD
  refine lv_iload_n hx hb dX5_reach_13 rfl (lv_at hl 4 rfl) ?_
  refine kt_call (vx_runS (As := [.int p2]) (rest := []) ⟨hx, hb, hml, hown, htT⟩ (c_checkMany_t l hst D cA _ S p2 h1) (cwS 1 htT (kg_S m_ml_X5_230 m_st_X5_checkMany m_in_X5 m_cd_X5_checkMany) rfl rfl rfl (by decide +kernel) ⟨Nat.le_of_ble_eq_true rfl, Nat.le_of_ble_eq_true rfl⟩) (kp_SX hK hP hD hTB hTX hS hA) rfl rfl hl.1 rfl (lv_room (Nat.le_of_ble_eq_true rfl)) dX5_reach_14 ⟨Nat.le_of_ble_eq_true rfl, Nat.le_of_ble_eq_true rfl⟩) hD hS hA (fun ce q9 H locs hP hD hS hce hcv hcl => ?_)
  exact kt_out hTab hlocks hK hP hD hS hce hcv hcl (Nat.le_of_ble_eq_true rfl) (Nat.le_of_ble_eq_true rfl)

set_option maxRecDepth 100000 in
set_option maxHeartbeats 4000000 in
/-- both -/
theorem c_both (l : Launch) (D : va_G) (cA : Nat → ClassId) (sz : Nat) (S : Pool) (x : Nat) (hx5 : isO S x 5) (ar : Nat) (hq0 : gQ S x 0 = some ar) (ak : Nat) (hq1 : gQ S x 1 = some ak) (hak : isO S ak 1) (hR : okR S ar) (j : Nat) (hj : j < 8) (a : Nat) (hja : gP S ar j = some a) (p0 : Int32) (hsw : kSw S ar p0 = some a) (j2 : Nat) (hj2 : j2 < 8) (b2 : Nat) (hjb : gP S ar j2 = some b2) (p1 : Int32) (hs2 : kSw S ar p1 = some b2) (mm : Nat) (hm1 : 1 ≤ mm) (hmm : mm ≤ 200) (h1 : kOut (nI mm) 1 200 = 0)  : Met l yX5_both (Cond.code yX5_both cX5_both 8 (some .int) :: TT) ({ frames := 25, cells := 0, slots := 0, locals := 599 }) (va_Pc [.ref x, .int p0, .int p1, .int (nI mm)] (kPre D cA (PW cA S) sz)) (va_Qi (fun (r_ : Int32) (x_ : Pool) => eqA S x_ ak) (fun x_ => kB D cA (va_A (PW cA S) sz) (PW cA x_)) (va_A (PW cA S) sz)) 0 0 (va_A (PW cA S) sz) := by
  refine Met.ofW (cc := cX5_both) (maxL := 8) (ret := (some .int)) (by decide) rfl ?_
  intro p e s m args below meth c s₁ B hml hv
  obtain ⟨rfl, hsz, hP, hK, hD0, hTB⟩ := hv
  have hx := B.exec
  have hb := B.bytes
  have hr := B.returns
  have hts := atoms_spec (ws := Cond.code yX5_both cX5_both 8 (some .int) :: TT) B.pre
  have htT : ∀ w ∈ TT, w.before _ s = true := fun w h => hts w (List.mem_cons_of_mem _ h)
  have hown : s.vm.findClass RX5 = some m.cls := findClass_of_methodNamed B.named
  have hlocks := B.notSynchronized
  subst hsz
  have hD := hD0.self (sz := s.heap.size)
  generalize hAe : va_A (PW cA S) s.heap.size = A at hD ⊢
  have hA : ∀ q : Nat, s.heap.size ≤ q → A q := fun q h => by rw [← hAe]; exact Or.inr h
  have hS : va_S A s.heap s.heap [] := va_S.rf
  have hl := lv_entry ([.ref x, .int p0, .int p1, .int (nI mm)]) (n := 8) (Nat.le_of_ble_eq_true rfl)
  rw [lg_entry_eq]
  generalize (lg_sl ([.ref x, .int p0, .int p1, .int (nI mm)]) ++ List.replicate (8 - (lg_sl ([.ref x, .int p0, .int p1, .int (nI mm)])).length) Slot.unset).toArray = ls at hl ⊢
  have hl : lv_has ls 8 [(0, .ref x), (1, .int p0), (2, .int p1), (3, .int (nI mm))] := hl
  refine lv_aload_n hx hb dX5_both_0 rfl (lv_at hl 0 rfl) ?_
  refine lv_iload_n hx hb dX5_both_1 rfl (lv_at hl 1 rfl) ?_
  refine kc_q (va_runV (As := [.int p0]) (rest := []) ⟨hx, hb, hml, hown, htT⟩ (c_known l D cA _ S x hx5 ar hq0 hR.1 p0 a hsw) (cwV 1 htT (kg_V m_ml_X5_45 m_im_X5_known m_sl_X5_known m_in_X5 m_cd_X5_known) rfl rfl rfl (by decide +kernel) ⟨Nat.le_of_ble_eq_true rfl, Nat.le_of_ble_eq_true rfl⟩) (kp_V hK hP hD hTB (kp_rc hK hP hx5 (Nat.le_of_ble_eq_true rfl) rfl)) rfl rfl hl.1 rfl (lv_room (Nat.le_of_ble_eq_true rfl)) dX5_both_2 ⟨Nat.le_of_ble_eq_true rfl, Nat.le_of_ble_eq_true rfl⟩) hD hS hA (fun r_1 x_1 H locs hq_1 hP hD hS => ?_)
  rw [hq_1.1]
  rw [hq_1.2] at hP hD
  refine lv_astore (lv' := [(4, .ref a), (0, .ref x), (1, .int p0), (2, .int p1), (3, .int (nI mm))]) hx hb dX5_both_5 hl (by decide) rfl (fun ls hl => ?_)
  refine lv_aload_n hx hb dX5_both_7 rfl (lv_at hl 1 rfl) ?_
  refine lv_iload_n hx hb dX5_both_8 rfl (lv_at hl 3 rfl) ?_
  refine kc_q (va_runV (As := [.int p1]) (rest := []) ⟨hx, hb, hml, hown, htT⟩ (c_known l D cA _ S x hx5 ar hq0 hR.1 p1 b2 hs2) (cwV 1 htT (kg_V m_ml_X5_45 m_im_X5_known m_sl_X5_known m_in_X5 m_cd_X5_known) rfl rfl rfl (by decide +kernel) ⟨Nat.le_of_ble_eq_true rfl, Nat.le_of_ble_eq_true rfl⟩) (kp_V hK hP hD hTB (kp_rc hK hP hx5 (Nat.le_of_ble_eq_true rfl) rfl)) rfl rfl hl.1 rfl (lv_room (Nat.le_of_ble_eq_true rfl)) dX5_both_9 ⟨Nat.le_of_ble_eq_true rfl, Nat.le_of_ble_eq_true rfl⟩) hD hS hA (fun r_2 x_2 H locs hq_2 hP hD hS => ?_)
  rw [hq_2.1]
  rw [hq_2.2] at hP hD
  refine lv_astore (lv' := [(5, .ref b2), (4, .ref a), (0, .ref x), (1, .int p0), (2, .int p1), (3, .int (nI mm))]) hx hb dX5_both_12 hl (by decide) rfl (fun ls hl => ?_)
  refine lv_iload_n hx hb dX5_both_14 rfl (lv_at hl 5 rfl) ?_
  refine kc_v (va_runS (As := [.int (nI mm)]) (rest := []) ⟨hx, hb, hml, hown, htT⟩ (c_checkMany l D cA _ S (nI mm) h1) (cwS 1 htT (kg_S m_ml_X5_230 m_st_X5_checkMany m_in_X5 m_cd_X5_checkMany) rfl rfl rfl (by decide +kernel) ⟨Nat.le_of_ble_eq_true rfl, Nat.le_of_ble_eq_true rfl⟩) (kp_S hK hP hD hTB) rfl rfl hl.1 rfl (lv_room (Nat.le_of_ble_eq_true rfl)) dX5_both_15 ⟨Nat.le_of_ble_eq_true rfl, Nat.le_of_ble_eq_true rfl⟩) hD hS hA (fun x_3 H locs hq_3 hP hD hS => ?_)
  rw [hq_3] at hP hD
  refine lv_iconst (v := 0) hx hb dX5_both_18 (by decide) ?_
  refine lv_istore (lv' := [(6, .int 0), (5, .ref b2), (4, .ref a), (0, .ref x), (1, .int p0), (2, .int p1), (3, .int (nI mm))]) hx hb dX5_both_19 hl (by decide) rfl (fun ls hl => ?_)
  refine lv_iconst (v := 0) hx hb dX5_both_21 (by decide) ?_
  refine lv_istore (lv' := [(7, .int 0), (6, .int 0), (5, .ref b2), (4, .ref a), (0, .ref x), (1, .int p0), (2, .int p1), (3, .int (nI mm))]) hx hb dX5_both_22 hl (by decide) rfl (fun ls hl => ?_)
  refine kz_loop 24 (fun N9 H locs ls => ∃ (u : Nat) (acc : Int32) (T : Pool), N9 = mm - u ∧ u ≤ mm ∧ eqA S T ak ∧ va_P D vwCl (PW cA T) H ∧ va_D A (PW cA T) ∧ va_S A s.heap H locs ∧ lv_has ls 8 [(7, .int (nI u)), (6, .int acc), (5, .ref b2), (4, .ref a), (3, .int (nI mm)), (2, .int p1), (1, .int p0), (0, .ref x)]) (fun N9 ih_24 H locs ls hI => ?_) ⟨0, 0, S, rfl, by omega, eqA.rf, hP, hD, hS, lv_sub hl [0, 1, 2, 3, 7, 6, 5, 4] rfl⟩
  obtain ⟨u, acc, T, hn9, hu, hE, hP, hD, hS, hl⟩ := hI
  have hx5_4 := hE.o hx5
  have hak_4 := hE.o hak
  have hR_4 := hE.okR hak hR
  have hq0_4 := (hE.q x 0).trans hq0
  have hq1_4 := (hE.q x 1).trans hq1
  have hja_4 := (hE.p ar j).trans hja
  have hjb_4 := (hE.p ar j2).trans hjb
  refine lv_iload hx hb dX5_both_24 (lv_at hl 0 rfl) ?_
  refine lv_iload_n hx hb dX5_both_26 rfl (lv_at hl 4 rfl) ?_
  refine lv_icmp_ge (tgt := 70) hx hb dX5_both_27 (by decide) (fun c_5 => ?_) (fun c_5 => ?_)
  · replace c_5 := (nI_leI (a := mm) (b := u) (by omega) (by omega)).mp c_5
    refine lv_iload hx hb dX5_both_70 (lv_at hl 1 rfl) ?_
    exact W.iret (v := acc) hx hb hr (fun t ht hW => ⟨⟨acc, T, rfl, hE, by rw [ht]; exact hP, va_K.moved hW.alike hK, hD⟩, hS.F ht⟩) hS.2.2 dX5_both_72
  · replace c_5 : ¬ (mm ≤ u) := fun h9 => c_5 ((nI_leI (a := mm) (b := u) (by omega) (by omega)).mpr h9)
    refine lv_aload_n hx hb dX5_both_30 rfl (lv_at hl 7 rfl) ?_
    refine kx_gets hx hb htT m_u_X5 hown hK hP hx5_4 (Nat.le_of_ble_eq_true rfl) rfl 1 (by decide) (by decide) rfl hq1_4 (htT _ m_fl_X5_18) dX5_both_31 ?_
    refine lv_iload hx hb dX5_both_34 (lv_at hl 0 rfl) ?_
    refine kc_v (va_runV (As := [.int (nI u)]) (rest := []) ⟨hx, hb, hml, hown, htT⟩ (c_becomeCounted l D cA _ T ak hak_4 (nI u)) (cwV 1 htT (kg_V m_ml_X5_233 m_im_X1_becomeCounted m_sl_X1_becomeCounted m_in_X1 m_cd_X1_becomeCounted) rfl rfl rfl (by decide +kernel) ⟨Nat.le_of_ble_eq_true rfl, Nat.le_of_ble_eq_true rfl⟩) (kp_V hK hP hD hTB (kp_rc hK hP hak_4 (Nat.le_of_ble_eq_true rfl) rfl)) rfl rfl hl.1 rfl (lv_room (Nat.le_of_ble_eq_true rfl)) dX5_both_36 ⟨Nat.le_of_ble_eq_true rfl, Nat.le_of_ble_eq_true rfl⟩) hD hS hA (fun x_6 H locs hq_6 hP hD hS => ?_)
    have hE_6 : eqA S x_6 ak := by rw [hq_6]; exact hE.tr eqA.bec
    have hx5_7 := hE_6.o hx5
    have hak_7 := hE_6.o hak
    have hR_7 := hE_6.okR hak hR
    have hq0_7 := (hE_6.q x 0).trans hq0
    have hq1_7 := (hE_6.q x 1).trans hq1
    have hja_7 := (hE_6.p ar j).trans hja
    have hjb_7 := (hE_6.p ar j2).trans hjb
    refine lv_aload_n hx hb dX5_both_39 rfl (lv_at hl 7 rfl) ?_
    refine lv_aload hx hb dX5_both_40 (lv_at hl 3 rfl) ?_
    refine kc_i (va_runV (As := [.ref a]) (rest := []) ⟨hx, hb, hml, hown, htT⟩ (c_reasonOf l D cA _ x_6 x hx5_7 ar hq0_7 ak hq1_7 hak_7 hR_7 7 (fun d9 h => by cases h; exact c_PV l D cA x_6 x hx5_7 ar hq0_7 ak hq1_7 hak_7 hR_7 6) a j hj hja_7 (by omega)) (cwV 1 htT (kg_V m_ml_X5_155 m_im_X5_reasonOf m_sl_X5_reasonOf m_in_X5 m_cd_X5_reasonOf) rfl rfl rfl (by decide +kernel) ⟨Nat.le_of_ble_eq_true rfl, Nat.le_of_ble_eq_true rfl⟩) (kp_V hK hP hD hTB (kp_rc hK hP hx5_7 (Nat.le_of_ble_eq_true rfl) rfl)) rfl rfl hl.1 rfl (lv_room (Nat.le_of_ble_eq_true rfl)) dX5_both_42 ⟨Nat.le_of_ble_eq_true rfl, Nat.le_of_ble_eq_true rfl⟩) hD hS hA (fun r_8 x_8 H locs hq_8 hP hD hS => ?_)
    rw [hq_8.2] at hP hD
    refine lv_bipush (v := 8) hx hb dX5_both_45 (by decide) ?_
    refine lv_icmp_ne (tgt := 64) hx hb dX5_both_47 (by decide) (fun c_9 => ?_) (fun c_9 => ?_)
    · refine lv_iinc (v := nI (u + 1)) (lv' := [(7, .int (nI (u + 1))), (6, .int acc), (5, .ref b2), (4, .ref a), (3, .int (nI mm)), (2, .int p1), (1, .int p0), (0, .ref x)]) hx hb dX5_both_64 hl (k := 0) rfl (nI_1 _) (by decide) rfl (fun ls hl => ?_)
      refine lv_goto (tgt := 24) hx hb dX5_both_67 (by decide) ?_
      have hl := lv_sub hl [0, 1, 2, 3, 4, 5, 6, 7] rfl
      exact ih_24 _ (by omega) H locs ls ⟨u + 1, _, x_6, rfl, by omega, hE_6, hP, hD, hS, hl⟩
    · refine lv_aload_n hx hb dX5_both_50 rfl (lv_at hl 7 rfl) ?_
      refine lv_aload hx hb dX5_both_51 (lv_at hl 2 rfl) ?_
      refine kc_i (va_runV (As := [.ref b2]) (rest := []) ⟨hx, hb, hml, hown, htT⟩ (c_reasonOf l D cA _ x_6 x hx5_7 ar hq0_7 ak hq1_7 hak_7 hR_7 7 (fun d9 h => by cases h; exact c_PV l D cA x_6 x hx5_7 ar hq0_7 ak hq1_7 hak_7 hR_7 6) b2 j2 hj2 hjb_7 (by omega)) (cwV 1 htT (kg_V m_ml_X5_155 m_im_X5_reasonOf m_sl_X5_reasonOf m_in_X5 m_cd_X5_reasonOf) rfl rfl rfl (by decide +kernel) ⟨Nat.le_of_ble_eq_true rfl, Nat.le_of_ble_eq_true rfl⟩) (kp_V hK hP hD hTB (kp_rc hK hP hx5_7 (Nat.le_of_ble_eq_true rfl) rfl)) rfl rfl hl.1 rfl (lv_room (Nat.le_of_ble_eq_true rfl)) dX5_both_53 ⟨Nat.le_of_ble_eq_true rfl, Nat.le_of_ble_eq_true rfl⟩) hD hS hA (fun r_10 x_10 H locs hq_10 hP hD hS => ?_)
      rw [hq_10.2] at hP hD
      refine lv_bipush (v := 8) hx hb dX5_both_56 (by decide) ?_
      refine lv_icmp_ne (tgt := 64) hx hb dX5_both_58 (by decide) (fun c_11 => ?_) (fun c_11 => ?_)
      · refine lv_iinc (v := nI (u + 1)) (lv' := [(7, .int (nI (u + 1))), (6, .int acc), (5, .ref b2), (4, .ref a), (3, .int (nI mm)), (2, .int p1), (1, .int p0), (0, .ref x)]) hx hb dX5_both_64 hl (k := 0) rfl (nI_1 _) (by decide) rfl (fun ls hl => ?_)
        refine lv_goto (tgt := 24) hx hb dX5_both_67 (by decide) ?_
        have hl := lv_sub hl [0, 1, 2, 3, 4, 5, 6, 7] rfl
        exact ih_24 _ (by omega) H locs ls ⟨u + 1, _, x_6, rfl, by omega, hE_6, hP, hD, hS, hl⟩
      · obtain ⟨i_12, ei_12⟩ : ∃ y : Int32, y = acc + 1 := ⟨_, rfl⟩
        refine lv_iinc (v := i_12) (lv' := [(6, .int i_12), (7, .int (nI u)), (5, .ref b2), (4, .ref a), (3, .int (nI mm)), (2, .int p1), (1, .int p0), (0, .ref x)]) hx hb dX5_both_61 hl (k := 1) rfl (by rw [ei_12]; rfl) (by decide) rfl (fun ls hl => ?_)
        refine lv_iinc (v := nI (u + 1)) (lv' := [(7, .int (nI (u + 1))), (6, .int i_12), (5, .ref b2), (4, .ref a), (3, .int (nI mm)), (2, .int p1), (1, .int p0), (0, .ref x)]) hx hb dX5_both_64 hl (k := 1) rfl (nI_1 _) (by decide) rfl (fun ls hl => ?_)
        refine lv_goto (tgt := 24) hx hb dX5_both_67 (by decide) ?_
        have hl := lv_sub hl [0, 1, 2, 3, 4, 5, 6, 7] rfl
        exact ih_24 _ (by omega) H locs ls ⟨u + 1, _, x_6, rfl, by omega, hE_6, hP, hD, hS, hl⟩

set_option maxRecDepth 100000 in
set_option maxHeartbeats 4000000 in
theorem c_both_1 (l : Launch) (hst : l.stackTraces = false) (D : va_G) (cA : Nat → ClassId) (sz : Nat) (S : Pool) (x : Nat) (hx5 : isO S x 5) (ar : Nat) (hq0 : gQ S x 0 = some ar) (ak : Nat) (hq1 : gQ S x 1 = some ak) (hak : isO S ak 1) (hR : okR S ar) (j : Nat) (hj : j < 8) (a : Nat) (hja : gP S ar j = some a) (p0 : Int32) (hsw : kSw S ar p0 = some a) (j2 : Nat) (hj2 : j2 < 8) (b2 : Nat) (hjb : gP S ar j2 = some b2) (p1 : Int32) (hs2 : kSw S ar p1 = some b2) (p2 : Int32) (h1 : kOut p2 1 200 = 1) : vx_Met l yX5_both (Cond.code yX5_both cX5_both 8 (some .int) :: TT) ({ frames := 7, cells := 1, slots := 6, locals := 102 }) (va_Pc [.ref x, .int p0, .int p1, .int p2] (kPreX D cA (PW cA S) sz)) kNo (kXC D cA (PW cA S) "java/lang/IllegalArgumentException" (va_A (PW cA S) sz)) 1 6 (va_A (PW cA S) sz) := by
  refine vx_ofW (cc := cX5_both) (maxL := 8) (ret := (some .int)) (by decide) rfl ?_
  intro p e s m args below meth c s₁ B hml hTab hv
  obtain ⟨rfl, ⟨hsz, hP, hK, hD0, hTB⟩, hTX⟩ := hv
  have hx := B.exec
  have hb := B.bytes
  have hr := B.returns
  have hts := atoms_spec (ws := Cond.code yX5_both cX5_both 8 (some .int) :: TT) B.pre
  have htT : ∀ w ∈ TT, w.before _ s = true := fun w h => hts w (List.mem_cons_of_mem _ h)
  have hown : s.vm.findClass RX5 = some m.cls := findClass_of_methodNamed B.named
  have hlocks := B.notSynchronized
  subst hsz
  have hD := hD0.self (sz := s.heap.size)
  generalize hAe : va_A (PW cA S) s.heap.size = A at hD hTX ⊢
  have hA : ∀ q : Nat, s.heap.size ≤ q → A q := fun q h => by rw [← hAe]; exact Or.inr h
  have hS : va_S A s.heap s.heap [] := va_S.rf
  have hl := lv_entry ([.ref x, .int p0, .int p1, .int p2]) (n := 8) (Nat.le_of_ble_eq_true rfl)
  rw [lg_entry_eq]
  generalize (lg_sl ([.ref x, .int p0, .int p1, .int p2]) ++ List.replicate (8 - (lg_sl ([.ref x, .int p0, .int p1, .int p2])).length) Slot.unset).toArray = ls at hl ⊢
  have hl : lv_has ls 8 [(0, .ref x), (1, .int p0), (2, .int p1), (3, .int p2)] := hl
  refine lv_aload_n hx hb dX5_both_0 rfl (lv_at hl 0 rfl) ?_
  refine lv_iload_n hx hb dX5_both_1 rfl (lv_at hl 1 rfl) ?_
  refine kc_q (va_runV (As := [.int p0]) (rest := []) ⟨hx, hb, hml, hown, htT⟩ (c_known l D cA _ S x hx5 ar hq0 hR.1 p0 a hsw) (cwV 1 htT (kg_V m_ml_X5_45 m_im_X5_known m_sl_X5_known m_in_X5 m_cd_X5_known) rfl rfl rfl (by decide +kernel) ⟨Nat.le_of_ble_eq_true rfl, Nat.le_of_ble_eq_true rfl⟩) (kp_V hK hP hD hTB (kp_rc hK hP hx5 (Nat.le_of_ble_eq_true rfl) rfl)) rfl rfl hl.1 rfl (lv_room (Nat.le_of_ble_eq_true rfl)) dX5_both_2 ⟨Nat.le_of_ble_eq_true rfl, Nat.le_of_ble_eq_true rfl⟩) hD hS hA (fun r_1 x_1 H locs hq_1 hP hD hS => ?_)
  rw [hq_1.1]
  rw [hq_1.2] at hP hD
  refine lv_astore (lv' := [(4, .ref a), (0, .ref x), (1, .int p0), (2, .int p1), (3, .int p2)]) hx hb dX5_both_5 hl (by decide) rfl (fun ls hl => ?_)
  refine lv_aload_n hx hb dX5_both_7 rfl (lv_at hl 1 rfl) ?_
  refine lv_iload_n hx hb dX5_both_8 rfl (lv_at hl 3 rfl) ?_
  refine kc_q (va_runV (As := [.int p1]) (rest := []) ⟨hx, hb, hml, hown, htT⟩ (c_known l D cA _ S x hx5 ar hq0 hR.1 p1 b2 hs2) (cwV 1 htT (kg_V m_ml_X5_45 m_im_X5_known m_sl_X5_known m_in_X5 m_cd_X5_known) rfl rfl rfl (by decide +kernel) ⟨Nat.le_of_ble_eq_true rfl, Nat.le_of_ble_eq_true rfl⟩) (kp_V hK hP hD hTB (kp_rc hK hP hx5 (Nat.le_of_ble_eq_true rfl) rfl)) rfl rfl hl.1 rfl (lv_room (Nat.le_of_ble_eq_true rfl)) dX5_both_9 ⟨Nat.le_of_ble_eq_true rfl, Nat.le_of_ble_eq_true rfl⟩) hD hS hA (fun r_2 x_2 H locs hq_2 hP hD hS => ?_)
  rw [hq_2.1]
  rw [hq_2.2] at hP hD
  refine lv_astore (lv' := [(5, .ref b2), (4, .ref a), (0, .ref x), (1, .int p0), (2, .int p1), (3, .int p2)]) hx hb dX5_both_12 hl (by decide) rfl (fun ls hl => ?_)
  refine lv_iload_n hx hb dX5_both_14 rfl (lv_at hl 5 rfl) ?_
  refine kt_call (vx_runS (As := [.int p2]) (rest := []) ⟨hx, hb, hml, hown, htT⟩ (c_checkMany_t l hst D cA _ S p2 h1) (cwS 1 htT (kg_S m_ml_X5_230 m_st_X5_checkMany m_in_X5 m_cd_X5_checkMany) rfl rfl rfl (by decide +kernel) ⟨Nat.le_of_ble_eq_true rfl, Nat.le_of_ble_eq_true rfl⟩) (kp_SX hK hP hD hTB hTX hS hA) rfl rfl hl.1 rfl (lv_room (Nat.le_of_ble_eq_true rfl)) dX5_both_15 ⟨Nat.le_of_ble_eq_true rfl, Nat.le_of_ble_eq_true rfl⟩) hD hS hA (fun ce q9 H locs hP hD hS hce hcv hcl => ?_)
  exact kt_out hTab hlocks hK hP hD hS hce hcv hcl (Nat.le_of_ble_eq_true rfl) (Nat.le_of_ble_eq_true rfl)

set_option maxRecDepth 100000 in
set_option maxHeartbeats 4000000 in
theorem c_both_o (l : Launch) (hst : l.stackTraces = false) (D : va_G) (cA : Nat → ClassId) (sz : Nat) (S : Pool) (x : Nat) (hx5 : isO S x 5) (ar : Nat) (hq0 : gQ S x 0 = some ar) (ak : Nat) (hq1 : gQ S x 1 = some ak) (hak : isO S ak 1) (hR : okR S ar) (j : Nat) (hj : j < 8) (a : Nat) (hja : gP S ar j = some a) (p0 : Int32) (hsw : kSw S ar p0 = some a) (p1 p2 : Int32) (hs2 : kSw S ar p1 = none) : vx_Met l yX5_both (Cond.code yX5_both cX5_both 8 (some .int) :: TT) ({ frames := 7, cells := 1, slots := 6, locals := 104 }) (va_Pc [.ref x, .int p0, .int p1, .int p2] (kPreX D cA (PW cA S) sz)) kNo (kXC D cA (PW cA S) "java/lang/IndexOutOfBoundsException" (va_A (PW cA S) sz)) 1 6 (va_A (PW cA S) sz) := by
  refine vx_ofW (cc := cX5_both) (maxL := 8) (ret := (some .int)) (by decide) rfl ?_
  intro p e s m args below meth c s₁ B hml hTab hv
  obtain ⟨rfl, ⟨hsz, hP, hK, hD0, hTB⟩, hTX⟩ := hv
  have hx := B.exec
  have hb := B.bytes
  have hr := B.returns
  have hts := atoms_spec (ws := Cond.code yX5_both cX5_both 8 (some .int) :: TT) B.pre
  have htT : ∀ w ∈ TT, w.before _ s = true := fun w h => hts w (List.mem_cons_of_mem _ h)
  have hown : s.vm.findClass RX5 = some m.cls := findClass_of_methodNamed B.named
  have hlocks := B.notSynchronized
  subst hsz
  have hD := hD0.self (sz := s.heap.size)
  generalize hAe : va_A (PW cA S) s.heap.size = A at hD hTX ⊢
  have hA : ∀ q : Nat, s.heap.size ≤ q → A q := fun q h => by rw [← hAe]; exact Or.inr h
  have hS : va_S A s.heap s.heap [] := va_S.rf
  have hl := lv_entry ([.ref x, .int p0, .int p1, .int p2]) (n := 8) (Nat.le_of_ble_eq_true rfl)
  rw [lg_entry_eq]
  generalize (lg_sl ([.ref x, .int p0, .int p1, .int p2]) ++ List.replicate (8 - (lg_sl ([.ref x, .int p0, .int p1, .int p2])).length) Slot.unset).toArray = ls at hl ⊢
  have hl : lv_has ls 8 [(0, .ref x), (1, .int p0), (2, .int p1), (3, .int p2)] := hl
  refine lv_aload_n hx hb dX5_both_0 rfl (lv_at hl 0 rfl) ?_
  refine lv_iload_n hx hb dX5_both_1 rfl (lv_at hl 1 rfl) ?_
  refine kc_q (va_runV (As := [.int p0]) (rest := []) ⟨hx, hb, hml, hown, htT⟩ (c_known l D cA _ S x hx5 ar hq0 hR.1 p0 a hsw) (cwV 1 htT (kg_V m_ml_X5_45 m_im_X5_known m_sl_X5_known m_in_X5 m_cd_X5_known) rfl rfl rfl (by decide +kernel) ⟨Nat.le_of_ble_eq_true rfl, Nat.le_of_ble_eq_true rfl⟩) (kp_V hK hP hD hTB (kp_rc hK hP hx5 (Nat.le_of_ble_eq_true rfl) rfl)) rfl rfl hl.1 rfl (lv_room (Nat.le_of_ble_eq_true rfl)) dX5_both_2 ⟨Nat.le_of_ble_eq_true rfl, Nat.le_of_ble_eq_true rfl⟩) hD hS hA (fun r_1 x_1 H locs hq_1 hP hD hS => ?_)
  rw [hq_1.1]
  rw [hq_1.2] at hP hD
  refine lv_astore (lv' := [(4, .ref a), (0, .ref x), (1, .int p0), (2, .int p1), (3, .int p2)]) hx hb dX5_both_5 hl (by decide) rfl (fun ls hl => ?_)
  refine lv_aload_n hx hb dX5_both_7 rfl (lv_at hl 1 rfl) ?_
  refine lv_iload_n hx hb dX5_both_8 rfl (lv_at hl 3 rfl) ?_
  refine kt_call (vx_runV (As := [.int p1]) (rest := []) ⟨hx, hb, hml, hown, htT⟩ (c_known_t l hst D cA _ S x hx5 ar hq0 hR.1 p1 hs2) (cwV 1 htT (kg_V m_ml_X5_45 m_im_X5_known m_sl_X5_known m_in_X5 m_cd_X5_known) rfl rfl rfl (by decide +kernel) ⟨Nat.le_of_ble_eq_true rfl, Nat.le_of_ble_eq_true rfl⟩) (kp_VX hK hP hD hTB hTX hS hA (kp_rc hK hP hx5 (Nat.le_of_ble_eq_true rfl) rfl)) rfl rfl hl.1 rfl (lv_room (Nat.le_of_ble_eq_true rfl)) dX5_both_9 ⟨Nat.le_of_ble_eq_true rfl, Nat.le_of_ble_eq_true rfl⟩) hD hS hA (fun ce q9 H locs hP hD hS hce hcv hcl => ?_)
  exact kt_out hTab hlocks hK hP hD hS hce hcv hcl (Nat.le_of_ble_eq_true rfl) (Nat.le_of_ble_eq_true rfl)

set_option maxRecDepth 100000 in
set_option maxHeartbeats 4000000 in
/-- wouldChange -/
theorem c_wouldChange (l : Launch) (D : va_G) (cA : Nat → ClassId) (sz : Nat) (S : Pool) (x : Nat) (hx5 : isO S x 5) (ar : Nat) (hq0 : gQ S x 0 = some ar) (ak : Nat) (hq1 : gQ S x 1 = some ak) (hak : isO S ak 1) (hR : okR S ar) (j : Nat) (hj : j < 8) (a : Nat) (hja : gP S ar j = some a) (p0 : Int32) (hsw : kSw S ar p0 = some a) (p1 : Int32) (h2 : kOut p1 0 1000 = 0) (mm : Nat) (hm1 : 1 ≤ mm) (hmm : mm ≤ 200) (h1 : kOut (nI mm) 1 200 = 0)  : Met l yX5_wouldChange (Cond.code yX5_wouldChange cX5_wouldChange 8 (some .int) :: TT) ({ frames := 26, cells := 0, slots := 0, locals := 620 }) (va_Pc [.ref x, .int p0, .int p1, .int (nI mm)] (kPre D cA (PW cA S) sz)) (va_Qi (fun (r_ : Int32) (x_ : Pool) => eqA S x_ ak) (fun x_ => kB D cA (va_A (PW cA S) sz) (PW cA x_)) (va_A (PW cA S) sz)) 0 0 (va_A (PW cA S) sz) := by
  refine Met.ofW (cc := cX5_wouldChange) (maxL := 8) (ret := (some .int)) (by decide) rfl ?_
  intro p e s m args below meth c s₁ B hml hv
  obtain ⟨rfl, hsz, hP, hK, hD0, hTB⟩ := hv
  have hx := B.exec
  have hb := B.bytes
  have hr := B.returns
  have hts := atoms_spec (ws := Cond.code yX5_wouldChange cX5_wouldChange 8 (some .int) :: TT) B.pre
  have htT : ∀ w ∈ TT, w.before _ s = true := fun w h => hts w (List.mem_cons_of_mem _ h)
  have hown : s.vm.findClass RX5 = some m.cls := findClass_of_methodNamed B.named
  have hlocks := B.notSynchronized
  subst hsz
  have hD := hD0.self (sz := s.heap.size)
  generalize hAe : va_A (PW cA S) s.heap.size = A at hD ⊢
  have hA : ∀ q : Nat, s.heap.size ≤ q → A q := fun q h => by rw [← hAe]; exact Or.inr h
  have hS : va_S A s.heap s.heap [] := va_S.rf
  have hl := lv_entry ([.ref x, .int p0, .int p1, .int (nI mm)]) (n := 8) (Nat.le_of_ble_eq_true rfl)
  rw [lg_entry_eq]
  generalize (lg_sl ([.ref x, .int p0, .int p1, .int (nI mm)]) ++ List.replicate (8 - (lg_sl ([.ref x, .int p0, .int p1, .int (nI mm)])).length) Slot.unset).toArray = ls at hl ⊢
  have hl : lv_has ls 8 [(0, .ref x), (1, .int p0), (2, .int p1), (3, .int (nI mm))] := hl
  refine lv_aload_n hx hb dX5_wouldChange_0 rfl (lv_at hl 0 rfl) ?_
  refine lv_iload_n hx hb dX5_wouldChange_1 rfl (lv_at hl 1 rfl) ?_
  refine kc_q (va_runV (As := [.int p0]) (rest := []) ⟨hx, hb, hml, hown, htT⟩ (c_known l D cA _ S x hx5 ar hq0 hR.1 p0 a hsw) (cwV 1 htT (kg_V m_ml_X5_45 m_im_X5_known m_sl_X5_known m_in_X5 m_cd_X5_known) rfl rfl rfl (by decide +kernel) ⟨Nat.le_of_ble_eq_true rfl, Nat.le_of_ble_eq_true rfl⟩) (kp_V hK hP hD hTB (kp_rc hK hP hx5 (Nat.le_of_ble_eq_true rfl) rfl)) rfl rfl hl.1 rfl (lv_room (Nat.le_of_ble_eq_true rfl)) dX5_wouldChange_2 ⟨Nat.le_of_ble_eq_true rfl, Nat.le_of_ble_eq_true rfl⟩) hD hS hA (fun r_1 x_1 H locs hq_1 hP hD hS => ?_)
  rw [hq_1.1]
  rw [hq_1.2] at hP hD
  refine lv_astore (lv' := [(4, .ref a), (0, .ref x), (1, .int p0), (2, .int p1), (3, .int (nI mm))]) hx hb dX5_wouldChange_5 hl (by decide) rfl (fun ls hl => ?_)
  refine lv_iload_n hx hb dX5_wouldChange_7 rfl (lv_at hl 3 rfl) ?_
  refine lv_iconst (v := 0) hx hb dX5_wouldChange_8 (by decide) ?_
  refine lv_sipush (v := 1000) hx hb dX5_wouldChange_9 (by decide) ?_
  refine kc_i (va_runS (As := [.int p1, .int 0, .int 1000]) (rest := []) ⟨hx, hb, hml, hown, htT⟩ (c_isOutside l D cA _ S p1 0 1000) (cwS 3 htT (kg_S m_ml_X5_22 m_st_X5_isOutside m_in_X5 m_cd_X5_isOutside) rfl rfl rfl (by decide +kernel) ⟨Nat.le_of_ble_eq_true rfl, Nat.le_of_ble_eq_true rfl⟩) (kp_S hK hP hD hTB) rfl rfl hl.1 rfl (lv_room (Nat.le_of_ble_eq_true rfl)) dX5_wouldChange_12 ⟨Nat.le_of_ble_eq_true rfl, Nat.le_of_ble_eq_true rfl⟩) hD hS hA (fun r_2 x_2 H locs hq_2 hP hD hS => ?_)
  rw [hq_2.1.trans h2]
  rw [hq_2.2] at hP hD
  refine lv_if_eq (tgt := 28) hx hb dX5_wouldChange_15 (by decide) (fun _ => ?_) (fun c_3 => absurd c_3 (by decide))
  refine lv_iload_n hx hb dX5_wouldChange_28 rfl (lv_at hl 4 rfl) ?_
  refine kc_v (va_runS (As := [.int (nI mm)]) (rest := []) ⟨hx, hb, hml, hown, htT⟩ (c_checkMany l D cA _ S (nI mm) h1) (cwS 1 htT (kg_S m_ml_X5_230 m_st_X5_checkMany m_in_X5 m_cd_X5_checkMany) rfl rfl rfl (by decide +kernel) ⟨Nat.le_of_ble_eq_true rfl, Nat.le_of_ble_eq_true rfl⟩) (kp_S hK hP hD hTB) rfl rfl hl.1 rfl (lv_room (Nat.le_of_ble_eq_true rfl)) dX5_wouldChange_29 ⟨Nat.le_of_ble_eq_true rfl, Nat.le_of_ble_eq_true rfl⟩) hD hS hA (fun x_4 H locs hq_4 hP hD hS => ?_)
  rw [hq_4] at hP hD
  refine lv_iconst (v := 0) hx hb dX5_wouldChange_32 (by decide) ?_
  refine lv_istore (lv' := [(5, .int 0), (4, .ref a), (0, .ref x), (1, .int p0), (2, .int p1), (3, .int (nI mm))]) hx hb dX5_wouldChange_33 hl (by decide) rfl (fun ls hl => ?_)
  refine lv_iconst (v := 0) hx hb dX5_wouldChange_35 (by decide) ?_
  refine lv_istore (lv' := [(6, .int 0), (5, .int 0), (4, .ref a), (0, .ref x), (1, .int p0), (2, .int p1), (3, .int (nI mm))]) hx hb dX5_wouldChange_36 hl (by decide) rfl (fun ls hl => ?_)
  refine kz_loop 38 (fun N9 H locs ls => ∃ (u : Nat) (acc : Int32) (T : Pool), N9 = mm - u ∧ u ≤ mm ∧ eqA S T ak ∧ va_P D vwCl (PW cA T) H ∧ va_D A (PW cA T) ∧ va_S A s.heap H locs ∧ lv_has ls 8 [(6, .int (nI u)), (5, .int acc), (4, .ref a), (3, .int (nI mm)), (2, .int p1), (1, .int p0), (0, .ref x)]) (fun N9 ih_38 H locs ls hI => ?_) ⟨0, 0, S, rfl, by omega, eqA.rf, hP, hD, hS, lv_sub hl [0, 1, 2, 6, 5, 4, 3] rfl⟩
  obtain ⟨u, acc, T, hn9, hu, hE, hP, hD, hS, hl⟩ := hI
  have hx5_5 := hE.o hx5
  have hak_5 := hE.o hak
  have hR_5 := hE.okR hak hR
  have hq0_5 := (hE.q x 0).trans hq0
  have hq1_5 := (hE.q x 1).trans hq1
  have hja_5 := (hE.p ar j).trans hja
  refine lv_iload hx hb dX5_wouldChange_38 (lv_at hl 0 rfl) ?_
  refine lv_iload_n hx hb dX5_wouldChange_40 rfl (lv_at hl 3 rfl) ?_
  refine lv_icmp_ge (tgt := 90) hx hb dX5_wouldChange_41 (by decide) (fun c_6 => ?_) (fun c_6 => ?_)
  · replace c_6 := (nI_leI (a := mm) (b := u) (by omega) (by omega)).mp c_6
    refine lv_iload hx hb dX5_wouldChange_90 (lv_at hl 1 rfl) ?_
    exact W.iret (v := acc) hx hb hr (fun t ht hW => ⟨⟨acc, T, rfl, hE, by rw [ht]; exact hP, va_K.moved hW.alike hK, hD⟩, hS.F ht⟩) hS.2.2 dX5_wouldChange_92
  · replace c_6 : ¬ (mm ≤ u) := fun h9 => c_6 ((nI_leI (a := mm) (b := u) (by omega) (by omega)).mpr h9)
    refine lv_aload_n hx hb dX5_wouldChange_44 rfl (lv_at hl 6 rfl) ?_
    refine kx_gets hx hb htT m_u_X5 hown hK hP hx5_5 (Nat.le_of_ble_eq_true rfl) rfl 1 (by decide) (by decide) rfl hq1_5 (htT _ m_fl_X5_18) dX5_wouldChange_45 ?_
    refine lv_iload hx hb dX5_wouldChange_48 (lv_at hl 0 rfl) ?_
    refine kc_v (va_runV (As := [.int (nI u)]) (rest := []) ⟨hx, hb, hml, hown, htT⟩ (c_becomeCounted l D cA _ T ak hak_5 (nI u)) (cwV 1 htT (kg_V m_ml_X5_233 m_im_X1_becomeCounted m_sl_X1_becomeCounted m_in_X1 m_cd_X1_becomeCounted) rfl rfl rfl (by decide +kernel) ⟨Nat.le_of_ble_eq_true rfl, Nat.le_of_ble_eq_true rfl⟩) (kp_V hK hP hD hTB (kp_rc hK hP hak_5 (Nat.le_of_ble_eq_true rfl) rfl)) rfl rfl hl.1 rfl (lv_room (Nat.le_of_ble_eq_true rfl)) dX5_wouldChange_50 ⟨Nat.le_of_ble_eq_true rfl, Nat.le_of_ble_eq_true rfl⟩) hD hS hA (fun x_7 H locs hq_7 hP hD hS => ?_)
    have hE_7 : eqA S x_7 ak := by rw [hq_7]; exact hE.tr eqA.bec
    have hx5_8 := hE_7.o hx5
    have hak_8 := hE_7.o hak
    have hR_8 := hE_7.okR hak hR
    have hq0_8 := (hE_7.q x 0).trans hq0
    have hq1_8 := (hE_7.q x 1).trans hq1
    have hja_8 := (hE_7.p ar j).trans hja
    refine lv_aload_n hx hb dX5_wouldChange_53 rfl (lv_at hl 6 rfl) ?_
    refine lv_aload hx hb dX5_wouldChange_54 (lv_at hl 2 rfl) ?_
    refine kc_i (va_runV (As := [.ref a]) (rest := []) ⟨hx, hb, hml, hown, htT⟩ (c_PV l D cA x_7 x hx5_8 ar hq0_8 ak hq1_8 hak_8 hR_8 7 _ j a hj (by omega) hja_8) (cwV 1 htT (kg_V m_ml_X5_151 m_im_X5_variantOf m_sl_X5_variantOf m_in_X5 m_cd_X5_variantOf) rfl rfl rfl (by decide +kernel) ⟨Nat.le_of_ble_eq_true rfl, Nat.le_of_ble_eq_true rfl⟩) (kp_V hK hP hD hTB (kp_rc hK hP hx5_8 (Nat.le_of_ble_eq_true rfl) rfl)) rfl rfl hl.1 rfl (lv_room (Nat.le_of_ble_eq_true rfl)) dX5_wouldChange_56 ⟨Nat.le_of_ble_eq_true rfl, Nat.le_of_ble_eq_true rfl⟩) hD hS hA (fun r_9 x_9 H locs hq_9 hP hD hS => ?_)
    rw [hq_9.2] at hP hD
    refine lv_istore (lv' := [(7, .int r_9), (6, .int (nI u)), (5, .int acc), (4, .ref a), (3, .int (nI mm)), (2, .int p1), (1, .int p0), (0, .ref x)]) hx hb dX5_wouldChange_59 hl (by decide) rfl (fun ls hl => ?_)
    refine lv_aload_n hx hb dX5_wouldChange_61 rfl (lv_at hl 7 rfl) ?_
    refine kx_gets hx hb htT m_u_X5 hown hK hP hx5_8 (Nat.le_of_ble_eq_true rfl) rfl 1 (by decide) (by decide) rfl hq1_8 (htT _ m_fl_X5_18) dX5_wouldChange_62 ?_
    refine lv_iload_n hx hb dX5_wouldChange_65 rfl (lv_at hl 6 rfl) ?_
    refine lv_iload_n hx hb dX5_wouldChange_66 rfl (lv_at hl 5 rfl) ?_
    refine kc_v (va_runV (As := [.int p0, .int p1]) (rest := []) ⟨hx, hb, hml, hown, htT⟩ (c_supposeRamp l D cA _ x_7 ak hak_8 p0 p1) (cwV 2 htT (kg_V m_ml_X5_238 m_im_X1_supposeRamp m_sl_X1_supposeRamp m_in_X1 m_cd_X1_supposeRamp) rfl rfl rfl (by decide +kernel) ⟨Nat.le_of_ble_eq_true rfl, Nat.le_of_ble_eq_true rfl⟩) (kp_V hK hP hD hTB (kp_rc hK hP hak_8 (Nat.le_of_ble_eq_true rfl) rfl)) rfl rfl hl.1 rfl (lv_room (Nat.le_of_ble_eq_true rfl)) dX5_wouldChange_67 ⟨Nat.le_of_ble_eq_true rfl, Nat.le_of_ble_eq_true rfl⟩) hD hS hA (fun x_10 H locs hq_10 hP hD hS => ?_)
    have hE_10 : eqA S x_10 ak := by rw [hq_10]; exact hE_7.tr (eqA.pI.tr eqA.pI)
    have hx5_11 := hE_10.o hx5
    have hak_11 := hE_10.o hak
    have hR_11 := hE_10.okR hak hR
    have hq0_11 := (hE_10.q x 0).trans hq0
    have hq1_11 := (hE_10.q x 1).trans hq1
    have hja_11 := (hE_10.p ar j).trans hja
    refine lv_aload_n hx hb dX5_wouldChange_70 rfl (lv_at hl 7 rfl) ?_
    refine lv_aload hx hb dX5_wouldChange_71 (lv_at hl 3 rfl) ?_
    refine kc_i (va_runV (As := [.ref a]) (rest := []) ⟨hx, hb, hml, hown, htT⟩ (c_PV l D cA x_10 x hx5_11 ar hq0_11 ak hq1_11 hak_11 hR_11 7 _ j a hj (by omega) hja_11) (cwV 1 htT (kg_V m_ml_X5_151 m_im_X5_variantOf m_sl_X5_variantOf m_in_X5 m_cd_X5_variantOf) rfl rfl rfl (by decide +kernel) ⟨Nat.le_of_ble_eq_true rfl, Nat.le_of_ble_eq_true rfl⟩) (kp_V hK hP hD hTB (kp_rc hK hP hx5_11 (Nat.le_of_ble_eq_true rfl) rfl)) rfl rfl hl.1 rfl (lv_room (Nat.le_of_ble_eq_true rfl)) dX5_wouldChange_73 ⟨Nat.le_of_ble_eq_true rfl, Nat.le_of_ble_eq_true rfl⟩) hD hS hA (fun r_12 x_12 H locs hq_12 hP hD hS => ?_)
    rw [hq_12.2] at hP hD
    refine lv_iload hx hb dX5_wouldChange_76 (lv_at hl 0 rfl) ?_
    refine lv_icmp_eq (tgt := 84) hx hb dX5_wouldChange_78 (by decide) (fun c_13 => ?_) (fun c_13 => ?_)
    · refine lv_iinc (v := nI (u + 1)) (lv' := [(6, .int (nI (u + 1))), (7, .int r_9), (5, .int acc), (4, .ref a), (3, .int (nI mm)), (2, .int p1), (1, .int p0), (0, .ref x)]) hx hb dX5_wouldChange_84 hl (k := 1) rfl (nI_1 _) (by decide) rfl (fun ls hl => ?_)
      refine lv_goto (tgt := 38) hx hb dX5_wouldChange_87 (by decide) ?_
      have hl := lv_sub hl [0, 2, 3, 4, 5, 6, 7] rfl
      exact ih_38 _ (by omega) H locs ls ⟨u + 1, _, x_10, rfl, by omega, hE_10, hP, hD, hS, hl⟩
    · obtain ⟨i_14, ei_14⟩ : ∃ y : Int32, y = acc + 1 := ⟨_, rfl⟩
      refine lv_iinc (v := i_14) (lv' := [(5, .int i_14), (7, .int r_9), (6, .int (nI u)), (4, .ref a), (3, .int (nI mm)), (2, .int p1), (1, .int p0), (0, .ref x)]) hx hb dX5_wouldChange_81 hl (k := 2) rfl (by rw [ei_14]; rfl) (by decide) rfl (fun ls hl => ?_)
      refine lv_iinc (v := nI (u + 1)) (lv' := [(6, .int (nI (u + 1))), (5, .int i_14), (7, .int r_9), (4, .ref a), (3, .int (nI mm)), (2, .int p1), (1, .int p0), (0, .ref x)]) hx hb dX5_wouldChange_84 hl (k := 2) rfl (nI_1 _) (by decide) rfl (fun ls hl => ?_)
      refine lv_goto (tgt := 38) hx hb dX5_wouldChange_87 (by decide) ?_
      have hl := lv_sub hl [0, 1, 3, 4, 5, 6, 7] rfl
      exact ih_38 _ (by omega) H locs ls ⟨u + 1, _, x_10, rfl, by omega, hE_10, hP, hD, hS, hl⟩

set_option maxRecDepth 100000 in
set_option maxHeartbeats 4000000 in
theorem c_wouldChange_1 (l : Launch) (hst : l.stackTraces = false) (D : va_G) (cA : Nat → ClassId) (sz : Nat) (S : Pool) (x : Nat) (hx5 : isO S x 5) (ar : Nat) (hq0 : gQ S x 0 = some ar) (ak : Nat) (hq1 : gQ S x 1 = some ak) (hak : isO S ak 1) (hR : okR S ar) (j : Nat) (hj : j < 8) (a : Nat) (hja : gP S ar j = some a) (p0 : Int32) (hsw : kSw S ar p0 = some a) (p1 p2 : Int32) (h1 : kOut p1 0 1000 = 1) : vx_Met l yX5_wouldChange (Cond.code yX5_wouldChange cX5_wouldChange 8 (some .int) :: TT) ({ frames := 6, cells := 1, slots := 6, locals := 82 }) (va_Pc [.ref x, .int p0, .int p1, .int p2] (kPreX D cA (PW cA S) sz)) kNo (kXC D cA (PW cA S) "java/lang/IllegalArgumentException" (va_A (PW cA S) sz)) 1 6 (va_A (PW cA S) sz) := by
  refine vx_ofW (cc := cX5_wouldChange) (maxL := 8) (ret := (some .int)) (by decide) rfl ?_
  intro p e s m args below meth c s₁ B hml hTab hv
  obtain ⟨rfl, ⟨hsz, hP, hK, hD0, hTB⟩, hTX⟩ := hv
  have hx := B.exec
  have hb := B.bytes
  have hr := B.returns
  have hts := atoms_spec (ws := Cond.code yX5_wouldChange cX5_wouldChange 8 (some .int) :: TT) B.pre
  have htT : ∀ w ∈ TT, w.before _ s = true := fun w h => hts w (List.mem_cons_of_mem _ h)
  have hown : s.vm.findClass RX5 = some m.cls := findClass_of_methodNamed B.named
  have hlocks := B.notSynchronized
  subst hsz
  have hD := hD0.self (sz := s.heap.size)
  generalize hAe : va_A (PW cA S) s.heap.size = A at hD hTX ⊢
  have hA : ∀ q : Nat, s.heap.size ≤ q → A q := fun q h => by rw [← hAe]; exact Or.inr h
  have hS : va_S A s.heap s.heap [] := va_S.rf
  have hl := lv_entry ([.ref x, .int p0, .int p1, .int p2]) (n := 8) (Nat.le_of_ble_eq_true rfl)
  rw [lg_entry_eq]
  generalize (lg_sl ([.ref x, .int p0, .int p1, .int p2]) ++ List.replicate (8 - (lg_sl ([.ref x, .int p0, .int p1, .int p2])).length) Slot.unset).toArray = ls at hl ⊢
  have hl : lv_has ls 8 [(0, .ref x), (1, .int p0), (2, .int p1), (3, .int p2)] := hl
  refine lv_aload_n hx hb dX5_wouldChange_0 rfl (lv_at hl 0 rfl) ?_
  refine lv_iload_n hx hb dX5_wouldChange_1 rfl (lv_at hl 1 rfl) ?_
  refine kc_q (va_runV (As := [.int p0]) (rest := []) ⟨hx, hb, hml, hown, htT⟩ (c_known l D cA _ S x hx5 ar hq0 hR.1 p0 a hsw) (cwV 1 htT (kg_V m_ml_X5_45 m_im_X5_known m_sl_X5_known m_in_X5 m_cd_X5_known) rfl rfl rfl (by decide +kernel) ⟨Nat.le_of_ble_eq_true rfl, Nat.le_of_ble_eq_true rfl⟩) (kp_V hK hP hD hTB (kp_rc hK hP hx5 (Nat.le_of_ble_eq_true rfl) rfl)) rfl rfl hl.1 rfl (lv_room (Nat.le_of_ble_eq_true rfl)) dX5_wouldChange_2 ⟨Nat.le_of_ble_eq_true rfl, Nat.le_of_ble_eq_true rfl⟩) hD hS hA (fun r_1 x_1 H locs hq_1 hP hD hS => ?_)
  rw [hq_1.1]
  rw [hq_1.2] at hP hD
  refine lv_astore (lv' := [(4, .ref a), (0, .ref x), (1, .int p0), (2, .int p1), (3, .int p2)]) hx hb dX5_wouldChange_5 hl (by decide) rfl (fun ls hl => ?_)
  refine lv_iload_n hx hb dX5_wouldChange_7 rfl (lv_at hl 3 rfl) ?_
  refine lv_iconst (v := 0) hx hb dX5_wouldChange_8 (by decide) ?_
  refine lv_sipush (v := 1000) hx hb dX5_wouldChange_9 (by decide) ?_
  refine kc_i (va_runS (As := [.int p1, .int 0, .int 1000]) (rest := []) ⟨hx, hb, hml, hown, htT⟩ (c_isOutside l D cA _ S p1 0 1000) (cwS 3 htT (kg_S m_ml_X5_22 m_st_X5_isOutside m_in_X5 m_cd_X5_isOutside) rfl rfl rfl (by decide +kernel) ⟨Nat.le_of_ble_eq_true rfl, Nat.le_of_ble_eq_true rfl⟩) (kp_S hK hP hD hTB) rfl rfl hl.1 rfl (lv_room (Nat.le_of_ble_eq_true rfl)) dX5_wouldChange_12 ⟨Nat.le_of_ble_eq_true rfl, Nat.le_of_ble_eq_true rfl⟩) hD hS hA (fun r_2 x_2 H locs hq_2 hP hD hS => ?_)
  rw [hq_2.1.trans h1]
  rw [hq_2.2] at hP hD
  refine lv_if_eq (tgt := 28) hx hb dX5_wouldChange_15 (by decide) (fun c_3 => absurd c_3 (by decide)) (fun _ => ?_)
  exact kt_new (text := "share out of range") hx hb hst hown (Or.inl rfl) (htT _ m_cl_X5_26) (htT _ m_in_IllegalArgumentException) (by decide +kernel) (fun w h => htT w (at_IAE w h)) an_IAE (ag_IAE 26) hTB hTX hK hP hD hS (hl.1.trans hml.symm) dX5_wouldChange_18 dX5_wouldChange_21 dX5_wouldChange_22 dX5_wouldChange_24 dX5_wouldChange_27 hTab (Nat.le_of_ble_eq_true rfl) (Nat.le_of_ble_eq_true rfl) (Nat.le_of_ble_eq_true rfl) (Nat.le_of_ble_eq_true rfl) hlocks (Nat.le_of_ble_eq_true rfl) (Nat.le_of_ble_eq_true rfl)

set_option maxRecDepth 100000 in
set_option maxHeartbeats 4000000 in
theorem c_wouldChange_2 (l : Launch) (hst : l.stackTraces = false) (D : va_G) (cA : Nat → ClassId) (sz : Nat) (S : Pool) (x : Nat) (hx5 : isO S x 5) (ar : Nat) (hq0 : gQ S x 0 = some ar) (ak : Nat) (hq1 : gQ S x 1 = some ak) (hak : isO S ak 1) (hR : okR S ar) (j : Nat) (hj : j < 8) (a : Nat) (hja : gP S ar j = some a) (p0 : Int32) (hsw : kSw S ar p0 = some a) (p1 p2 : Int32) (h2 : kOut p1 0 1000 = 0) (h1 : kOut p2 1 200 = 1) : vx_Met l yX5_wouldChange (Cond.code yX5_wouldChange cX5_wouldChange 8 (some .int) :: TT) ({ frames := 7, cells := 1, slots := 6, locals := 102 }) (va_Pc [.ref x, .int p0, .int p1, .int p2] (kPreX D cA (PW cA S) sz)) kNo (kXC D cA (PW cA S) "java/lang/IllegalArgumentException" (va_A (PW cA S) sz)) 1 6 (va_A (PW cA S) sz) := by
  refine vx_ofW (cc := cX5_wouldChange) (maxL := 8) (ret := (some .int)) (by decide) rfl ?_
  intro p e s m args below meth c s₁ B hml hTab hv
  obtain ⟨rfl, ⟨hsz, hP, hK, hD0, hTB⟩, hTX⟩ := hv
  have hx := B.exec
  have hb := B.bytes
  have hr := B.returns
  have hts := atoms_spec (ws := Cond.code yX5_wouldChange cX5_wouldChange 8 (some .int) :: TT) B.pre
  have htT : ∀ w ∈ TT, w.before _ s = true := fun w h => hts w (List.mem_cons_of_mem _ h)
  have hown : s.vm.findClass RX5 = some m.cls := findClass_of_methodNamed B.named
  have hlocks := B.notSynchronized
  subst hsz
  have hD := hD0.self (sz := s.heap.size)
  generalize hAe : va_A (PW cA S) s.heap.size = A at hD hTX ⊢
  have hA : ∀ q : Nat, s.heap.size ≤ q → A q := fun q h => by rw [← hAe]; exact Or.inr h
  have hS : va_S A s.heap s.heap [] := va_S.rf
  have hl := lv_entry ([.ref x, .int p0, .int p1, .int p2]) (n := 8) (Nat.le_of_ble_eq_true rfl)
  rw [lg_entry_eq]
  generalize (lg_sl ([.ref x, .int p0, .int p1, .int p2]) ++ List.replicate (8 - (lg_sl ([.ref x, .int p0, .int p1, .int p2])).length) Slot.unset).toArray = ls at hl ⊢
  have hl : lv_has ls 8 [(0, .ref x), (1, .int p0), (2, .int p1), (3, .int p2)] := hl
  refine lv_aload_n hx hb dX5_wouldChange_0 rfl (lv_at hl 0 rfl) ?_
  refine lv_iload_n hx hb dX5_wouldChange_1 rfl (lv_at hl 1 rfl) ?_
  refine kc_q (va_runV (As := [.int p0]) (rest := []) ⟨hx, hb, hml, hown, htT⟩ (c_known l D cA _ S x hx5 ar hq0 hR.1 p0 a hsw) (cwV 1 htT (kg_V m_ml_X5_45 m_im_X5_known m_sl_X5_known m_in_X5 m_cd_X5_known) rfl rfl rfl (by decide +kernel) ⟨Nat.le_of_ble_eq_true rfl, Nat.le_of_ble_eq_true rfl⟩) (kp_V hK hP hD hTB (kp_rc hK hP hx5 (Nat.le_of_ble_eq_true rfl) rfl)) rfl rfl hl.1 rfl (lv_room (Nat.le_of_ble_eq_true rfl)) dX5_wouldChange_2 ⟨Nat.le_of_ble_eq_true rfl, Nat.le_of_ble_eq_true rfl⟩) hD hS hA (fun r_1 x_1 H locs hq_1 hP hD hS => ?_)
  rw [hq_1.1]
  rw [hq_1.2] at hP hD
  refine lv_astore (lv' := [(4, .ref a), (0, .ref x), (1, .int p0), (2, .int p1), (3, .int p2)]) hx hb dX5_wouldChange_5 hl (by decide) rfl (fun ls hl => ?_)
  refine lv_iload_n hx hb dX5_wouldChange_7 rfl (lv_at hl 3 rfl) ?_
  refine lv_iconst (v := 0) hx hb dX5_wouldChange_8 (by decide) ?_
  refine lv_sipush (v := 1000) hx hb dX5_wouldChange_9 (by decide) ?_
  refine kc_i (va_runS (As := [.int p1, .int 0, .int 1000]) (rest := []) ⟨hx, hb, hml, hown, htT⟩ (c_isOutside l D cA _ S p1 0 1000) (cwS 3 htT (kg_S m_ml_X5_22 m_st_X5_isOutside m_in_X5 m_cd_X5_isOutside) rfl rfl rfl (by decide +kernel) ⟨Nat.le_of_ble_eq_true rfl, Nat.le_of_ble_eq_true rfl⟩) (kp_S hK hP hD hTB) rfl rfl hl.1 rfl (lv_room (Nat.le_of_ble_eq_true rfl)) dX5_wouldChange_12 ⟨Nat.le_of_ble_eq_true rfl, Nat.le_of_ble_eq_true rfl⟩) hD hS hA (fun r_2 x_2 H locs hq_2 hP hD hS => ?_)
  rw [hq_2.1.trans h2]
  rw [hq_2.2] at hP hD
  refine lv_if_eq (tgt := 28) hx hb dX5_wouldChange_15 (by decide) (fun _ => ?_) (fun c_3 => absurd c_3 (by decide))
  refine lv_iload_n hx hb dX5_wouldChange_28 rfl (lv_at hl 4 rfl) ?_
  refine kt_call (vx_runS (As := [.int p2]) (rest := []) ⟨hx, hb, hml, hown, htT⟩ (c_checkMany_t l hst D cA _ S p2 h1) (cwS 1 htT (kg_S m_ml_X5_230 m_st_X5_checkMany m_in_X5 m_cd_X5_checkMany) rfl rfl rfl (by decide +kernel) ⟨Nat.le_of_ble_eq_true rfl, Nat.le_of_ble_eq_true rfl⟩) (kp_SX hK hP hD hTB hTX hS hA) rfl rfl hl.1 rfl (lv_room (Nat.le_of_ble_eq_true rfl)) dX5_wouldChange_29 ⟨Nat.le_of_ble_eq_true rfl, Nat.le_of_ble_eq_true rfl⟩) hD hS hA (fun ce q9 H locs hP hD hS hce hcv hcl => ?_)
  exact kt_out hTab hlocks hK hP hD hS hce hcv hcl (Nat.le_of_ble_eq_true rfl) (Nat.le_of_ble_eq_true rfl)

set_option maxRecDepth 100000 in
set_option maxHeartbeats 4000000 in
/-- changesByTurning -/
theorem c_changesByTurning (l : Launch) (D : va_G) (cA : Nat → ClassId) (sz : Nat) (S : Pool) (x : Nat) (hx5 : isO S x 5) (ar : Nat) (hq0 : gQ S x 0 = some ar) (ak : Nat) (hq1 : gQ S x 1 = some ak) (hak : isO S ak 1) (hR : okR S ar) (n : Nat) (hn8 : n ≤ 8) (h2n : gI S x 2 = nI n) (i : Nat) (hi : i ≤ n) (u : Nat) (hu : u ≤ 9999) : Met l yX5_changesByTurning (Cond.code yX5_changesByTurning cX5_changesByTurning 6 (some .boolean) :: TT) ({ frames := 26, cells := 0, slots := 0, locals := 620 }) (va_Pc [.ref x, .int (nI i), .int (nI u)] (kPre D cA (PW cA S) sz)) (va_Qi (fun (r_ : Int32) (x_ : Pool) => eqA S x_ ak) (fun x_ => kB D cA (va_A (PW cA S) sz) (PW cA x_)) (va_A (PW cA S) sz)) 0 0 (va_A (PW cA S) sz) := by
  refine Met.ofW (cc := cX5_changesByTurning) (maxL := 6) (ret := (some .boolean)) (by decide) rfl ?_
  intro p e s m args below meth c s₁ B hml hv
  obtain ⟨rfl, hsz, hP, hK, hD0, hTB⟩ := hv
  have hx := B.exec
  have hb := B.bytes
  have hr := B.returns
  have hts := atoms_spec (ws := Cond.code yX5_changesByTurning cX5_changesByTurning 6 (some .boolean) :: TT) B.pre
  have htT : ∀ w ∈ TT, w.before _ s = true := fun w h => hts w (List.mem_cons_of_mem _ h)
  have hown : s.vm.findClass RX5 = some m.cls := findClass_of_methodNamed B.named
  have hlocks := B.notSynchronized
  subst hsz
  have hD := hD0.self (sz := s.heap.size)
  generalize hAe : va_A (PW cA S) s.heap.size = A at hD ⊢
  have hA : ∀ q : Nat, s.heap.size ≤ q → A q := fun q h => by rw [← hAe]; exact Or.inr h
  have hS : va_S A s.heap s.heap [] := va_S.rf
  have hl := lv_entry ([.ref x, .int (nI i), .int (nI u)]) (n := 6) (Nat.le_of_ble_eq_true rfl)
  rw [lg_entry_eq]
  generalize (lg_sl ([.ref x, .int (nI i), .int (nI u)]) ++ List.replicate (6 - (lg_sl ([.ref x, .int (nI i), .int (nI u)])).length) Slot.unset).toArray = ls at hl ⊢
  have hl : lv_has ls 6 [(0, .ref x), (1, .int (nI i)), (2, .int (nI u))] := hl
  refine lv_iload_n hx hb dX5_changesByTurning_0 rfl (lv_at hl 1 rfl) ?_
  refine lv_istore_n (lv' := [(3, .int (nI i)), (0, .ref x), (1, .int (nI i)), (2, .int (nI u))]) hx hb dX5_changesByTurning_1 rfl hl (by decide) rfl (fun ls hl => ?_)
  refine kz_loop 2 (fun N9 H locs ls => ∃ (k : Nat) (T : Pool), N9 = n - k ∧ k ≤ n ∧ eqA S T ak ∧ va_P D vwCl (PW cA T) H ∧ va_D A (PW cA T) ∧ va_S A s.heap H locs ∧ lv_has ls 6 [(3, .int (nI k)), (2, .int (nI u)), (1, .int (nI i)), (0, .ref x)]) (fun N9 ih_2 H locs ls hI => ?_) ⟨i, S, rfl, by omega, eqA.rf, hP, hD, hS, lv_sub hl [0, 3, 2, 1] rfl⟩
  obtain ⟨k, T, hn9, hk, hE, hP, hD, hS, hl⟩ := hI
  have hx5_1 := hE.o hx5
  have hak_1 := hE.o hak
  have hR_1 := hE.okR hak hR
  have hq0_1 := (hE.q x 0).trans hq0
  have hq1_1 := (hE.q x 1).trans hq1
  have h2n_2 : gI T x 2 = nI n := (hE.i hak hx5 (by decide) 2).trans h2n
  refine lv_iload_n hx hb dX5_changesByTurning_2 rfl (lv_at hl 0 rfl) ?_
  refine lv_aload_n hx hb dX5_changesByTurning_3 rfl (lv_at hl 3 rfl) ?_
  refine kx_getiv hx hb htT m_u_X5 hown hK hP hx5_1 (Nat.le_of_ble_eq_true rfl) rfl 2 (by decide) (by decide) rfl (htT _ m_fl_X5_33) h2n_2 dX5_changesByTurning_4 ?_
  refine lv_icmp_ge (tgt := 67) hx hb dX5_changesByTurning_7 (by decide) (fun c_3 => ?_) (fun c_3 => ?_)
  · replace c_3 := (nI_leI (a := n) (b := k) (by omega) (by omega)).mp c_3
    refine lv_iconst (v := 0) hx hb dX5_changesByTurning_67 (by decide) ?_
    exact W.zret (v := 0) hx hb hr (rfl) (fun t ht hW => ⟨⟨0, T, rfl, hE, by rw [ht]; exact hP, va_K.moved hW.alike hK, hD⟩, hS.F ht⟩) hS.2.2 dX5_changesByTurning_68
  · replace c_3 : ¬ (n ≤ k) := fun h9 => c_3 ((nI_leI (a := n) (b := k) (by omega) (by omega)).mpr h9)
    refine lv_aload_n hx hb dX5_changesByTurning_10 rfl (lv_at hl 3 rfl) ?_
    refine lv_iload_n hx hb dX5_changesByTurning_11 rfl (lv_at hl 0 rfl) ?_
    refine kc_q (va_runV (As := [.int (nI k)]) (rest := []) ⟨hx, hb, hml, hown, htT⟩ (c_switchAt l D cA _ T x hx5_1 ar hq0_1 hR_1.1 (nI k)) (cwV 1 htT (kg_V m_ml_X5_301 m_im_X5_switchAt m_sl_X5_switchAt m_in_X5 m_cd_X5_switchAt) rfl rfl rfl (by decide +kernel) ⟨Nat.le_of_ble_eq_true rfl, Nat.le_of_ble_eq_true rfl⟩) (kp_V hK hP hD hTB (kp_rc hK hP hx5_1 (Nat.le_of_ble_eq_true rfl) rfl)) rfl rfl hl.1 rfl (lv_room (Nat.le_of_ble_eq_true rfl)) dX5_changesByTurning_12 ⟨Nat.le_of_ble_eq_true rfl, Nat.le_of_ble_eq_true rfl⟩) hD hS hA (fun r_4 x_4 H locs hq_4 hP hD hS => ?_)
    rw [hq_4.1]
    rw [hq_4.2] at hP hD
    rcases hsk : kSw T ar (nI k) with _ | y_9
    · refine lv_astoreN (lv' := [(4, .null), (3, .int (nI k)), (2, .int (nI u)), (1, .int (nI i)), (0, .ref x)]) hx hb dX5_changesByTurning_15 hl (by decide) rfl (fun ls hl => ?_)
      refine lv_aloadN hx hb dX5_changesByTurning_17 (lv_at hl 0 rfl) ?_
      refine lv_ifnonnullN hx hb dX5_changesByTurning_19 ?_
      refine lv_iconst (v := 0) hx hb dX5_changesByTurning_22 (by decide) ?_
      exact W.zret (v := 0) hx hb hr (rfl) (fun t ht hW => ⟨⟨0, T, rfl, hE, by rw [ht]; exact hP, va_K.moved hW.alike hK, hD⟩, hS.F ht⟩) hS.2.2 dX5_changesByTurning_23
    · obtain ⟨j, hj, -, hja0⟩ := kSw_some hsk
      have hja : gP S ar j = some y_9 := (hE.p ar j).symm.trans hja0
      have hja_1 := hja0
      refine lv_astore (lv' := [(4, .ref y_9), (3, .int (nI k)), (2, .int (nI u)), (1, .int (nI i)), (0, .ref x)]) hx hb dX5_changesByTurning_15 hl (by decide) rfl (fun ls hl => ?_)
      refine lv_aload hx hb dX5_changesByTurning_17 (lv_at hl 0 rfl) ?_
      refine lv_ifnonnull (tgt := 24) hx hb dX5_changesByTurning_19 (by decide) ?_
      refine lv_aload_n hx hb dX5_changesByTurning_24 rfl (lv_at hl 4 rfl) ?_
      refine kx_gets hx hb htT m_u_X5 hown hK hP hx5_1 (Nat.le_of_ble_eq_true rfl) rfl 1 (by decide) (by decide) rfl hq1_1 (htT _ m_fl_X5_18) dX5_changesByTurning_25 ?_
      refine lv_iload_n hx hb dX5_changesByTurning_28 rfl (lv_at hl 2 rfl) ?_
      refine kc_v (va_runV (As := [.int (nI u)]) (rest := []) ⟨hx, hb, hml, hown, htT⟩ (c_becomeCounted l D cA _ T ak hak_1 (nI u)) (cwV 1 htT (kg_V m_ml_X5_233 m_im_X1_becomeCounted m_sl_X1_becomeCounted m_in_X1 m_cd_X1_becomeCounted) rfl rfl rfl (by decide +kernel) ⟨Nat.le_of_ble_eq_true rfl, Nat.le_of_ble_eq_true rfl⟩) (kp_V hK hP hD hTB (kp_rc hK hP hak_1 (Nat.le_of_ble_eq_true rfl) rfl)) rfl rfl hl.1 rfl (lv_room (Nat.le_of_ble_eq_true rfl)) dX5_changesByTurning_29 ⟨Nat.le_of_ble_eq_true rfl, Nat.le_of_ble_eq_true rfl⟩) hD hS hA (fun x_5 H locs hq_5 hP hD hS => ?_)
      have hE_5 : eqA S x_5 ak := by rw [hq_5]; exact hE.tr eqA.bec
      have hx5_6 := hE_5.o hx5
      have hak_6 := hE_5.o hak
      have hR_6 := hE_5.okR hak hR
      have hq0_6 := (hE_5.q x 0).trans hq0
      have hq1_6 := (hE_5.q x 1).trans hq1
      have hja_6 := (hE_5.p ar j).trans hja
      refine lv_aload_n hx hb dX5_changesByTurning_32 rfl (lv_at hl 4 rfl) ?_
      refine lv_aload hx hb dX5_changesByTurning_33 (lv_at hl 0 rfl) ?_
      refine kc_i (va_runV (As := [.ref y_9]) (rest := []) ⟨hx, hb, hml, hown, htT⟩ (c_PV l D cA x_5 x hx5_6 ar hq0_6 ak hq1_6 hak_6 hR_6 7 _ j y_9 hj (by omega) hja_6) (cwV 1 htT (kg_V m_ml_X5_151 m_im_X5_variantOf m_sl_X5_variantOf m_in_X5 m_cd_X5_variantOf) rfl rfl rfl (by decide +kernel) ⟨Nat.le_of_ble_eq_true rfl, Nat.le_of_ble_eq_true rfl⟩) (kp_V hK hP hD hTB (kp_rc hK hP hx5_6 (Nat.le_of_ble_eq_true rfl) rfl)) rfl rfl hl.1 rfl (lv_room (Nat.le_of_ble_eq_true rfl)) dX5_changesByTurning_35 ⟨Nat.le_of_ble_eq_true rfl, Nat.le_of_ble_eq_true rfl⟩) hD hS hA (fun r_7 x_7 H locs hq_7 hP hD hS => ?_)
      rw [hq_7.2] at hP hD
      refine lv_istore (lv' := [(5, .int r_7), (4, .ref y_9), (3, .int (nI k)), (2, .int (nI u)), (1, .int (nI i)), (0, .ref x)]) hx hb dX5_changesByTurning_38 hl (by decide) rfl (fun ls hl => ?_)
      refine lv_aload_n hx hb dX5_changesByTurning_40 rfl (lv_at hl 5 rfl) ?_
      refine kx_gets hx hb htT m_u_X5 hown hK hP hx5_6 (Nat.le_of_ble_eq_true rfl) rfl 1 (by decide) (by decide) rfl hq1_6 (htT _ m_fl_X5_18) dX5_changesByTurning_41 ?_
      refine lv_iload_n hx hb dX5_changesByTurning_44 rfl (lv_at hl 4 rfl) ?_
      refine kc_v (va_runV (As := [.int (nI i)]) (rest := []) ⟨hx, hb, hml, hown, htT⟩ (c_supposeTurned l D cA _ x_5 ak hak_6 (nI i)) (cwV 1 htT (kg_V m_ml_X5_356 m_im_X1_supposeTurned m_sl_X1_supposeTurned m_in_X1 m_cd_X1_supposeTurned) rfl rfl rfl (by decide +kernel) ⟨Nat.le_of_ble_eq_true rfl, Nat.le_of_ble_eq_true rfl⟩) (kp_V hK hP hD hTB (kp_rc hK hP hak_6 (Nat.le_of_ble_eq_true rfl) rfl)) rfl rfl hl.1 rfl (lv_room (Nat.le_of_ble_eq_true rfl)) dX5_changesByTurning_45 ⟨Nat.le_of_ble_eq_true rfl, Nat.le_of_ble_eq_true rfl⟩) hD hS hA (fun x_8 H locs hq_8 hP hD hS => ?_)
      have hE_8 : eqA S x_8 ak := by rw [hq_8]; exact hE_5.tr eqA.pI
      have hx5_9 := hE_8.o hx5
      have hak_9 := hE_8.o hak
      have hR_9 := hE_8.okR hak hR
      have hq0_9 := (hE_8.q x 0).trans hq0
      have hq1_9 := (hE_8.q x 1).trans hq1
      have hja_9 := (hE_8.p ar j).trans hja
      refine lv_aload_n hx hb dX5_changesByTurning_48 rfl (lv_at hl 5 rfl) ?_
      refine lv_aload hx hb dX5_changesByTurning_49 (lv_at hl 1 rfl) ?_
      refine kc_i (va_runV (As := [.ref y_9]) (rest := []) ⟨hx, hb, hml, hown, htT⟩ (c_PV l D cA x_8 x hx5_9 ar hq0_9 ak hq1_9 hak_9 hR_9 7 _ j y_9 hj (by omega) hja_9) (cwV 1 htT (kg_V m_ml_X5_151 m_im_X5_variantOf m_sl_X5_variantOf m_in_X5 m_cd_X5_variantOf) rfl rfl rfl (by decide +kernel) ⟨Nat.le_of_ble_eq_true rfl, Nat.le_of_ble_eq_true rfl⟩) (kp_V hK hP hD hTB (kp_rc hK hP hx5_9 (Nat.le_of_ble_eq_true rfl) rfl)) rfl rfl hl.1 rfl (lv_room (Nat.le_of_ble_eq_true rfl)) dX5_changesByTurning_51 ⟨Nat.le_of_ble_eq_true rfl, Nat.le_of_ble_eq_true rfl⟩) hD hS hA (fun r_10 x_10 H locs hq_10 hP hD hS => ?_)
      rw [hq_10.2] at hP hD
      refine lv_iload hx hb dX5_changesByTurning_54 (lv_at hl 0 rfl) ?_
      refine lv_icmp_eq (tgt := 61) hx hb dX5_changesByTurning_56 (by decide) (fun c_11 => ?_) (fun c_11 => ?_)
      · refine lv_iinc (v := nI (k + 1)) (lv' := [(3, .int (nI (k + 1))), (5, .int r_7), (4, .ref y_9), (2, .int (nI u)), (1, .int (nI i)), (0, .ref x)]) hx hb dX5_changesByTurning_61 hl (k := 2) rfl (nI_1 _) (by decide) rfl (fun ls hl => ?_)
        refine lv_goto (tgt := 2) hx hb dX5_changesByTurning_64 (by decide) ?_
        have hl := lv_sub hl [0, 3, 4, 5] rfl
        exact ih_2 _ (by omega) H locs ls ⟨k + 1, x_8, rfl, by omega, hE_8, hP, hD, hS, hl⟩
      · refine lv_iconst (v := 1) hx hb dX5_changesByTurning_59 (by decide) ?_
        exact W.zret (v := 1) hx hb hr (rfl) (fun t ht hW => ⟨⟨1, x_8, rfl, hE_8, by rw [ht]; exact hP, va_K.moved hW.alike hK, hD⟩, hS.F ht⟩) hS.2.2 dX5_changesByTurning_60

set_option maxRecDepth 100000 in
set_option maxHeartbeats 4000000 in
/-- wouldTurn -/
theorem c_wouldTurn (l : Launch) (D : va_G) (cA : Nat → ClassId) (sz : Nat) (S : Pool) (x : Nat) (hx5 : isO S x 5) (ar : Nat) (hq0 : gQ S x 0 = some ar) (ak : Nat) (hq1 : gQ S x 1 = some ak) (hak : isO S ak 1) (hR : okR S ar) (j : Nat) (hj : j < 8) (a : Nat) (hja : gP S ar j = some a) (i : Nat) (hsw : kSw S ar (nI i) = some a) (n : Nat) (hn8 : n ≤ 8) (h2n : gI S x 2 = nI n) (hi : i < n) (mm : Nat) (hm1 : 1 ≤ mm) (hmm : mm ≤ 200) (h1 : kOut (nI mm) 1 200 = 0)  : Met l yX5_wouldTurn (Cond.code yX5_wouldTurn cX5_wouldTurn 5 (some .int) :: TT) ({ frames := 27, cells := 0, slots := 0, locals := 645 }) (va_Pc [.ref x, .int (nI i), .int (nI mm)] (kPre D cA (PW cA S) sz)) (va_Qi (fun (r_ : Int32) (x_ : Pool) => eqA S x_ ak) (fun x_ => kB D cA (va_A (PW cA S) sz) (PW cA x_)) (va_A (PW cA S) sz)) 0 0 (va_A (PW cA S) sz) := by
  refine Met.ofW (cc := cX5_wouldTurn) (maxL := 5) (ret := (some .int)) (by decide) rfl ?_
  intro p e s m args below meth c s₁ B hml hv
  obtain ⟨rfl, hsz, hP, hK, hD0, hTB⟩ := hv
  have hx := B.exec
  have hb := B.bytes
  have hr := B.returns
  have hts := atoms_spec (ws := Cond.code yX5_wouldTurn cX5_wouldTurn 5 (some .int) :: TT) B.pre
  have htT : ∀ w ∈ TT, w.before _ s = true := fun w h => hts w (List.mem_cons_of_mem _ h)
  have hown : s.vm.findClass RX5 = some m.cls := findClass_of_methodNamed B.named
  have hlocks := B.notSynchronized
  subst hsz
  have hD := hD0.self (sz := s.heap.size)
  generalize hAe : va_A (PW cA S) s.heap.size = A at hD ⊢
  have hA : ∀ q : Nat, s.heap.size ≤ q → A q := fun q h => by rw [← hAe]; exact Or.inr h
  have hS : va_S A s.heap s.heap [] := va_S.rf
  have hl := lv_entry ([.ref x, .int (nI i), .int (nI mm)]) (n := 5) (Nat.le_of_ble_eq_true rfl)
  rw [lg_entry_eq]
  generalize (lg_sl ([.ref x, .int (nI i), .int (nI mm)]) ++ List.replicate (5 - (lg_sl ([.ref x, .int (nI i), .int (nI mm)])).length) Slot.unset).toArray = ls at hl ⊢
  have hl : lv_has ls 5 [(0, .ref x), (1, .int (nI i)), (2, .int (nI mm))] := hl
  refine lv_aload_n hx hb dX5_wouldTurn_0 rfl (lv_at hl 0 rfl) ?_
  refine lv_iload_n hx hb dX5_wouldTurn_1 rfl (lv_at hl 1 rfl) ?_
  refine kc_q (va_runV (As := [.int (nI i)]) (rest := []) ⟨hx, hb, hml, hown, htT⟩ (c_known l D cA _ S x hx5 ar hq0 hR.1 (nI i) a hsw) (cwV 1 htT (kg_V m_ml_X5_45 m_im_X5_known m_sl_X5_known m_in_X5 m_cd_X5_known) rfl rfl rfl (by decide +kernel) ⟨Nat.le_of_ble_eq_true rfl, Nat.le_of_ble_eq_true rfl⟩) (kp_V hK hP hD hTB (kp_rc hK hP hx5 (Nat.le_of_ble_eq_true rfl) rfl)) rfl rfl hl.1 rfl (lv_room (Nat.le_of_ble_eq_true rfl)) dX5_wouldTurn_2 ⟨Nat.le_of_ble_eq_true rfl, Nat.le_of_ble_eq_true rfl⟩) hD hS hA (fun r_1 x_1 H locs hq_1 hP hD hS => ?_)
  rw [hq_1.1]
  rw [hq_1.2] at hP hD
  refine lv_pop hx hb dX5_wouldTurn_5 rfl ?_
  refine lv_iload_n hx hb dX5_wouldTurn_6 rfl (lv_at hl 2 rfl) ?_
  refine kc_v (va_runS (As := [.int (nI mm)]) (rest := []) ⟨hx, hb, hml, hown, htT⟩ (c_checkMany l D cA _ S (nI mm) h1) (cwS 1 htT (kg_S m_ml_X5_230 m_st_X5_checkMany m_in_X5 m_cd_X5_checkMany) rfl rfl rfl (by decide +kernel) ⟨Nat.le_of_ble_eq_true rfl, Nat.le_of_ble_eq_true rfl⟩) (kp_S hK hP hD hTB) rfl rfl hl.1 rfl (lv_room (Nat.le_of_ble_eq_true rfl)) dX5_wouldTurn_7 ⟨Nat.le_of_ble_eq_true rfl, Nat.le_of_ble_eq_true rfl⟩) hD hS hA (fun x_2 H locs hq_2 hP hD hS => ?_)
  rw [hq_2] at hP hD
  refine lv_iconst (v := 0) hx hb dX5_wouldTurn_10 (by decide) ?_
  refine lv_istore_n (lv' := [(3, .int 0), (0, .ref x), (1, .int (nI i)), (2, .int (nI mm))]) hx hb dX5_wouldTurn_11 rfl hl (by decide) rfl (fun ls hl => ?_)
  refine lv_iconst (v := 0) hx hb dX5_wouldTurn_12 (by decide) ?_
  refine lv_istore (lv' := [(4, .int 0), (3, .int 0), (0, .ref x), (1, .int (nI i)), (2, .int (nI mm))]) hx hb dX5_wouldTurn_13 hl (by decide) rfl (fun ls hl => ?_)
  refine kz_loop 15 (fun N9 H locs ls => ∃ (u : Nat) (acc : Int32) (T : Pool), N9 = mm - u ∧ u ≤ mm ∧ eqA S T ak ∧ va_P D vwCl (PW cA T) H ∧ va_D A (PW cA T) ∧ va_S A s.heap H locs ∧ lv_has ls 5 [(4, .int (nI u)), (3, .int acc), (2, .int (nI mm)), (1, .int (nI i)), (0, .ref x)]) (fun N9 ih_15 H locs ls hI => ?_) ⟨0, 0, S, rfl, by omega, eqA.rf, hP, hD, hS, lv_sub hl [0, 1, 4, 3, 2] rfl⟩
  obtain ⟨u, acc, T, hn9, hu, hE, hP, hD, hS, hl⟩ := hI
  have hx5_3 := hE.o hx5
  have hak_3 := hE.o hak
  have hR_3 := hE.okR hak hR
  have hq0_3 := (hE.q x 0).trans hq0
  have hq1_3 := (hE.q x 1).trans hq1
  refine lv_iload hx hb dX5_wouldTurn_15 (lv_at hl 0 rfl) ?_
  refine lv_iload_n hx hb dX5_wouldTurn_17 rfl (lv_at hl 2 rfl) ?_
  refine lv_icmp_ge (tgt := 40) hx hb dX5_wouldTurn_18 (by decide) (fun c_4 => ?_) (fun c_4 => ?_)
  · replace c_4 := (nI_leI (a := mm) (b := u) (by omega) (by omega)).mp c_4
    refine lv_iload_n hx hb dX5_wouldTurn_40 rfl (lv_at hl 1 rfl) ?_
    exact W.iret (v := acc) hx hb hr (fun t ht hW => ⟨⟨acc, T, rfl, hE, by rw [ht]; exact hP, va_K.moved hW.alike hK, hD⟩, hS.F ht⟩) hS.2.2 dX5_wouldTurn_41
  · replace c_4 : ¬ (mm ≤ u) := fun h9 => c_4 ((nI_leI (a := mm) (b := u) (by omega) (by omega)).mpr h9)
    refine lv_aload_n hx hb dX5_wouldTurn_21 rfl (lv_at hl 4 rfl) ?_
    refine lv_iload_n hx hb dX5_wouldTurn_22 rfl (lv_at hl 3 rfl) ?_
    refine lv_iload hx hb dX5_wouldTurn_23 (lv_at hl 0 rfl) ?_
    refine kc_i (va_runV (As := [.int (nI i), .int (nI u)]) (rest := []) ⟨hx, hb, hml, hown, htT⟩ (c_changesByTurning l D cA _ T x hx5_3 ar hq0_3 ak hq1_3 hak_3 hR_3 n hn8 ((hE.i hak hx5 (by decide) 2).trans h2n) i (by omega) u (by omega)) (cwV 2 htT (kg_V m_ml_X5_241 m_im_X5_changesByTurning m_sl_X5_changesByTurning m_in_X5 m_cd_X5_changesByTurning) rfl rfl rfl (by decide +kernel) ⟨Nat.le_of_ble_eq_true rfl, Nat.le_of_ble_eq_true rfl⟩) (kp_V hK hP hD hTB (kp_rc hK hP hx5_3 (Nat.le_of_ble_eq_true rfl) rfl)) rfl rfl hl.1 rfl (lv_room (Nat.le_of_ble_eq_true rfl)) dX5_wouldTurn_25 ⟨Nat.le_of_ble_eq_true rfl, Nat.le_of_ble_eq_true rfl⟩) hD hS hA (fun r_5 x_5 H locs hq_5 hP hD hS => ?_)
    have hE_5 := hE.tr hq_5
    have hx5_6 := hE_5.o hx5
    have hak_6 := hE_5.o hak
    have hR_6 := hE_5.okR hak hR
    have hq0_6 := (hE_5.q x 0).trans hq0
    have hq1_6 := (hE_5.q x 1).trans hq1
    refine lv_if_eq (tgt := 34) hx hb dX5_wouldTurn_28 (by decide) (fun c_7 => ?_) (fun c_7 => ?_)
    · refine lv_iinc (v := nI (u + 1)) (lv' := [(4, .int (nI (u + 1))), (3, .int acc), (2, .int (nI mm)), (1, .int (nI i)), (0, .ref x)]) hx hb dX5_wouldTurn_34 hl (k := 0) rfl (nI_1 _) (by decide) rfl (fun ls hl => ?_)
      refine lv_goto (tgt := 15) hx hb dX5_wouldTurn_37 (by decide) ?_
      have hl := lv_sub hl [0, 1, 2, 3, 4] rfl
      exact ih_15 _ (by omega) H locs ls ⟨u + 1, _, x_5, rfl, by omega, hE_5, hP, hD, hS, hl⟩
    · obtain ⟨i_8, ei_8⟩ : ∃ y : Int32, y = acc + 1 := ⟨_, rfl⟩
      refine lv_iinc (v := i_8) (lv' := [(3, .int i_8), (4, .int (nI u)), (2, .int (nI mm)), (1, .int (nI i)), (0, .ref x)]) hx hb dX5_wouldTurn_31 hl (k := 1) rfl (by rw [ei_8]; rfl) (by decide) rfl (fun ls hl => ?_)
      refine lv_iinc (v := nI (u + 1)) (lv' := [(4, .int (nI (u + 1))), (3, .int i_8), (2, .int (nI mm)), (1, .int (nI i)), (0, .ref x)]) hx hb dX5_wouldTurn_34 hl (k := 1) rfl (nI_1 _) (by decide) rfl (fun ls hl => ?_)
      refine lv_goto (tgt := 15) hx hb dX5_wouldTurn_37 (by decide) ?_
      have hl := lv_sub hl [0, 1, 2, 3, 4] rfl
      exact ih_15 _ (by omega) H locs ls ⟨u + 1, _, x_5, rfl, by omega, hE_5, hP, hD, hS, hl⟩

set_option maxRecDepth 100000 in
set_option maxHeartbeats 4000000 in
theorem c_wouldTurn_1 (l : Launch) (hst : l.stackTraces = false) (D : va_G) (cA : Nat → ClassId) (sz : Nat) (S : Pool) (x : Nat) (hx5 : isO S x 5) (ar : Nat) (hq0 : gQ S x 0 = some ar) (ak : Nat) (hq1 : gQ S x 1 = some ak) (hak : isO S ak 1) (hR : okR S ar) (j : Nat) (hj : j < 8) (a : Nat) (hja : gP S ar j = some a) (p0 : Int32) (hsw : kSw S ar p0 = some a) (p1 : Int32) (h1 : kOut p1 1 200 = 1) : vx_Met l yX5_wouldTurn (Cond.code yX5_wouldTurn cX5_wouldTurn 5 (some .int) :: TT) ({ frames := 7, cells := 1, slots := 6, locals := 102 }) (va_Pc [.ref x, .int p0, .int p1] (kPreX D cA (PW cA S) sz)) kNo (kXC D cA (PW cA S) "java/lang/IllegalArgumentException" (va_A (PW cA S) sz)) 1 6 (va_A (PW cA S) sz) := by
  refine vx_ofW (cc := cX5_wouldTurn) (maxL := 5) (ret := (some .int)) (by decide) rfl ?_
  intro p e s m args below meth c s₁ B hml hTab hv
  obtain ⟨rfl, ⟨hsz, hP, hK, hD0, hTB⟩, hTX⟩ := hv
  have hx := B.exec
  have hb := B.bytes
  have hr := B.returns
  have hts := atoms_spec (ws := Cond.code yX5_wouldTurn cX5_wouldTurn 5 (some .int) :: TT) B.pre
  have htT : ∀ w ∈ TT, w.before _ s = true := fun w h => hts w (List.mem_cons_of_mem _ h)
  have hown : s.vm.findClass RX5 = some m.cls := findClass_of_methodNamed B.named
  have hlocks := B.notSynchronized
  subst hsz
  have hD := hD0.self (sz := s.heap.size)
  generalize hAe : va_A (PW cA S) s.heap.size = A at hD hTX ⊢
  have hA : ∀ q : Nat, s.heap.size ≤ q → A q := fun q h => by rw [← hAe]; exact Or.inr h
  have hS : va_S A s.heap s.heap [] := va_S.rf
  have hl := lv_entry ([.ref x, .int p0, .int p1]) (n := 5) (Nat.le_of_ble_eq_true rfl)
  rw [lg_entry_eq]
  generalize (lg_sl ([.ref x, .int p0, .int p1]) ++ List.replicate (5 - (lg_sl ([.ref x, .int p0, .int p1])).length) Slot.unset).toArray = ls at hl ⊢
  have hl : lv_has ls 5 [(0, .ref x), (1, .int p0), (2, .int p1)] := hl
  refine lv_aload_n hx hb dX5_wouldTurn_0 rfl (lv_at hl 0 rfl) ?_
  refine lv_iload_n hx hb dX5_wouldTurn_1 rfl (lv_at hl 1 rfl) ?_
  refine kc_q (va_runV (As := [.int p0]) (rest := []) ⟨hx, hb, hml, hown, htT⟩ (c_known l D cA _ S x hx5 ar hq0 hR.1 p0 a hsw) (cwV 1 htT (kg_V m_ml_X5_45 m_im_X5_known m_sl_X5_known m_in_X5 m_cd_X5_known) rfl rfl rfl (by decide +kernel) ⟨Nat.le_of_ble_eq_true rfl, Nat.le_of_ble_eq_true rfl⟩) (kp_V hK hP hD hTB (kp_rc hK hP hx5 (Nat.le_of_ble_eq_true rfl) rfl)) rfl rfl hl.1 rfl (lv_room (Nat.le_of_ble_eq_true rfl)) dX5_wouldTurn_2 ⟨Nat.le_of_ble_eq_true rfl, Nat.le_of_ble_eq_true rfl⟩) hD hS hA (fun r_1 x_1 H locs hq_1 hP hD hS => ?_)
  rw [hq_1.1]
  rw [hq_1.2] at hP hD
  refine lv_pop hx hb dX5_wouldTurn_5 rfl ?_
  refine lv_iload_n hx hb dX5_wouldTurn_6 rfl (lv_at hl 2 rfl) ?_
  refine kt_call (vx_runS (As := [.int p1]) (rest := []) ⟨hx, hb, hml, hown, htT⟩ (c_checkMany_t l hst D cA _ S p1 h1) (cwS 1 htT (kg_S m_ml_X5_230 m_st_X5_checkMany m_in_X5 m_cd_X5_checkMany) rfl rfl rfl (by decide +kernel) ⟨Nat.le_of_ble_eq_true rfl, Nat.le_of_ble_eq_true rfl⟩) (kp_SX hK hP hD hTB hTX hS hA) rfl rfl hl.1 rfl (lv_room (Nat.le_of_ble_eq_true rfl)) dX5_wouldTurn_7 ⟨Nat.le_of_ble_eq_true rfl, Nat.le_of_ble_eq_true rfl⟩) hD hS hA (fun ce q9 H locs hP hD hS hce hcv hcl => ?_)
  exact kt_out hTab hlocks hK hP hD hS hce hcv hcl (Nat.le_of_ble_eq_true rfl) (Nat.le_of_ble_eq_true rfl)

