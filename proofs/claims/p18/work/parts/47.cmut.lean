def cKept (k : Int32) : Int32 := if k < 0 then 0 else if k < 4 then 1 else 0
theorem cKept_n {v : Nat} (h : v < 4) : cKept (nI v) = 1 := by
  unfold cKept
  rw [if_neg (fun q => by have := (nI_ltI (a := v) (b := 0) (by omega) (by omega)).mp q; omega), if_pos (show nI v < 4 from (nI_ltI (a := v) (b := 4) (by omega) (by omega)).mpr h)]
theorem m1_ltc {i : Nat} (h : i < 2 ^ 31) : (-1 : Int32) < nI i := by
  rw [Int32.lt_iff_toInt_lt, nI_toInt h]
  have h2 : (-1 : Int32).toInt = -1 := rfl
  omega
set_option maxRecDepth 100000 in
set_option maxHeartbeats 4000000 in
theorem c_isKept (l : Launch) (D : va_G) (cA : Nat → ClassId) (sz : Nat) (S : Pool) (k : Int32) : Met l yX4_isKept (Cond.code yX4_isKept cX4_isKept 1 (some .boolean) :: TT) ({ frames := 0, cells := 0, slots := 0, locals := 0 }) (va_Pc [.int k] (kPre D cA (PW cA S) sz)) (va_Qi (fun (r_ : Int32) (x_ : Pool) => r_ = cKept k ∧ x_ = S) (fun x_ => kB D cA (va_A (PW cA S) sz) (PW cA x_)) (va_A (PW cA S) sz)) 0 0 (va_A (PW cA S) sz) := by
  refine Met.ofW (cc := cX4_isKept) (maxL := 1) (ret := (some .boolean)) (by decide) rfl ?_
  intro p e s m args below meth c s₁ B hml hv
  obtain ⟨rfl, hsz, hP, hK, hD0, hTB⟩ := hv
  have hx := B.exec
  have hb := B.bytes
  have hr := B.returns
  have hts := atoms_spec (ws := Cond.code yX4_isKept cX4_isKept 1 (some .boolean) :: TT) B.pre
  have htT : ∀ w ∈ TT, w.before _ s = true := fun w h => hts w (List.mem_cons_of_mem _ h)
  have hown : s.vm.findClass RX4 = some m.cls := findClass_of_methodNamed B.named
  have hlocks := B.notSynchronized
  subst hsz
  have hD := hD0.self (sz := s.heap.size)
  generalize hAe : va_A (PW cA S) s.heap.size = A at hD ⊢
  have hA : ∀ q : Nat, s.heap.size ≤ q → A q := fun q h => by rw [← hAe]; exact Or.inr h
  have hS : va_S A s.heap s.heap [] := va_S.rf
  have hl := lv_entry ([.int k]) (n := 1) (Nat.le_of_ble_eq_true rfl)
  rw [lg_entry_eq]
  generalize (lg_sl ([.int k]) ++ List.replicate (1 - (lg_sl ([.int k])).length) Slot.unset).toArray = ls at hl ⊢
  have hl : lv_has ls 1 [(0, .int k)] := hl
  refine lv_iload_n hx hb dX4_isKept_0 rfl (lv_at hl 0 rfl) ?_
  refine lv_if_lt (tgt := 13) hx hb dX4_isKept_1 (by decide) (fun c_1 => ?_) (fun c_1 => ?_)
  · refine lv_iconst (v := 0) hx hb dX4_isKept_13 (by decide) ?_
    exact W.zret (v := 0) hx hb hr (rfl) (fun t ht hW => ⟨⟨0, S, rfl, ⟨by simp [cKept, c_1], rfl⟩, by rw [ht]; exact hP, va_K.moved hW.alike hK, hD⟩, hS.F ht⟩) hS.2.2 dX4_isKept_14
  · refine lv_iload_n hx hb dX4_isKept_4 rfl (lv_at hl 0 rfl) ?_
    refine lv_iconst (v := 4) hx hb dX4_isKept_5 (by decide) ?_
    refine lv_icmp_ge (tgt := 13) hx hb dX4_isKept_6 (by decide) (fun c_2 => ?_) (fun c_2 => ?_)
    · replace c_2 := Int32.not_lt.mpr c_2
      refine lv_iconst (v := 0) hx hb dX4_isKept_13 (by decide) ?_
      exact W.zret (v := 0) hx hb hr (rfl) (fun t ht hW => ⟨⟨0, S, rfl, ⟨by simp [cKept, c_1, c_2], rfl⟩, by rw [ht]; exact hP, va_K.moved hW.alike hK, hD⟩, hS.F ht⟩) hS.2.2 dX4_isKept_14
    · replace c_2 := Int32.not_le.mp c_2
      refine lv_iconst (v := 1) hx hb dX4_isKept_9 (by decide) ?_
      refine lv_goto (tgt := 14) hx hb dX4_isKept_10 (by decide) ?_
      exact W.zret (v := 1) hx hb hr (rfl) (fun t ht hW => ⟨⟨1, S, rfl, ⟨by simp [cKept, c_1, c_2], rfl⟩, by rw [ht]; exact hP, va_K.moved hW.alike hK, hD⟩, hS.F ht⟩) hS.2.2 dX4_isKept_14

set_option maxRecDepth 100000 in
set_option maxHeartbeats 4000000 in
theorem c_setWeight (l : Launch) (D : va_G) (cA : Nat → ClassId) (sz : Nat) (S : Pool) (a : Nat) (ho : isO S a 3) (wt : Nat) (hq4 : gQ S a 4 = some wt) (hwt : isA S wt 6 4) (v : Nat) (hv4 : v < 4) (p1 : Int32) : Met l yX3_setWeight (Cond.code yX3_setWeight cX3_setWeight 3 none :: TT) ({ frames := 0, cells := 0, slots := 0, locals := 0 }) (va_Pc [.ref a, .int (nI v), .int p1] (kPre D cA (PW cA S) sz)) (va_Qv (fun (x_ : Pool) => x_ = pR S wt v p1) (fun x_ => kB D cA (va_A (PW cA S) sz) (PW cA x_)) (va_A (PW cA S) sz)) 0 0 (va_A (PW cA S) sz) := by
  refine Met.ofW (cc := cX3_setWeight) (maxL := 3) (ret := none) (by decide) rfl ?_
  intro p e s m args below meth c s₁ B hml hv
  obtain ⟨rfl, hsz, hP, hK, hD0, hTB⟩ := hv
  have hx := B.exec
  have hb := B.bytes
  have hr := B.returns
  have hts := atoms_spec (ws := Cond.code yX3_setWeight cX3_setWeight 3 none :: TT) B.pre
  have htT : ∀ w ∈ TT, w.before _ s = true := fun w h => hts w (List.mem_cons_of_mem _ h)
  have hown : s.vm.findClass RX3 = some m.cls := findClass_of_methodNamed B.named
  have hlocks := B.notSynchronized
  subst hsz
  have hD := hD0.self (sz := s.heap.size)
  generalize hAe : va_A (PW cA S) s.heap.size = A at hD ⊢
  have hA : ∀ q : Nat, s.heap.size ≤ q → A q := fun q h => by rw [← hAe]; exact Or.inr h
  have hS : va_S A s.heap s.heap [] := va_S.rf
  have hl := lv_entry ([.ref a, .int (nI v), .int p1]) (n := 3) (Nat.le_of_ble_eq_true rfl)
  rw [lg_entry_eq]
  generalize (lg_sl ([.ref a, .int (nI v), .int p1]) ++ List.replicate (3 - (lg_sl ([.ref a, .int (nI v), .int p1])).length) Slot.unset).toArray = ls at hl ⊢
  have hl : lv_has ls 3 [(0, .ref a), (1, .int (nI v)), (2, .int p1)] := hl
  refine lv_iload_n hx hb dX3_setWeight_0 rfl (lv_at hl 1 rfl) ?_
  refine lv_if_lt (tgt := 20) hx hb dX3_setWeight_1 (by decide) (fun c_1 => ?_) (fun c_1 => ?_)
  · exact absurd ((nI_ltI (a := v) (b := 0) (by omega) (by omega)).mp c_1) (by omega)
  · replace c_1 : ¬ (v < 0) := fun h9 => c_1 ((nI_ltI (a := v) (b := 0) (by omega) (by omega)).mpr h9)
    refine lv_iload_n hx hb dX3_setWeight_4 rfl (lv_at hl 1 rfl) ?_
    refine lv_aload_n hx hb dX3_setWeight_5 rfl (lv_at hl 0 rfl) ?_
    refine kx_gets hx hb htT m_u_X3 hown hK hP ho (Nat.le_of_ble_eq_true rfl) rfl 4 (by decide) (by decide) rfl hq4 (htT _ m_fl_X3_9) dX3_setWeight_6 ?_
    refine kx_alen (v := 4) hx hb hK hP hwt (Nat.le_of_ble_eq_true rfl) (Nat.le_of_ble_eq_true rfl) rfl dX3_setWeight_9 ?_
    refine lv_icmp_ge (tgt := 20) hx hb dX3_setWeight_10 (by decide) (fun c_2 => ?_) (fun c_2 => ?_)
    · exact absurd ((nI_leI (a := 4) (b := v) (by omega) (by omega)).mp c_2) (by omega)
    · replace c_2 : ¬ (4 ≤ v) := fun h9 => c_2 ((nI_leI (a := 4) (b := v) (by omega) (by omega)).mpr h9)
      refine lv_aload_n hx hb dX3_setWeight_13 rfl (lv_at hl 0 rfl) ?_
      refine kx_gets hx hb htT m_u_X3 hown hK hP ho (Nat.le_of_ble_eq_true rfl) rfl 4 (by decide) (by decide) rfl hq4 (htT _ m_fl_X3_9) dX3_setWeight_14 ?_
      refine lv_iload_n hx hb dX3_setWeight_17 rfl (lv_at hl 1 rfl) ?_
      refine lv_iload_n hx hb dX3_setWeight_18 rfl (lv_at hl 2 rfl) ?_
      refine kx_iast hx hb hK hP hD hS hwt (Nat.le_of_ble_eq_true rfl) (Nat.le_of_ble_eq_true rfl) (show vp_in (nI (v)) 4 from ki_in (by omega) (by decide)) dX3_setWeight_19 (fun H locs hP hD hS => ?_)
      rw [ki_cl (n := v) (by omega)] at hP hD
      exact W.vret hx hb hr (fun t ht hW => ⟨⟨pR S wt v p1, rfl, rfl, by rw [ht]; exact hP, va_K.moved hW.alike hK, hD⟩, hS.F ht⟩) hS.2.2 dX3_setWeight_20

set_option maxRecDepth 100000 in
set_option maxHeartbeats 4000000 in
theorem c_weigh (l : Launch) (D : va_G) (cA : Nat → ClassId) (sz : Nat) (S : Pool) (x : Nat) (hx5 : isO S x 5) (ar : Nat) (hq0 : gQ S x 0 = some ar) (ak : Nat) (hq1 : gQ S x 1 = some ak) (hak : isO S ak 1) (hR : okR S ar) (j : Nat) (hj : j < 8) (a : Nat) (hja : gP S ar j = some a) (p0 : Int32) (hsw : kSw S ar p0 = some a) (v : Nat) (hv4 : v < 4) (hv : kOut (nI v) 0 (gI S a 2 - 1) = 0) (hv0 : v ≠ 0) (p2 : Int32) (h1 : kOut p2 0 1000 = 0) (hlf : ¬ (cWt S (wtA S a) 0 + cWt S (wtA S a) (nI v) - p2) < 0) : Met l yX5_weigh (Cond.code yX5_weigh cX5_weigh 6 (some .int) :: TT) ({ frames := 2, cells := 0, slots := 0, locals := 43 }) (va_Pc [.ref x, .int p0, .int (nI v), .int p2] (kPre D cA (PW cA S) sz)) (va_Qi (fun (r_ : Int32) (x_ : Pool) => r_ = (cWt S (wtA S a) 0 + cWt S (wtA S a) (nI v) - p2) ∧ x_ = pR (pR S (wtA S a) v p2) (wtA S a) 0 (cWt S (wtA S a) 0 + cWt S (wtA S a) (nI v) - p2)) (fun x_ => kB D cA (va_A (PW cA S) sz) (PW cA x_)) (va_A (PW cA S) sz)) 0 0 (va_A (PW cA S) sz) := by
  refine Met.ofW (cc := cX5_weigh) (maxL := 6) (ret := (some .int)) (by decide) rfl ?_
  intro p e s m args below meth c s₁ B hml hv
  obtain ⟨rfl, hsz, hP, hK, hD0, hTB⟩ := hv
  have hx := B.exec
  have hb := B.bytes
  have hr := B.returns
  have hts := atoms_spec (ws := Cond.code yX5_weigh cX5_weigh 6 (some .int) :: TT) B.pre
  have htT : ∀ w ∈ TT, w.before _ s = true := fun w h => hts w (List.mem_cons_of_mem _ h)
  have hown : s.vm.findClass RX5 = some m.cls := findClass_of_methodNamed B.named
  have hlocks := B.notSynchronized
  subst hsz
  have hD := hD0.self (sz := s.heap.size)
  generalize hAe : va_A (PW cA S) s.heap.size = A at hD ⊢
  have hA : ∀ q : Nat, s.heap.size ≤ q → A q := fun q h => by rw [← hAe]; exact Or.inr h
  have hS : va_S A s.heap s.heap [] := va_S.rf
  have hl := lv_entry ([.ref x, .int p0, .int (nI v), .int p2]) (n := 6) (Nat.le_of_ble_eq_true rfl)
  rw [lg_entry_eq]
  generalize (lg_sl ([.ref x, .int p0, .int (nI v), .int p2]) ++ List.replicate (6 - (lg_sl ([.ref x, .int p0, .int (nI v), .int p2])).length) Slot.unset).toArray = ls at hl ⊢
  have hl : lv_has ls 6 [(0, .ref x), (1, .int p0), (2, .int (nI v)), (3, .int p2)] := hl
  obtain ⟨-, ⟨wt, hq4, hwt⟩, -⟩ := (hR.2 j hj a hja).1
  have ewt : wtA S a = wt := by simp [wtA, hq4]
  refine lv_aload_n hx hb dX5_weigh_0 rfl (lv_at hl 0 rfl) ?_
  refine lv_iload_n hx hb dX5_weigh_1 rfl (lv_at hl 1 rfl) ?_
  refine kc_q (va_runV (As := [.int p0]) (rest := []) ⟨hx, hb, hml, hown, htT⟩ (c_known l D cA _ S x hx5 ar hq0 hR.1 p0 a hsw) (cwV 1 htT (kg_V m_ml_X5_45 m_im_X5_known m_sl_X5_known m_in_X5 m_cd_X5_known) rfl rfl rfl (by decide +kernel) ⟨Nat.le_of_ble_eq_true rfl, Nat.le_of_ble_eq_true rfl⟩) (kp_V hK hP hD hTB (kp_rc hK hP hx5 (Nat.le_of_ble_eq_true rfl) rfl)) rfl rfl hl.1 rfl (lv_room (Nat.le_of_ble_eq_true rfl)) dX5_weigh_2 ⟨Nat.le_of_ble_eq_true rfl, Nat.le_of_ble_eq_true rfl⟩) hD hS hA (fun r_1 x_1 H locs hq_1 hP hD hS => ?_)
  rw [hq_1.1]
  rw [hq_1.2] at hP hD
  refine lv_astore (lv' := [(4, .ref a), (0, .ref x), (1, .int p0), (2, .int (nI v)), (3, .int p2)]) hx hb dX5_weigh_5 hl (by decide) rfl (fun ls hl => ?_)
  refine lv_aload hx hb dX5_weigh_7 (lv_at hl 0 rfl) ?_
  refine lv_iload_n hx hb dX5_weigh_9 rfl (lv_at hl 3 rfl) ?_
  refine kc_v (va_runS (As := [.ref a, .int (nI v)]) (rest := []) ⟨hx, hb, hml, hown, htT⟩ (c_checkVariant l D cA _ S a (hR.2 j hj a hja).1.1 (nI v) hv) (cwS 2 htT (kg_S m_ml_X5_49 m_st_X5_checkVariant m_in_X5 m_cd_X5_checkVariant) rfl rfl rfl (by decide +kernel) ⟨Nat.le_of_ble_eq_true rfl, Nat.le_of_ble_eq_true rfl⟩) (kp_S hK hP hD hTB) rfl rfl hl.1 rfl (lv_room (Nat.le_of_ble_eq_true rfl)) dX5_weigh_10 ⟨Nat.le_of_ble_eq_true rfl, Nat.le_of_ble_eq_true rfl⟩) hD hS hA (fun x_2 H locs hq_2 hP hD hS => ?_)
  rw [hq_2] at hP hD
  refine lv_aload hx hb dX5_weigh_13 (lv_at hl 0 rfl) ?_
  refine lv_iconst (v := 0) hx hb dX5_weigh_15 (by decide) ?_
  refine kc_i (va_runV (As := [.int 0]) (rest := []) ⟨hx, hb, hml, hown, htT⟩ (c_weightOf l D cA _ S a (hR.2 j hj a hja).1.1 wt hq4 hwt 0) (cwV 1 htT (kg_V m_ml_X5_53 m_im_X3_weightOf m_sl_X3_weightOf m_in_X3 m_cd_X3_weightOf) rfl rfl rfl (by decide +kernel) ⟨Nat.le_of_ble_eq_true rfl, Nat.le_of_ble_eq_true rfl⟩) (kp_V hK hP hD hTB (kp_rc hK hP ((hR.2 j hj a hja).1.1) (Nat.le_of_ble_eq_true rfl) rfl)) rfl rfl hl.1 rfl (lv_room (Nat.le_of_ble_eq_true rfl)) dX5_weigh_16 ⟨Nat.le_of_ble_eq_true rfl, Nat.le_of_ble_eq_true rfl⟩) hD hS hA (fun r_3 x_3 H locs hq_3 hP hD hS => ?_)
  rw [hq_3.1]
  rw [hq_3.2] at hP hD
  refine lv_aload hx hb dX5_weigh_19 (lv_at hl 0 rfl) ?_
  refine lv_iload_n hx hb dX5_weigh_21 rfl (lv_at hl 3 rfl) ?_
  refine kc_i (va_runV (As := [.int (nI v)]) (rest := [.int (cWt S wt 0)]) ⟨hx, hb, hml, hown, htT⟩ (c_weightOf l D cA _ S a (hR.2 j hj a hja).1.1 wt hq4 hwt (nI v)) (cwV 1 htT (kg_V m_ml_X5_53 m_im_X3_weightOf m_sl_X3_weightOf m_in_X3 m_cd_X3_weightOf) rfl rfl rfl (by decide +kernel) ⟨Nat.le_of_ble_eq_true rfl, Nat.le_of_ble_eq_true rfl⟩) (kp_V hK hP hD hTB (kp_rc hK hP ((hR.2 j hj a hja).1.1) (Nat.le_of_ble_eq_true rfl) rfl)) rfl rfl hl.1 rfl (lv_room (Nat.le_of_ble_eq_true rfl)) dX5_weigh_22 ⟨Nat.le_of_ble_eq_true rfl, Nat.le_of_ble_eq_true rfl⟩) hD hS hA (fun r_4 x_4 H locs hq_4 hP hD hS => ?_)
  rw [hq_4.1]
  rw [hq_4.2] at hP hD
  refine lv_iadd hx hb dX5_weigh_25 ?_
  refine lv_iload_n hx hb dX5_weigh_26 rfl (lv_at hl 4 rfl) ?_
  refine lv_isub hx hb dX5_weigh_27 ?_
  refine lv_istore (lv' := [(5, .int (((cWt S wt 0) + (cWt S wt (nI v))) - p2)), (4, .ref a), (0, .ref x), (1, .int p0), (2, .int (nI v)), (3, .int p2)]) hx hb dX5_weigh_28 hl (by decide) rfl (fun ls hl => ?_)
  refine lv_iload_n hx hb dX5_weigh_30 rfl (lv_at hl 4 rfl) ?_
  refine lv_if_eq (tgt := 50) hx hb dX5_weigh_31 (by decide) (fun c_5 => ?_) (fun c_5 => ?_)
  · exact absurd ((nI_eq (a := v) (b := 0) (by omega) (by omega)).mp c_5) hv0
  · replace c_5 : ¬ (v = 0) := fun h9 => c_5 ((nI_eq (a := v) (b := 0) (by omega) (by omega)).mpr h9)
    refine lv_iload_n hx hb dX5_weigh_34 rfl (lv_at hl 5 rfl) ?_
    refine lv_iconst (v := 0) hx hb dX5_weigh_35 (by decide) ?_
    refine lv_sipush (v := 1000) hx hb dX5_weigh_36 (by decide) ?_
    refine kc_i (va_runS (As := [.int p2, .int 0, .int 1000]) (rest := []) ⟨hx, hb, hml, hown, htT⟩ (c_isOutside l D cA _ S p2 0 1000) (cwS 3 htT (kg_S m_ml_X5_22 m_st_X5_isOutside m_in_X5 m_cd_X5_isOutside) rfl rfl rfl (by decide +kernel) ⟨Nat.le_of_ble_eq_true rfl, Nat.le_of_ble_eq_true rfl⟩) (kp_S hK hP hD hTB) rfl rfl hl.1 rfl (lv_room (Nat.le_of_ble_eq_true rfl)) dX5_weigh_39 ⟨Nat.le_of_ble_eq_true rfl, Nat.le_of_ble_eq_true rfl⟩) hD hS hA (fun r_6 x_6 H locs hq_6 hP hD hS => ?_)
    rw [hq_6.1.trans h1]
    rw [hq_6.2] at hP hD
    refine lv_if_ne (tgt := 50) hx hb dX5_weigh_42 (by decide) (fun c_7 => absurd c_7 (by decide)) (fun _ => ?_)
    refine lv_iload hx hb dX5_weigh_45 (lv_at hl 0 rfl) ?_
    refine lv_if_ge (tgt := 60) hx hb dX5_weigh_47 (by decide) (fun c_8 => ?_) (fun c_8 => ?_)
    · replace c_8 := Int32.not_lt.mpr c_8
      refine lv_aload hx hb dX5_weigh_60 (lv_at hl 1 rfl) ?_
      refine lv_iload_n hx hb dX5_weigh_62 rfl (lv_at hl 4 rfl) ?_
      refine lv_iload_n hx hb dX5_weigh_63 rfl (lv_at hl 5 rfl) ?_
      refine kc_v (va_runV (As := [.int (nI v), .int p2]) (rest := []) ⟨hx, hb, hml, hown, htT⟩ (c_setWeight l D cA _ S a (hR.2 j hj a hja).1.1 wt hq4 hwt v hv4 p2) (cwV 2 htT (kg_V m_ml_X5_59 m_im_X3_setWeight m_sl_X3_setWeight m_in_X3 m_cd_X3_setWeight) rfl rfl rfl (by decide +kernel) ⟨Nat.le_of_ble_eq_true rfl, Nat.le_of_ble_eq_true rfl⟩) (kp_V hK hP hD hTB (kp_rc hK hP ((hR.2 j hj a hja).1.1) (Nat.le_of_ble_eq_true rfl) rfl)) rfl rfl hl.1 rfl (lv_room (Nat.le_of_ble_eq_true rfl)) dX5_weigh_64 ⟨Nat.le_of_ble_eq_true rfl, Nat.le_of_ble_eq_true rfl⟩) hD hS hA (fun x_9 H locs hq_9 hP hD hS => ?_)
      rw [hq_9] at hP hD
      refine lv_aload hx hb dX5_weigh_67 (lv_at hl 1 rfl) ?_
      refine lv_iconst (v := 0) hx hb dX5_weigh_69 (by decide) ?_
      refine lv_iload hx hb dX5_weigh_70 (lv_at hl 0 rfl) ?_
      refine kc_v (va_runV (As := [.int 0, .int (((cWt S wt 0) + (cWt S wt (nI v))) - p2)]) (rest := []) ⟨hx, hb, hml, hown, htT⟩ (c_setWeight l D cA _ (pR S wt v p2) a (hR.2 j hj a hja).1.1 wt hq4 hwt 0 (by decide) (((cWt S wt 0) + (cWt S wt (nI v))) - p2)) (cwV 2 htT (kg_V m_ml_X5_59 m_im_X3_setWeight m_sl_X3_setWeight m_in_X3 m_cd_X3_setWeight) rfl rfl rfl (by decide +kernel) ⟨Nat.le_of_ble_eq_true rfl, Nat.le_of_ble_eq_true rfl⟩) (kp_V hK hP hD hTB (kp_rc hK hP ((hR.2 j hj a hja).1.1) (Nat.le_of_ble_eq_true rfl) rfl)) rfl rfl hl.1 rfl (lv_room (Nat.le_of_ble_eq_true rfl)) dX5_weigh_72 ⟨Nat.le_of_ble_eq_true rfl, Nat.le_of_ble_eq_true rfl⟩) hD hS hA (fun x_10 H locs hq_10 hP hD hS => ?_)
      rw [hq_10] at hP hD
      refine lv_iload hx hb dX5_weigh_75 (lv_at hl 0 rfl) ?_
      exact W.iret (v := ((cWt S wt 0) + (cWt S wt (nI v))) - p2) hx hb hr (fun t ht hW => ⟨⟨((cWt S wt 0) + (cWt S wt (nI v))) - p2, pR (pR S wt v p2) wt 0 (cWt S wt 0 + cWt S wt (nI v) - p2), rfl, ⟨by rw [ewt], by rw [ewt]⟩, by rw [ht]; exact hP, va_K.moved hW.alike hK, hD⟩, hS.F ht⟩) hS.2.2 dX5_weigh_77
    · exact absurd (Int32.not_le.mp c_8) (by have h9 := hlf; rw [ewt] at h9; exact h9)

set_option maxRecDepth 100000 in
set_option maxHeartbeats 4000000 in
theorem c_weigh_2 (l : Launch) (hst : l.stackTraces = false) (D : va_G) (cA : Nat → ClassId) (sz : Nat) (S : Pool) (x : Nat) (hx5 : isO S x 5) (ar : Nat) (hq0 : gQ S x 0 = some ar) (ak : Nat) (hq1 : gQ S x 1 = some ak) (hak : isO S ak 1) (hR : okR S ar) (j : Nat) (hj : j < 8) (a : Nat) (hja : gP S ar j = some a) (p0 : Int32) (hsw : kSw S ar p0 = some a) (v : Nat) (hv4 : v < 4) (hv : kOut (nI v) 0 (gI S a 2 - 1) = 0) (hv0 : v ≠ 0) (p2 : Int32) (h1 : kOut p2 0 1000 = 0) (hlf : (cWt S (wtA S a) 0 + cWt S (wtA S a) (nI v) - p2) < 0) : vx_Met l yX5_weigh (Cond.code yX5_weigh cX5_weigh 6 (some .int) :: TT) ({ frames := 6, cells := 1, slots := 6, locals := 82 }) (va_Pc [.ref x, .int p0, .int (nI v), .int p2] (kPreX D cA (PW cA S) sz)) kNo (kXC D cA (PW cA S) "java/lang/IllegalArgumentException" (va_A (PW cA S) sz)) 1 6 (va_A (PW cA S) sz) := by
  refine vx_ofW (cc := cX5_weigh) (maxL := 6) (ret := (some .int)) (by decide) rfl ?_
  intro p e s m args below meth c s₁ B hml hTab hv
  obtain ⟨rfl, ⟨hsz, hP, hK, hD0, hTB⟩, hTX⟩ := hv
  have hx := B.exec
  have hb := B.bytes
  have hr := B.returns
  have hts := atoms_spec (ws := Cond.code yX5_weigh cX5_weigh 6 (some .int) :: TT) B.pre
  have htT : ∀ w ∈ TT, w.before _ s = true := fun w h => hts w (List.mem_cons_of_mem _ h)
  have hown : s.vm.findClass RX5 = some m.cls := findClass_of_methodNamed B.named
  have hlocks := B.notSynchronized
  subst hsz
  have hD := hD0.self (sz := s.heap.size)
  generalize hAe : va_A (PW cA S) s.heap.size = A at hD hTX ⊢
  have hA : ∀ q : Nat, s.heap.size ≤ q → A q := fun q h => by rw [← hAe]; exact Or.inr h
  have hS : va_S A s.heap s.heap [] := va_S.rf
  have hl := lv_entry ([.ref x, .int p0, .int (nI v), .int p2]) (n := 6) (Nat.le_of_ble_eq_true rfl)
  rw [lg_entry_eq]
  generalize (lg_sl ([.ref x, .int p0, .int (nI v), .int p2]) ++ List.replicate (6 - (lg_sl ([.ref x, .int p0, .int (nI v), .int p2])).length) Slot.unset).toArray = ls at hl ⊢
  have hl : lv_has ls 6 [(0, .ref x), (1, .int p0), (2, .int (nI v)), (3, .int p2)] := hl
  obtain ⟨-, ⟨wt, hq4, hwt⟩, -⟩ := (hR.2 j hj a hja).1
  have ewt : wtA S a = wt := by simp [wtA, hq4]
  refine lv_aload_n hx hb dX5_weigh_0 rfl (lv_at hl 0 rfl) ?_
  refine lv_iload_n hx hb dX5_weigh_1 rfl (lv_at hl 1 rfl) ?_
  refine kc_q (va_runV (As := [.int p0]) (rest := []) ⟨hx, hb, hml, hown, htT⟩ (c_known l D cA _ S x hx5 ar hq0 hR.1 p0 a hsw) (cwV 1 htT (kg_V m_ml_X5_45 m_im_X5_known m_sl_X5_known m_in_X5 m_cd_X5_known) rfl rfl rfl (by decide +kernel) ⟨Nat.le_of_ble_eq_true rfl, Nat.le_of_ble_eq_true rfl⟩) (kp_V hK hP hD hTB (kp_rc hK hP hx5 (Nat.le_of_ble_eq_true rfl) rfl)) rfl rfl hl.1 rfl (lv_room (Nat.le_of_ble_eq_true rfl)) dX5_weigh_2 ⟨Nat.le_of_ble_eq_true rfl, Nat.le_of_ble_eq_true rfl⟩) hD hS hA (fun r_1 x_1 H locs hq_1 hP hD hS => ?_)
  rw [hq_1.1]
  rw [hq_1.2] at hP hD
  refine lv_astore (lv' := [(4, .ref a), (0, .ref x), (1, .int p0), (2, .int (nI v)), (3, .int p2)]) hx hb dX5_weigh_5 hl (by decide) rfl (fun ls hl => ?_)
  refine lv_aload hx hb dX5_weigh_7 (lv_at hl 0 rfl) ?_
  refine lv_iload_n hx hb dX5_weigh_9 rfl (lv_at hl 3 rfl) ?_
  refine kc_v (va_runS (As := [.ref a, .int (nI v)]) (rest := []) ⟨hx, hb, hml, hown, htT⟩ (c_checkVariant l D cA _ S a (hR.2 j hj a hja).1.1 (nI v) hv) (cwS 2 htT (kg_S m_ml_X5_49 m_st_X5_checkVariant m_in_X5 m_cd_X5_checkVariant) rfl rfl rfl (by decide +kernel) ⟨Nat.le_of_ble_eq_true rfl, Nat.le_of_ble_eq_true rfl⟩) (kp_S hK hP hD hTB) rfl rfl hl.1 rfl (lv_room (Nat.le_of_ble_eq_true rfl)) dX5_weigh_10 ⟨Nat.le_of_ble_eq_true rfl, Nat.le_of_ble_eq_true rfl⟩) hD hS hA (fun x_2 H locs hq_2 hP hD hS => ?_)
  rw [hq_2] at hP hD
  refine lv_aload hx hb dX5_weigh_13 (lv_at hl 0 rfl) ?_
  refine lv_iconst (v := 0) hx hb dX5_weigh_15 (by decide) ?_
  refine kc_i (va_runV (As := [.int 0]) (rest := []) ⟨hx, hb, hml, hown, htT⟩ (c_weightOf l D cA _ S a (hR.2 j hj a hja).1.1 wt hq4 hwt 0) (cwV 1 htT (kg_V m_ml_X5_53 m_im_X3_weightOf m_sl_X3_weightOf m_in_X3 m_cd_X3_weightOf) rfl rfl rfl (by decide +kernel) ⟨Nat.le_of_ble_eq_true rfl, Nat.le_of_ble_eq_true rfl⟩) (kp_V hK hP hD hTB (kp_rc hK hP ((hR.2 j hj a hja).1.1) (Nat.le_of_ble_eq_true rfl) rfl)) rfl rfl hl.1 rfl (lv_room (Nat.le_of_ble_eq_true rfl)) dX5_weigh_16 ⟨Nat.le_of_ble_eq_true rfl, Nat.le_of_ble_eq_true rfl⟩) hD hS hA (fun r_3 x_3 H locs hq_3 hP hD hS => ?_)
  rw [hq_3.1]
  rw [hq_3.2] at hP hD
  refine lv_aload hx hb dX5_weigh_19 (lv_at hl 0 rfl) ?_
  refine lv_iload_n hx hb dX5_weigh_21 rfl (lv_at hl 3 rfl) ?_
  refine kc_i (va_runV (As := [.int (nI v)]) (rest := [.int (cWt S wt 0)]) ⟨hx, hb, hml, hown, htT⟩ (c_weightOf l D cA _ S a (hR.2 j hj a hja).1.1 wt hq4 hwt (nI v)) (cwV 1 htT (kg_V m_ml_X5_53 m_im_X3_weightOf m_sl_X3_weightOf m_in_X3 m_cd_X3_weightOf) rfl rfl rfl (by decide +kernel) ⟨Nat.le_of_ble_eq_true rfl, Nat.le_of_ble_eq_true rfl⟩) (kp_V hK hP hD hTB (kp_rc hK hP ((hR.2 j hj a hja).1.1) (Nat.le_of_ble_eq_true rfl) rfl)) rfl rfl hl.1 rfl (lv_room (Nat.le_of_ble_eq_true rfl)) dX5_weigh_22 ⟨Nat.le_of_ble_eq_true rfl, Nat.le_of_ble_eq_true rfl⟩) hD hS hA (fun r_4 x_4 H locs hq_4 hP hD hS => ?_)
  rw [hq_4.1]
  rw [hq_4.2] at hP hD
  refine lv_iadd hx hb dX5_weigh_25 ?_
  refine lv_iload_n hx hb dX5_weigh_26 rfl (lv_at hl 4 rfl) ?_
  refine lv_isub hx hb dX5_weigh_27 ?_
  refine lv_istore (lv' := [(5, .int (((cWt S wt 0) + (cWt S wt (nI v))) - p2)), (4, .ref a), (0, .ref x), (1, .int p0), (2, .int (nI v)), (3, .int p2)]) hx hb dX5_weigh_28 hl (by decide) rfl (fun ls hl => ?_)
  refine lv_iload_n hx hb dX5_weigh_30 rfl (lv_at hl 4 rfl) ?_
  refine lv_if_eq (tgt := 50) hx hb dX5_weigh_31 (by decide) (fun c_5 => ?_) (fun c_5 => ?_)
  · exact absurd ((nI_eq (a := v) (b := 0) (by omega) (by omega)).mp c_5) hv0
  · replace c_5 : ¬ (v = 0) := fun h9 => c_5 ((nI_eq (a := v) (b := 0) (by omega) (by omega)).mpr h9)
    refine lv_iload_n hx hb dX5_weigh_34 rfl (lv_at hl 5 rfl) ?_
    refine lv_iconst (v := 0) hx hb dX5_weigh_35 (by decide) ?_
    refine lv_sipush (v := 1000) hx hb dX5_weigh_36 (by decide) ?_
    refine kc_i (va_runS (As := [.int p2, .int 0, .int 1000]) (rest := []) ⟨hx, hb, hml, hown, htT⟩ (c_isOutside l D cA _ S p2 0 1000) (cwS 3 htT (kg_S m_ml_X5_22 m_st_X5_isOutside m_in_X5 m_cd_X5_isOutside) rfl rfl rfl (by decide +kernel) ⟨Nat.le_of_ble_eq_true rfl, Nat.le_of_ble_eq_true rfl⟩) (kp_S hK hP hD hTB) rfl rfl hl.1 rfl (lv_room (Nat.le_of_ble_eq_true rfl)) dX5_weigh_39 ⟨Nat.le_of_ble_eq_true rfl, Nat.le_of_ble_eq_true rfl⟩) hD hS hA (fun r_6 x_6 H locs hq_6 hP hD hS => ?_)
    rw [hq_6.1.trans h1]
    rw [hq_6.2] at hP hD
    refine lv_if_ne (tgt := 50) hx hb dX5_weigh_42 (by decide) (fun c_7 => absurd c_7 (by decide)) (fun _ => ?_)
    refine lv_iload hx hb dX5_weigh_45 (lv_at hl 0 rfl) ?_
    refine lv_if_ge (tgt := 60) hx hb dX5_weigh_47 (by decide) (fun c_8 => ?_) (fun c_8 => ?_)
    · exact absurd (by have h9 := hlf; rw [ewt] at h9; exact h9) (Int32.not_lt.mpr c_8)
    · replace c_8 := Int32.not_le.mp c_8
      exact kt_new (text := "no weight that can be moved") hx hb hst hown (Or.inl rfl) (htT _ m_cl_X5_26) (htT _ m_in_IllegalArgumentException) (by decide +kernel) (fun w h => htT w (at_IAE w h)) an_IAE (ag_IAE 26) hTB hTX hK hP hD hS (hl.1.trans hml.symm) dX5_weigh_50 dX5_weigh_53 dX5_weigh_54 dX5_weigh_56 dX5_weigh_59 hTab (Nat.le_of_ble_eq_true rfl) (Nat.le_of_ble_eq_true rfl) (Nat.le_of_ble_eq_true rfl) (Nat.le_of_ble_eq_true rfl) hlocks (Nat.le_of_ble_eq_true rfl) (Nat.le_of_ble_eq_true rfl)

set_option maxRecDepth 100000 in
set_option maxHeartbeats 4000000 in
theorem c_weigh_1 (l : Launch) (hst : l.stackTraces = false) (D : va_G) (cA : Nat → ClassId) (sz : Nat) (S : Pool) (x : Nat) (hx5 : isO S x 5) (ar : Nat) (hq0 : gQ S x 0 = some ar) (ak : Nat) (hq1 : gQ S x 1 = some ak) (hak : isO S ak 1) (hR : okR S ar) (j : Nat) (hj : j < 8) (a : Nat) (hja : gP S ar j = some a) (p0 : Int32) (hsw : kSw S ar p0 = some a) (v : Nat) (hv4 : v < 4) (hv : kOut (nI v) 0 (gI S a 2 - 1) = 0) (hv0 : v ≠ 0) (p2 : Int32) (h1 : kOut p2 0 1000 = 1) : vx_Met l yX5_weigh (Cond.code yX5_weigh cX5_weigh 6 (some .int) :: TT) ({ frames := 6, cells := 1, slots := 6, locals := 82 }) (va_Pc [.ref x, .int p0, .int (nI v), .int p2] (kPreX D cA (PW cA S) sz)) kNo (kXC D cA (PW cA S) "java/lang/IllegalArgumentException" (va_A (PW cA S) sz)) 1 6 (va_A (PW cA S) sz) := by
  refine vx_ofW (cc := cX5_weigh) (maxL := 6) (ret := (some .int)) (by decide) rfl ?_
  intro p e s m args below meth c s₁ B hml hTab hv
  obtain ⟨rfl, ⟨hsz, hP, hK, hD0, hTB⟩, hTX⟩ := hv
  have hx := B.exec
  have hb := B.bytes
  have hr := B.returns
  have hts := atoms_spec (ws := Cond.code yX5_weigh cX5_weigh 6 (some .int) :: TT) B.pre
  have htT : ∀ w ∈ TT, w.before _ s = true := fun w h => hts w (List.mem_cons_of_mem _ h)
  have hown : s.vm.findClass RX5 = some m.cls := findClass_of_methodNamed B.named
  have hlocks := B.notSynchronized
  subst hsz
  have hD := hD0.self (sz := s.heap.size)
  generalize hAe : va_A (PW cA S) s.heap.size = A at hD hTX ⊢
  have hA : ∀ q : Nat, s.heap.size ≤ q → A q := fun q h => by rw [← hAe]; exact Or.inr h
  have hS : va_S A s.heap s.heap [] := va_S.rf
  have hl := lv_entry ([.ref x, .int p0, .int (nI v), .int p2]) (n := 6) (Nat.le_of_ble_eq_true rfl)
  rw [lg_entry_eq]
  generalize (lg_sl ([.ref x, .int p0, .int (nI v), .int p2]) ++ List.replicate (6 - (lg_sl ([.ref x, .int p0, .int (nI v), .int p2])).length) Slot.unset).toArray = ls at hl ⊢
  have hl : lv_has ls 6 [(0, .ref x), (1, .int p0), (2, .int (nI v)), (3, .int p2)] := hl
  obtain ⟨-, ⟨wt, hq4, hwt⟩, -⟩ := (hR.2 j hj a hja).1
  have ewt : wtA S a = wt := by simp [wtA, hq4]
  refine lv_aload_n hx hb dX5_weigh_0 rfl (lv_at hl 0 rfl) ?_
  refine lv_iload_n hx hb dX5_weigh_1 rfl (lv_at hl 1 rfl) ?_
  refine kc_q (va_runV (As := [.int p0]) (rest := []) ⟨hx, hb, hml, hown, htT⟩ (c_known l D cA _ S x hx5 ar hq0 hR.1 p0 a hsw) (cwV 1 htT (kg_V m_ml_X5_45 m_im_X5_known m_sl_X5_known m_in_X5 m_cd_X5_known) rfl rfl rfl (by decide +kernel) ⟨Nat.le_of_ble_eq_true rfl, Nat.le_of_ble_eq_true rfl⟩) (kp_V hK hP hD hTB (kp_rc hK hP hx5 (Nat.le_of_ble_eq_true rfl) rfl)) rfl rfl hl.1 rfl (lv_room (Nat.le_of_ble_eq_true rfl)) dX5_weigh_2 ⟨Nat.le_of_ble_eq_true rfl, Nat.le_of_ble_eq_true rfl⟩) hD hS hA (fun r_1 x_1 H locs hq_1 hP hD hS => ?_)
  rw [hq_1.1]
  rw [hq_1.2] at hP hD
  refine lv_astore (lv' := [(4, .ref a), (0, .ref x), (1, .int p0), (2, .int (nI v)), (3, .int p2)]) hx hb dX5_weigh_5 hl (by decide) rfl (fun ls hl => ?_)
  refine lv_aload hx hb dX5_weigh_7 (lv_at hl 0 rfl) ?_
  refine lv_iload_n hx hb dX5_weigh_9 rfl (lv_at hl 3 rfl) ?_
  refine kc_v (va_runS (As := [.ref a, .int (nI v)]) (rest := []) ⟨hx, hb, hml, hown, htT⟩ (c_checkVariant l D cA _ S a (hR.2 j hj a hja).1.1 (nI v) hv) (cwS 2 htT (kg_S m_ml_X5_49 m_st_X5_checkVariant m_in_X5 m_cd_X5_checkVariant) rfl rfl rfl (by decide +kernel) ⟨Nat.le_of_ble_eq_true rfl, Nat.le_of_ble_eq_true rfl⟩) (kp_S hK hP hD hTB) rfl rfl hl.1 rfl (lv_room (Nat.le_of_ble_eq_true rfl)) dX5_weigh_10 ⟨Nat.le_of_ble_eq_true rfl, Nat.le_of_ble_eq_true rfl⟩) hD hS hA (fun x_2 H locs hq_2 hP hD hS => ?_)
  rw [hq_2] at hP hD
  refine lv_aload hx hb dX5_weigh_13 (lv_at hl 0 rfl) ?_
  refine lv_iconst (v := 0) hx hb dX5_weigh_15 (by decide) ?_
  refine kc_i (va_runV (As := [.int 0]) (rest := []) ⟨hx, hb, hml, hown, htT⟩ (c_weightOf l D cA _ S a (hR.2 j hj a hja).1.1 wt hq4 hwt 0) (cwV 1 htT (kg_V m_ml_X5_53 m_im_X3_weightOf m_sl_X3_weightOf m_in_X3 m_cd_X3_weightOf) rfl rfl rfl (by decide +kernel) ⟨Nat.le_of_ble_eq_true rfl, Nat.le_of_ble_eq_true rfl⟩) (kp_V hK hP hD hTB (kp_rc hK hP ((hR.2 j hj a hja).1.1) (Nat.le_of_ble_eq_true rfl) rfl)) rfl rfl hl.1 rfl (lv_room (Nat.le_of_ble_eq_true rfl)) dX5_weigh_16 ⟨Nat.le_of_ble_eq_true rfl, Nat.le_of_ble_eq_true rfl⟩) hD hS hA (fun r_3 x_3 H locs hq_3 hP hD hS => ?_)
  rw [hq_3.1]
  rw [hq_3.2] at hP hD
  refine lv_aload hx hb dX5_weigh_19 (lv_at hl 0 rfl) ?_
  refine lv_iload_n hx hb dX5_weigh_21 rfl (lv_at hl 3 rfl) ?_
  refine kc_i (va_runV (As := [.int (nI v)]) (rest := [.int (cWt S wt 0)]) ⟨hx, hb, hml, hown, htT⟩ (c_weightOf l D cA _ S a (hR.2 j hj a hja).1.1 wt hq4 hwt (nI v)) (cwV 1 htT (kg_V m_ml_X5_53 m_im_X3_weightOf m_sl_X3_weightOf m_in_X3 m_cd_X3_weightOf) rfl rfl rfl (by decide +kernel) ⟨Nat.le_of_ble_eq_true rfl, Nat.le_of_ble_eq_true rfl⟩) (kp_V hK hP hD hTB (kp_rc hK hP ((hR.2 j hj a hja).1.1) (Nat.le_of_ble_eq_true rfl) rfl)) rfl rfl hl.1 rfl (lv_room (Nat.le_of_ble_eq_true rfl)) dX5_weigh_22 ⟨Nat.le_of_ble_eq_true rfl, Nat.le_of_ble_eq_true rfl⟩) hD hS hA (fun r_4 x_4 H locs hq_4 hP hD hS => ?_)
  rw [hq_4.1]
  rw [hq_4.2] at hP hD
  refine lv_iadd hx hb dX5_weigh_25 ?_
  refine lv_iload_n hx hb dX5_weigh_26 rfl (lv_at hl 4 rfl) ?_
  refine lv_isub hx hb dX5_weigh_27 ?_
  refine lv_istore (lv' := [(5, .int (((cWt S wt 0) + (cWt S wt (nI v))) - p2)), (4, .ref a), (0, .ref x), (1, .int p0), (2, .int (nI v)), (3, .int p2)]) hx hb dX5_weigh_28 hl (by decide) rfl (fun ls hl => ?_)
  refine lv_iload_n hx hb dX5_weigh_30 rfl (lv_at hl 4 rfl) ?_
  refine lv_if_eq (tgt := 50) hx hb dX5_weigh_31 (by decide) (fun c_5 => ?_) (fun c_5 => ?_)
  · exact absurd ((nI_eq (a := v) (b := 0) (by omega) (by omega)).mp c_5) hv0
  · replace c_5 : ¬ (v = 0) := fun h9 => c_5 ((nI_eq (a := v) (b := 0) (by omega) (by omega)).mpr h9)
    refine lv_iload_n hx hb dX5_weigh_34 rfl (lv_at hl 5 rfl) ?_
    refine lv_iconst (v := 0) hx hb dX5_weigh_35 (by decide) ?_
    refine lv_sipush (v := 1000) hx hb dX5_weigh_36 (by decide) ?_
    refine kc_i (va_runS (As := [.int p2, .int 0, .int 1000]) (rest := []) ⟨hx, hb, hml, hown, htT⟩ (c_isOutside l D cA _ S p2 0 1000) (cwS 3 htT (kg_S m_ml_X5_22 m_st_X5_isOutside m_in_X5 m_cd_X5_isOutside) rfl rfl rfl (by decide +kernel) ⟨Nat.le_of_ble_eq_true rfl, Nat.le_of_ble_eq_true rfl⟩) (kp_S hK hP hD hTB) rfl rfl hl.1 rfl (lv_room (Nat.le_of_ble_eq_true rfl)) dX5_weigh_39 ⟨Nat.le_of_ble_eq_true rfl, Nat.le_of_ble_eq_true rfl⟩) hD hS hA (fun r_6 x_6 H locs hq_6 hP hD hS => ?_)
    rw [hq_6.1.trans h1]
    rw [hq_6.2] at hP hD
    refine lv_if_ne (tgt := 50) hx hb dX5_weigh_42 (by decide) (fun _ => ?_) (fun c_7 => absurd c_7 (by decide))
    exact kt_new (text := "no weight that can be moved") hx hb hst hown (Or.inl rfl) (htT _ m_cl_X5_26) (htT _ m_in_IllegalArgumentException) (by decide +kernel) (fun w h => htT w (at_IAE w h)) an_IAE (ag_IAE 26) hTB hTX hK hP hD hS (hl.1.trans hml.symm) dX5_weigh_50 dX5_weigh_53 dX5_weigh_54 dX5_weigh_56 dX5_weigh_59 hTab (Nat.le_of_ble_eq_true rfl) (Nat.le_of_ble_eq_true rfl) (Nat.le_of_ble_eq_true rfl) (Nat.le_of_ble_eq_true rfl) hlocks (Nat.le_of_ble_eq_true rfl) (Nat.le_of_ble_eq_true rfl)

set_option maxRecDepth 100000 in
set_option maxHeartbeats 4000000 in
theorem c_weigh_z (l : Launch) (hst : l.stackTraces = false) (D : va_G) (cA : Nat → ClassId) (sz : Nat) (S : Pool) (x : Nat) (hx5 : isO S x 5) (ar : Nat) (hq0 : gQ S x 0 = some ar) (ak : Nat) (hq1 : gQ S x 1 = some ak) (hak : isO S ak 1) (hR : okR S ar) (j : Nat) (hj : j < 8) (a : Nat) (hja : gP S ar j = some a) (p0 : Int32) (hsw : kSw S ar p0 = some a) (hv : kOut 0 0 (gI S a 2 - 1) = 0) (p2 : Int32) : vx_Met l yX5_weigh (Cond.code yX5_weigh cX5_weigh 6 (some .int) :: TT) ({ frames := 6, cells := 1, slots := 6, locals := 82 }) (va_Pc [.ref x, .int p0, .int 0, .int p2] (kPreX D cA (PW cA S) sz)) kNo (kXC D cA (PW cA S) "java/lang/IllegalArgumentException" (va_A (PW cA S) sz)) 1 6 (va_A (PW cA S) sz) := by
  refine vx_ofW (cc := cX5_weigh) (maxL := 6) (ret := (some .int)) (by decide) rfl ?_
  intro p e s m args below meth c s₁ B hml hTab hv
  obtain ⟨rfl, ⟨hsz, hP, hK, hD0, hTB⟩, hTX⟩ := hv
  have hx := B.exec
  have hb := B.bytes
  have hr := B.returns
  have hts := atoms_spec (ws := Cond.code yX5_weigh cX5_weigh 6 (some .int) :: TT) B.pre
  have htT : ∀ w ∈ TT, w.before _ s = true := fun w h => hts w (List.mem_cons_of_mem _ h)
  have hown : s.vm.findClass RX5 = some m.cls := findClass_of_methodNamed B.named
  have hlocks := B.notSynchronized
  subst hsz
  have hD := hD0.self (sz := s.heap.size)
  generalize hAe : va_A (PW cA S) s.heap.size = A at hD hTX ⊢
  have hA : ∀ q : Nat, s.heap.size ≤ q → A q := fun q h => by rw [← hAe]; exact Or.inr h
  have hS : va_S A s.heap s.heap [] := va_S.rf
  have hl := lv_entry ([.ref x, .int p0, .int 0, .int p2]) (n := 6) (Nat.le_of_ble_eq_true rfl)
  rw [lg_entry_eq]
  generalize (lg_sl ([.ref x, .int p0, .int 0, .int p2]) ++ List.replicate (6 - (lg_sl ([.ref x, .int p0, .int 0, .int p2])).length) Slot.unset).toArray = ls at hl ⊢
  have hl : lv_has ls 6 [(0, .ref x), (1, .int p0), (2, .int 0), (3, .int p2)] := hl
  obtain ⟨-, ⟨wt, hq4, hwt⟩, -⟩ := (hR.2 j hj a hja).1
  have ewt : wtA S a = wt := by simp [wtA, hq4]
  refine lv_aload_n hx hb dX5_weigh_0 rfl (lv_at hl 0 rfl) ?_
  refine lv_iload_n hx hb dX5_weigh_1 rfl (lv_at hl 1 rfl) ?_
  refine kc_q (va_runV (As := [.int p0]) (rest := []) ⟨hx, hb, hml, hown, htT⟩ (c_known l D cA _ S x hx5 ar hq0 hR.1 p0 a hsw) (cwV 1 htT (kg_V m_ml_X5_45 m_im_X5_known m_sl_X5_known m_in_X5 m_cd_X5_known) rfl rfl rfl (by decide +kernel) ⟨Nat.le_of_ble_eq_true rfl, Nat.le_of_ble_eq_true rfl⟩) (kp_V hK hP hD hTB (kp_rc hK hP hx5 (Nat.le_of_ble_eq_true rfl) rfl)) rfl rfl hl.1 rfl (lv_room (Nat.le_of_ble_eq_true rfl)) dX5_weigh_2 ⟨Nat.le_of_ble_eq_true rfl, Nat.le_of_ble_eq_true rfl⟩) hD hS hA (fun r_1 x_1 H locs hq_1 hP hD hS => ?_)
  rw [hq_1.1]
  rw [hq_1.2] at hP hD
  refine lv_astore (lv' := [(4, .ref a), (0, .ref x), (1, .int p0), (2, .int 0), (3, .int p2)]) hx hb dX5_weigh_5 hl (by decide) rfl (fun ls hl => ?_)
  refine lv_aload hx hb dX5_weigh_7 (lv_at hl 0 rfl) ?_
  refine lv_iload_n hx hb dX5_weigh_9 rfl (lv_at hl 3 rfl) ?_
  refine kc_v (va_runS (As := [.ref a, .int 0]) (rest := []) ⟨hx, hb, hml, hown, htT⟩ (c_checkVariant l D cA _ S a (hR.2 j hj a hja).1.1 0 hv) (cwS 2 htT (kg_S m_ml_X5_49 m_st_X5_checkVariant m_in_X5 m_cd_X5_checkVariant) rfl rfl rfl (by decide +kernel) ⟨Nat.le_of_ble_eq_true rfl, Nat.le_of_ble_eq_true rfl⟩) (kp_S hK hP hD hTB) rfl rfl hl.1 rfl (lv_room (Nat.le_of_ble_eq_true rfl)) dX5_weigh_10 ⟨Nat.le_of_ble_eq_true rfl, Nat.le_of_ble_eq_true rfl⟩) hD hS hA (fun x_2 H locs hq_2 hP hD hS => ?_)
  rw [hq_2] at hP hD
  refine lv_aload hx hb dX5_weigh_13 (lv_at hl 0 rfl) ?_
  refine lv_iconst (v := 0) hx hb dX5_weigh_15 (by decide) ?_
  refine kc_i (va_runV (As := [.int 0]) (rest := []) ⟨hx, hb, hml, hown, htT⟩ (c_weightOf l D cA _ S a (hR.2 j hj a hja).1.1 wt hq4 hwt 0) (cwV 1 htT (kg_V m_ml_X5_53 m_im_X3_weightOf m_sl_X3_weightOf m_in_X3 m_cd_X3_weightOf) rfl rfl rfl (by decide +kernel) ⟨Nat.le_of_ble_eq_true rfl, Nat.le_of_ble_eq_true rfl⟩) (kp_V hK hP hD hTB (kp_rc hK hP ((hR.2 j hj a hja).1.1) (Nat.le_of_ble_eq_true rfl) rfl)) rfl rfl hl.1 rfl (lv_room (Nat.le_of_ble_eq_true rfl)) dX5_weigh_16 ⟨Nat.le_of_ble_eq_true rfl, Nat.le_of_ble_eq_true rfl⟩) hD hS hA (fun r_3 x_3 H locs hq_3 hP hD hS => ?_)
  rw [hq_3.1]
  rw [hq_3.2] at hP hD
  refine lv_aload hx hb dX5_weigh_19 (lv_at hl 0 rfl) ?_
  refine lv_iload_n hx hb dX5_weigh_21 rfl (lv_at hl 3 rfl) ?_
  refine kc_i (va_runV (As := [.int 0]) (rest := [.int (cWt S wt 0)]) ⟨hx, hb, hml, hown, htT⟩ (c_weightOf l D cA _ S a (hR.2 j hj a hja).1.1 wt hq4 hwt 0) (cwV 1 htT (kg_V m_ml_X5_53 m_im_X3_weightOf m_sl_X3_weightOf m_in_X3 m_cd_X3_weightOf) rfl rfl rfl (by decide +kernel) ⟨Nat.le_of_ble_eq_true rfl, Nat.le_of_ble_eq_true rfl⟩) (kp_V hK hP hD hTB (kp_rc hK hP ((hR.2 j hj a hja).1.1) (Nat.le_of_ble_eq_true rfl) rfl)) rfl rfl hl.1 rfl (lv_room (Nat.le_of_ble_eq_true rfl)) dX5_weigh_22 ⟨Nat.le_of_ble_eq_true rfl, Nat.le_of_ble_eq_true rfl⟩) hD hS hA (fun r_4 x_4 H locs hq_4 hP hD hS => ?_)
  rw [hq_4.1]
  rw [hq_4.2] at hP hD
  refine lv_iadd hx hb dX5_weigh_25 ?_
  refine lv_iload_n hx hb dX5_weigh_26 rfl (lv_at hl 4 rfl) ?_
  refine lv_isub hx hb dX5_weigh_27 ?_
  refine lv_istore (lv' := [(5, .int (((cWt S wt 0) + (cWt S wt 0)) - p2)), (4, .ref a), (0, .ref x), (1, .int p0), (2, .int 0), (3, .int p2)]) hx hb dX5_weigh_28 hl (by decide) rfl (fun ls hl => ?_)
  refine lv_iload_n hx hb dX5_weigh_30 rfl (lv_at hl 4 rfl) ?_
  refine lv_if_eq (tgt := 50) hx hb dX5_weigh_31 (by decide) (fun _ => ?_) (fun c_5 => absurd c_5 (by decide))
  exact kt_new (text := "no weight that can be moved") hx hb hst hown (Or.inl rfl) (htT _ m_cl_X5_26) (htT _ m_in_IllegalArgumentException) (by decide +kernel) (fun w h => htT w (at_IAE w h)) an_IAE (ag_IAE 26) hTB hTX hK hP hD hS (hl.1.trans hml.symm) dX5_weigh_50 dX5_weigh_53 dX5_weigh_54 dX5_weigh_56 dX5_weigh_59 hTab (Nat.le_of_ble_eq_true rfl) (Nat.le_of_ble_eq_true rfl) (Nat.le_of_ble_eq_true rfl) (Nat.le_of_ble_eq_true rfl) hlocks (Nat.le_of_ble_eq_true rfl) (Nat.le_of_ble_eq_true rfl)

set_option maxRecDepth 100000 in
set_option maxHeartbeats 4000000 in
theorem c_need_n (l : Launch) (D : va_G) (cA : Nat → ClassId) (sz : Nat) (S : Pool) (x : Nat) (hx5 : isO S x 5) (ar : Nat) (hq0 : gQ S x 0 = some ar) (ak : Nat) (hq1 : gQ S x 1 = some ak) (hak : isO S ak 1) (hR : okR S ar) (j : Nat) (hj : j < 8) (a : Nat) (hja : gP S ar j = some a) (p0 : Int32) (hsw : kSw S ar p0 = some a) (p2 : Int32) : Met l yX5_need (Cond.code yX5_need cX5_need 6 (some .int) :: TT) ({ frames := 2, cells := 0, slots := 0, locals := 43 }) (va_Pc [.ref x, .int p0, .int (-1), .int p2] (kPre D cA (PW cA S) sz)) (va_Qi (fun (r_ : Int32) (x_ : Pool) => r_ = gI S a 16 ∧ x_ = pI (pI S a 16 (-1)) a 17 p2) (fun x_ => kB D cA (va_A (PW cA S) sz) (PW cA x_)) (va_A (PW cA S) sz)) 0 0 (va_A (PW cA S) sz) := by
  refine Met.ofW (cc := cX5_need) (maxL := 6) (ret := (some .int)) (by decide) rfl ?_
  intro p e s m args below meth c s₁ B hml hv
  obtain ⟨rfl, hsz, hP, hK, hD0, hTB⟩ := hv
  have hx := B.exec
  have hb := B.bytes
  have hr := B.returns
  have hts := atoms_spec (ws := Cond.code yX5_need cX5_need 6 (some .int) :: TT) B.pre
  have htT : ∀ w ∈ TT, w.before _ s = true := fun w h => hts w (List.mem_cons_of_mem _ h)
  have hown : s.vm.findClass RX5 = some m.cls := findClass_of_methodNamed B.named
  have hlocks := B.notSynchronized
  subst hsz
  have hD := hD0.self (sz := s.heap.size)
  generalize hAe : va_A (PW cA S) s.heap.size = A at hD ⊢
  have hA : ∀ q : Nat, s.heap.size ≤ q → A q := fun q h => by rw [← hAe]; exact Or.inr h
  have hS : va_S A s.heap s.heap [] := va_S.rf
  have hl := lv_entry ([.ref x, .int p0, .int (-1), .int p2]) (n := 6) (Nat.le_of_ble_eq_true rfl)
  rw [lg_entry_eq]
  generalize (lg_sl ([.ref x, .int p0, .int (-1), .int p2]) ++ List.replicate (6 - (lg_sl ([.ref x, .int p0, .int (-1), .int p2])).length) Slot.unset).toArray = ls at hl ⊢
  have hl : lv_has ls 6 [(0, .ref x), (1, .int p0), (2, .int (-1)), (3, .int p2)] := hl
  refine lv_aload_n hx hb dX5_need_0 rfl (lv_at hl 0 rfl) ?_
  refine lv_iload_n hx hb dX5_need_1 rfl (lv_at hl 1 rfl) ?_
  refine kc_q (va_runV (As := [.int p0]) (rest := []) ⟨hx, hb, hml, hown, htT⟩ (c_known l D cA _ S x hx5 ar hq0 hR.1 p0 a hsw) (cwV 1 htT (kg_V m_ml_X5_45 m_im_X5_known m_sl_X5_known m_in_X5 m_cd_X5_known) rfl rfl rfl (by decide +kernel) ⟨Nat.le_of_ble_eq_true rfl, Nat.le_of_ble_eq_true rfl⟩) (kp_V hK hP hD hTB (kp_rc hK hP hx5 (Nat.le_of_ble_eq_true rfl) rfl)) rfl rfl hl.1 rfl (lv_room (Nat.le_of_ble_eq_true rfl)) dX5_need_2 ⟨Nat.le_of_ble_eq_true rfl, Nat.le_of_ble_eq_true rfl⟩) hD hS hA (fun r_1 x_1 H locs hq_1 hP hD hS => ?_)
  rw [hq_1.1]
  rw [hq_1.2] at hP hD
  refine lv_astore (lv' := [(4, .ref a), (0, .ref x), (1, .int p0), (2, .int (-1)), (3, .int p2)]) hx hb dX5_need_5 hl (by decide) rfl (fun ls hl => ?_)
  refine lv_iload_n hx hb dX5_need_7 rfl (lv_at hl 3 rfl) ?_
  refine lv_iconst (v := (-1)) hx hb dX5_need_8 (by decide) ?_
  refine lv_icmp_eq (tgt := 36) hx hb dX5_need_9 (by decide) (fun _ => ?_) (fun c_2 => absurd c_2 (by decide))
  refine lv_aload hx hb dX5_need_36 (lv_at hl 0 rfl) ?_
  refine kx_getiN hx hb htT m_u_X3 hown hK hP ((hR.2 j hj a hja).1.1) (Nat.le_of_ble_eq_true rfl) rfl 16 (by decide) (by decide) rfl (hTB.use m_fl_X5_99) dX5_need_38 ?_
  refine lv_istore (lv' := [(5, .int (gI S a 16)), (4, .ref a), (0, .ref x), (1, .int p0), (2, .int (-1)), (3, .int p2)]) hx hb dX5_need_41 hl (by decide) rfl (fun ls hl => ?_)
  refine lv_aload hx hb dX5_need_43 (lv_at hl 1 rfl) ?_
  refine lv_iload_n hx hb dX5_need_45 rfl (lv_at hl 4 rfl) ?_
  refine kx_putiN (ty := .int) hx hb htT m_u_X3 tyX3 tyX3_ok nmX3 hown hK hP hD hS ((hR.2 j hj a hja).1.1) (Nat.le_of_ble_eq_true rfl) rfl 16 (by decide) (by decide) rfl (hTB.use m_fl_X5_99) rfl (by decide +kernel) rfl rfl dX5_need_46 (fun H locs hP hD hS => ?_)
  refine lv_aload hx hb dX5_need_49 (lv_at hl 1 rfl) ?_
  refine lv_iload_n hx hb dX5_need_51 rfl (lv_at hl 5 rfl) ?_
  refine kx_putiN (ty := .int) hx hb htT m_u_X3 tyX3 tyX3_ok nmX3 hown hK hP hD hS ((hR.2 j hj a hja).1.1) (Nat.le_of_ble_eq_true rfl) rfl 17 (by decide) (by decide) rfl (hTB.use m_fl_X5_102) rfl (by decide +kernel) rfl rfl dX5_need_52 (fun H locs hP hD hS => ?_)
  refine lv_iload hx hb dX5_need_55 (lv_at hl 0 rfl) ?_
  exact W.iret (v := gI S a 16) hx hb hr (fun t ht hW => ⟨⟨gI S a 16, pI (pI S a 16 (-1)) a 17 p2, rfl, ⟨rfl, rfl⟩, by rw [ht]; exact hP, va_K.moved hW.alike hK, hD⟩, hS.F ht⟩) hS.2.2 dX5_need_57

set_option maxRecDepth 100000 in
set_option maxHeartbeats 4000000 in
theorem c_arm_1 (l : Launch) (hst : l.stackTraces = false) (D : va_G) (cA : Nat → ClassId) (sz : Nat) (S : Pool) (x : Nat) (hx5 : isO S x 5) (ar : Nat) (hq0 : gQ S x 0 = some ar) (ak : Nat) (hq1 : gQ S x 1 = some ak) (hak : isO S ak 1) (hR : okR S ar) (j : Nat) (hj : j < 8) (a : Nat) (hja : gP S ar j = some a) (p0 : Int32) (hsw : kSw S ar p0 = some a) (p1 : Int32) (h1 : kOut p1 0 9999 = 1) : vx_Met l yX5_arm (Cond.code yX5_arm cX5_arm 5 (some .int) :: TT) ({ frames := 6, cells := 1, slots := 6, locals := 82 }) (va_Pc [.ref x, .int p0, .int p1] (kPreX D cA (PW cA S) sz)) kNo (kXC D cA (PW cA S) "java/lang/IllegalArgumentException" (va_A (PW cA S) sz)) 1 6 (va_A (PW cA S) sz) := by
  refine vx_ofW (cc := cX5_arm) (maxL := 5) (ret := (some .int)) (by decide) rfl ?_
  intro p e s m args below meth c s₁ B hml hTab hv
  obtain ⟨rfl, ⟨hsz, hP, hK, hD0, hTB⟩, hTX⟩ := hv
  have hx := B.exec
  have hb := B.bytes
  have hr := B.returns
  have hts := atoms_spec (ws := Cond.code yX5_arm cX5_arm 5 (some .int) :: TT) B.pre
  have htT : ∀ w ∈ TT, w.before _ s = true := fun w h => hts w (List.mem_cons_of_mem _ h)
  have hown : s.vm.findClass RX5 = some m.cls := findClass_of_methodNamed B.named
  have hlocks := B.notSynchronized
  subst hsz
  have hD := hD0.self (sz := s.heap.size)
  generalize hAe : va_A (PW cA S) s.heap.size = A at hD hTX ⊢
  have hA : ∀ q : Nat, s.heap.size ≤ q → A q := fun q h => by rw [← hAe]; exact Or.inr h
  have hS : va_S A s.heap s.heap [] := va_S.rf
  have hl := lv_entry ([.ref x, .int p0, .int p1]) (n := 5) (Nat.le_of_ble_eq_true rfl)
  rw [lg_entry_eq]
  generalize (lg_sl ([.ref x, .int p0, .int p1]) ++ List.replicate (5 - (lg_sl ([.ref x, .int p0, .int p1])).length) Slot.unset).toArray = ls at hl ⊢
  have hl : lv_has ls 5 [(0, .ref x), (1, .int p0), (2, .int p1)] := hl
  refine lv_aload_n hx hb dX5_arm_0 rfl (lv_at hl 0 rfl) ?_
  refine lv_iload_n hx hb dX5_arm_1 rfl (lv_at hl 1 rfl) ?_
  refine kc_q (va_runV (As := [.int p0]) (rest := []) ⟨hx, hb, hml, hown, htT⟩ (c_known l D cA _ S x hx5 ar hq0 hR.1 p0 a hsw) (cwV 1 htT (kg_V m_ml_X5_45 m_im_X5_known m_sl_X5_known m_in_X5 m_cd_X5_known) rfl rfl rfl (by decide +kernel) ⟨Nat.le_of_ble_eq_true rfl, Nat.le_of_ble_eq_true rfl⟩) (kp_V hK hP hD hTB (kp_rc hK hP hx5 (Nat.le_of_ble_eq_true rfl) rfl)) rfl rfl hl.1 rfl (lv_room (Nat.le_of_ble_eq_true rfl)) dX5_arm_2 ⟨Nat.le_of_ble_eq_true rfl, Nat.le_of_ble_eq_true rfl⟩) hD hS hA (fun r_1 x_1 H locs hq_1 hP hD hS => ?_)
  rw [hq_1.1]
  rw [hq_1.2] at hP hD
  refine lv_astore_n (lv' := [(3, .ref a), (0, .ref x), (1, .int p0), (2, .int p1)]) hx hb dX5_arm_5 rfl hl (by decide) rfl (fun ls hl => ?_)
  refine lv_iload_n hx hb dX5_arm_6 rfl (lv_at hl 3 rfl) ?_
  refine lv_iconst (v := 0) hx hb dX5_arm_7 (by decide) ?_
  refine lv_sipush (v := 9999) hx hb dX5_arm_8 (by decide) ?_
  refine kc_i (va_runS (As := [.int p1, .int 0, .int 9999]) (rest := []) ⟨hx, hb, hml, hown, htT⟩ (c_isOutside l D cA _ S p1 0 9999) (cwS 3 htT (kg_S m_ml_X5_22 m_st_X5_isOutside m_in_X5 m_cd_X5_isOutside) rfl rfl rfl (by decide +kernel) ⟨Nat.le_of_ble_eq_true rfl, Nat.le_of_ble_eq_true rfl⟩) (kp_S hK hP hD hTB) rfl rfl hl.1 rfl (lv_room (Nat.le_of_ble_eq_true rfl)) dX5_arm_11 ⟨Nat.le_of_ble_eq_true rfl, Nat.le_of_ble_eq_true rfl⟩) hD hS hA (fun r_2 x_2 H locs hq_2 hP hD hS => ?_)
  rw [hq_2.1.trans h1]
  rw [hq_2.2] at hP hD
  refine lv_if_eq (tgt := 27) hx hb dX5_arm_14 (by decide) (fun c_3 => absurd c_3 (by decide)) (fun _ => ?_)
  exact kt_new (text := "user out of range") hx hb hst hown (Or.inl rfl) (htT _ m_cl_X5_26) (htT _ m_in_IllegalArgumentException) (by decide +kernel) (fun w h => htT w (at_IAE w h)) an_IAE (ag_IAE 26) hTB hTX hK hP hD hS (hl.1.trans hml.symm) dX5_arm_17 dX5_arm_20 dX5_arm_21 dX5_arm_23 dX5_arm_26 hTab (Nat.le_of_ble_eq_true rfl) (Nat.le_of_ble_eq_true rfl) (Nat.le_of_ble_eq_true rfl) (Nat.le_of_ble_eq_true rfl) hlocks (Nat.le_of_ble_eq_true rfl) (Nat.le_of_ble_eq_true rfl)

def cArmV (S : Pool) (r : Option Nat) : Int32 := match r with
  | none => -1
  | some m => gI S m 1
set_option maxRecDepth 100000 in
set_option maxHeartbeats 4000000 in
theorem c_arm (l : Launch) (D : va_G) (cA : Nat → ClassId) (sz : Nat) (S : Pool) (x : Nat) (hx5 : isO S x 5) (ar : Nat) (hq0 : gQ S x 0 = some ar) (ak : Nat) (hq1 : gQ S x 1 = some ak) (hak : isO S ak 1) (hR : okR S ar) (j : Nat) (hj : j < 8) (a : Nat) (hja : gP S ar j = some a) (p0 : Int32) (hsw : kSw S ar p0 = some a) (p1 : Int32) (h1 : kOut p1 0 9999 = 0) : Met l yX5_arm (Cond.code yX5_arm cX5_arm 5 (some .int) :: TT) ({ frames := 2, cells := 0, slots := 0, locals := 43 }) (va_Pc [.ref x, .int p0, .int p1] (kPre D cA (PW cA S) sz)) (va_Qi (fun (r_ : Int32) (x_ : Pool) => r_ = cArmV S (cArmA S a p1) ∧ x_ = S) (fun x_ => kB D cA (va_A (PW cA S) sz) (PW cA x_)) (va_A (PW cA S) sz)) 0 0 (va_A (PW cA S) sz) := by
  refine Met.ofW (cc := cX5_arm) (maxL := 5) (ret := (some .int)) (by decide) rfl ?_
  intro p e s m args below meth c s₁ B hml hv
  obtain ⟨rfl, hsz, hP, hK, hD0, hTB⟩ := hv
  have hx := B.exec
  have hb := B.bytes
  have hr := B.returns
  have hts := atoms_spec (ws := Cond.code yX5_arm cX5_arm 5 (some .int) :: TT) B.pre
  have htT : ∀ w ∈ TT, w.before _ s = true := fun w h => hts w (List.mem_cons_of_mem _ h)
  have hown : s.vm.findClass RX5 = some m.cls := findClass_of_methodNamed B.named
  have hlocks := B.notSynchronized
  subst hsz
  have hD := hD0.self (sz := s.heap.size)
  generalize hAe : va_A (PW cA S) s.heap.size = A at hD ⊢
  have hA : ∀ q : Nat, s.heap.size ≤ q → A q := fun q h => by rw [← hAe]; exact Or.inr h
  have hS : va_S A s.heap s.heap [] := va_S.rf
  have hl := lv_entry ([.ref x, .int p0, .int p1]) (n := 5) (Nat.le_of_ble_eq_true rfl)
  rw [lg_entry_eq]
  generalize (lg_sl ([.ref x, .int p0, .int p1]) ++ List.replicate (5 - (lg_sl ([.ref x, .int p0, .int p1])).length) Slot.unset).toArray = ls at hl ⊢
  have hl : lv_has ls 5 [(0, .ref x), (1, .int p0), (2, .int p1)] := hl
  obtain ⟨-, -, -, ⟨cn, hcn, hch⟩, -⟩ := (hR.2 j hj a hja).1
  have earm : ∀ u, cArm S u cn (gQ S a 7) = cArmA S a u := fun u => cArm_fuel cn 100 _ hch hcn
  refine lv_aload_n hx hb dX5_arm_0 rfl (lv_at hl 0 rfl) ?_
  refine lv_iload_n hx hb dX5_arm_1 rfl (lv_at hl 1 rfl) ?_
  refine kc_q (va_runV (As := [.int p0]) (rest := []) ⟨hx, hb, hml, hown, htT⟩ (c_known l D cA _ S x hx5 ar hq0 hR.1 p0 a hsw) (cwV 1 htT (kg_V m_ml_X5_45 m_im_X5_known m_sl_X5_known m_in_X5 m_cd_X5_known) rfl rfl rfl (by decide +kernel) ⟨Nat.le_of_ble_eq_true rfl, Nat.le_of_ble_eq_true rfl⟩) (kp_V hK hP hD hTB (kp_rc hK hP hx5 (Nat.le_of_ble_eq_true rfl) rfl)) rfl rfl hl.1 rfl (lv_room (Nat.le_of_ble_eq_true rfl)) dX5_arm_2 ⟨Nat.le_of_ble_eq_true rfl, Nat.le_of_ble_eq_true rfl⟩) hD hS hA (fun r_1 x_1 H locs hq_1 hP hD hS => ?_)
  rw [hq_1.1]
  rw [hq_1.2] at hP hD
  refine lv_astore_n (lv' := [(3, .ref a), (0, .ref x), (1, .int p0), (2, .int p1)]) hx hb dX5_arm_5 rfl hl (by decide) rfl (fun ls hl => ?_)
  refine lv_iload_n hx hb dX5_arm_6 rfl (lv_at hl 3 rfl) ?_
  refine lv_iconst (v := 0) hx hb dX5_arm_7 (by decide) ?_
  refine lv_sipush (v := 9999) hx hb dX5_arm_8 (by decide) ?_
  refine kc_i (va_runS (As := [.int p1, .int 0, .int 9999]) (rest := []) ⟨hx, hb, hml, hown, htT⟩ (c_isOutside l D cA _ S p1 0 9999) (cwS 3 htT (kg_S m_ml_X5_22 m_st_X5_isOutside m_in_X5 m_cd_X5_isOutside) rfl rfl rfl (by decide +kernel) ⟨Nat.le_of_ble_eq_true rfl, Nat.le_of_ble_eq_true rfl⟩) (kp_S hK hP hD hTB) rfl rfl hl.1 rfl (lv_room (Nat.le_of_ble_eq_true rfl)) dX5_arm_11 ⟨Nat.le_of_ble_eq_true rfl, Nat.le_of_ble_eq_true rfl⟩) hD hS hA (fun r_2 x_2 H locs hq_2 hP hD hS => ?_)
  rw [hq_2.1.trans h1]
  rw [hq_2.2] at hP hD
  refine lv_if_eq (tgt := 27) hx hb dX5_arm_14 (by decide) (fun _ => ?_) (fun c_3 => absurd c_3 (by decide))
  refine lv_aload_n hx hb dX5_arm_27 rfl (lv_at hl 0 rfl) ?_
  refine lv_iload_n hx hb dX5_arm_28 rfl (lv_at hl 3 rfl) ?_
  refine kc_q (va_runV (As := [.int p1]) (rest := []) ⟨hx, hb, hml, hown, htT⟩ (c_armOf l D cA _ S a (hR.2 j hj a hja).1.1 cn hch p1) (cwV 1 htT (kg_V m_ml_X5_168 m_im_X3_armOf m_sl_X3_armOf m_in_X3 m_cd_X3_armOf) rfl rfl rfl (by decide +kernel) ⟨Nat.le_of_ble_eq_true rfl, Nat.le_of_ble_eq_true rfl⟩) (kp_V hK hP hD hTB (kp_rc hK hP ((hR.2 j hj a hja).1.1) (Nat.le_of_ble_eq_true rfl) rfl)) rfl rfl hl.1 rfl (lv_room (Nat.le_of_ble_eq_true rfl)) dX5_arm_29 ⟨Nat.le_of_ble_eq_true rfl, Nat.le_of_ble_eq_true rfl⟩) hD hS hA (fun r_4 x_4 H locs hq_4 hP hD hS => ?_)
  rw [hq_4.1.trans (earm _)]
  rw [hq_4.2] at hP hD
  rcases harm : cArmA S a p1 with _ | y_1
  · refine lv_astoreN (lv' := [(4, .null), (3, .ref a), (0, .ref x), (1, .int p0), (2, .int p1)]) hx hb dX5_arm_32 hl (by decide) rfl (fun ls hl => ?_)
    refine lv_aloadN hx hb dX5_arm_34 (lv_at hl 0 rfl) ?_
    refine lv_ifnonnullN hx hb dX5_arm_36 ?_
    refine lv_iconst (v := (-1)) hx hb dX5_arm_39 (by decide) ?_
    refine lv_goto (tgt := 48) hx hb dX5_arm_40 (by decide) ?_
    exact W.iret (v := -1) hx hb hr (fun t ht hW => ⟨⟨-1, S, rfl, ⟨rfl, rfl⟩, by rw [ht]; exact hP, va_K.moved hW.alike hK, hD⟩, hS.F ht⟩) hS.2.2 dX5_arm_48
  · have hy_9 := (cArm_isO cn _ _ hch ((earm _).trans harm)).1
    refine lv_astore (lv' := [(4, .ref y_1), (3, .ref a), (0, .ref x), (1, .int p0), (2, .int p1)]) hx hb dX5_arm_32 hl (by decide) rfl (fun ls hl => ?_)
    refine lv_aload hx hb dX5_arm_34 (lv_at hl 0 rfl) ?_
    refine lv_ifnonnull (tgt := 43) hx hb dX5_arm_36 (by decide) ?_
    refine lv_aload hx hb dX5_arm_43 (lv_at hl 0 rfl) ?_
    refine kx_getiN hx hb htT m_u_X0 hown hK hP hy_9 (Nat.le_of_ble_eq_true rfl) rfl 1 (by decide) (by decide) rfl (hTB.use m_fl_X5_183) dX5_arm_45 ?_
    exact W.iret (v := gI S y_1 1) hx hb hr (fun t ht hW => ⟨⟨gI S y_1 1, S, rfl, ⟨rfl, rfl⟩, by rw [ht]; exact hP, va_K.moved hW.alike hK, hD⟩, hS.F ht⟩) hS.2.2 dX5_arm_48

set_option maxRecDepth 100000 in
set_option maxHeartbeats 4000000 in
theorem c_supposeTurned (l : Launch) (D : va_G) (cA : Nat → ClassId) (sz : Nat) (S : Pool) (ak : Nat) (hak : isO S ak 1) (p0 : Int32) : Met l yX1_supposeTurned (Cond.code yX1_supposeTurned cX1_supposeTurned 2 none :: TT) ({ frames := 0, cells := 0, slots := 0, locals := 0 }) (va_Pc [.ref ak, .int p0] (kPre D cA (PW cA S) sz)) (va_Qv (fun (x_ : Pool) => x_ = pI S ak 3 p0) (fun x_ => kB D cA (va_A (PW cA S) sz) (PW cA x_)) (va_A (PW cA S) sz)) 0 0 (va_A (PW cA S) sz) := by
  refine Met.ofW (cc := cX1_supposeTurned) (maxL := 2) (ret := none) (by decide) rfl ?_
  intro p e s m args below meth c s₁ B hml hv
  obtain ⟨rfl, hsz, hP, hK, hD0, hTB⟩ := hv
  have hx := B.exec
  have hb := B.bytes
  have hr := B.returns
  have hts := atoms_spec (ws := Cond.code yX1_supposeTurned cX1_supposeTurned 2 none :: TT) B.pre
  have htT : ∀ w ∈ TT, w.before _ s = true := fun w h => hts w (List.mem_cons_of_mem _ h)
  have hown : s.vm.findClass RX1 = some m.cls := findClass_of_methodNamed B.named
  have hlocks := B.notSynchronized
  subst hsz
  have hD := hD0.self (sz := s.heap.size)
  generalize hAe : va_A (PW cA S) s.heap.size = A at hD ⊢
  have hA : ∀ q : Nat, s.heap.size ≤ q → A q := fun q h => by rw [← hAe]; exact Or.inr h
  have hS : va_S A s.heap s.heap [] := va_S.rf
  have hl := lv_entry ([.ref ak, .int p0]) (n := 2) (Nat.le_of_ble_eq_true rfl)
  rw [lg_entry_eq]
  generalize (lg_sl ([.ref ak, .int p0]) ++ List.replicate (2 - (lg_sl ([.ref ak, .int p0])).length) Slot.unset).toArray = ls at hl ⊢
  have hl : lv_has ls 2 [(0, .ref ak), (1, .int p0)] := hl
  refine lv_aload_n hx hb dX1_supposeTurned_0 rfl (lv_at hl 0 rfl) ?_
  refine lv_iload_n hx hb dX1_supposeTurned_1 rfl (lv_at hl 1 rfl) ?_
  refine kx_puti (ty := .int) hx hb htT m_u_X1 tyX1 tyX1_ok nmX1 hown hK hP hD hS hak (Nat.le_of_ble_eq_true rfl) rfl 3 (by decide) (by decide) rfl (htT _ m_fl_X1_9) rfl (by decide +kernel) rfl rfl dX1_supposeTurned_2 (fun H locs hP hD hS => ?_)
  exact W.vret hx hb hr (fun t ht hW => ⟨⟨pI S ak 3 p0, rfl, rfl, by rw [ht]; exact hP, va_K.moved hW.alike hK, hD⟩, hS.F ht⟩) hS.2.2 dX1_supposeTurned_5

set_option maxRecDepth 100000 in
set_option maxHeartbeats 4000000 in
theorem c_supposeRamp (l : Launch) (D : va_G) (cA : Nat → ClassId) (sz : Nat) (S : Pool) (ak : Nat) (hak : isO S ak 1) (p0 p1 : Int32) : Met l yX1_supposeRamp (Cond.code yX1_supposeRamp cX1_supposeRamp 3 none :: TT) ({ frames := 0, cells := 0, slots := 0, locals := 0 }) (va_Pc [.ref ak, .int p0, .int p1] (kPre D cA (PW cA S) sz)) (va_Qv (fun (x_ : Pool) => x_ = pI (pI S ak 4 p0) ak 5 p1) (fun x_ => kB D cA (va_A (PW cA S) sz) (PW cA x_)) (va_A (PW cA S) sz)) 0 0 (va_A (PW cA S) sz) := by
  refine Met.ofW (cc := cX1_supposeRamp) (maxL := 3) (ret := none) (by decide) rfl ?_
  intro p e s m args below meth c s₁ B hml hv
  obtain ⟨rfl, hsz, hP, hK, hD0, hTB⟩ := hv
  have hx := B.exec
  have hb := B.bytes
  have hr := B.returns
  have hts := atoms_spec (ws := Cond.code yX1_supposeRamp cX1_supposeRamp 3 none :: TT) B.pre
  have htT : ∀ w ∈ TT, w.before _ s = true := fun w h => hts w (List.mem_cons_of_mem _ h)
  have hown : s.vm.findClass RX1 = some m.cls := findClass_of_methodNamed B.named
  have hlocks := B.notSynchronized
  subst hsz
  have hD := hD0.self (sz := s.heap.size)
  generalize hAe : va_A (PW cA S) s.heap.size = A at hD ⊢
  have hA : ∀ q : Nat, s.heap.size ≤ q → A q := fun q h => by rw [← hAe]; exact Or.inr h
  have hS : va_S A s.heap s.heap [] := va_S.rf
  have hl := lv_entry ([.ref ak, .int p0, .int p1]) (n := 3) (Nat.le_of_ble_eq_true rfl)
  rw [lg_entry_eq]
  generalize (lg_sl ([.ref ak, .int p0, .int p1]) ++ List.replicate (3 - (lg_sl ([.ref ak, .int p0, .int p1])).length) Slot.unset).toArray = ls at hl ⊢
  have hl : lv_has ls 3 [(0, .ref ak), (1, .int p0), (2, .int p1)] := hl
  refine lv_aload_n hx hb dX1_supposeRamp_0 rfl (lv_at hl 0 rfl) ?_
  refine lv_iload_n hx hb dX1_supposeRamp_1 rfl (lv_at hl 1 rfl) ?_
  refine kx_puti (ty := .int) hx hb htT m_u_X1 tyX1 tyX1_ok nmX1 hown hK hP hD hS hak (Nat.le_of_ble_eq_true rfl) rfl 4 (by decide) (by decide) rfl (htT _ m_fl_X1_15) rfl (by decide +kernel) rfl rfl dX1_supposeRamp_2 (fun H locs hP hD hS => ?_)
  refine lv_aload_n hx hb dX1_supposeRamp_5 rfl (lv_at hl 0 rfl) ?_
  refine lv_iload_n hx hb dX1_supposeRamp_6 rfl (lv_at hl 2 rfl) ?_
  refine kx_puti (ty := .int) hx hb htT m_u_X1 tyX1 tyX1_ok nmX1 hown hK hP hD hS hak (Nat.le_of_ble_eq_true rfl) rfl 5 (by decide) (by decide) rfl (htT _ m_fl_X1_31) rfl (by decide +kernel) rfl rfl dX1_supposeRamp_7 (fun H locs hP hD hS => ?_)
  exact W.vret hx hb hr (fun t ht hW => ⟨⟨pI (pI S ak 4 p0) ak 5 p1, rfl, rfl, by rw [ht]; exact hP, va_K.moved hW.alike hK, hD⟩, hS.F ht⟩) hS.2.2 dX1_supposeRamp_10

set_option maxRecDepth 100000 in
set_option maxHeartbeats 4000000 in
theorem c_becomeCounted (l : Launch) (D : va_G) (cA : Nat → ClassId) (sz : Nat) (S : Pool) (ak : Nat) (hak : isO S ak 1) (p0 : Int32) : Met l yX1_becomeCounted (Cond.code yX1_becomeCounted cX1_becomeCounted 2 none :: TT) ({ frames := 1, cells := 0, slots := 0, locals := 23 }) (va_Pc [.ref ak, .int p0] (kPre D cA (PW cA S) sz)) (va_Qv (fun (x_ : Pool) => x_ = cBec S ak p0 (p0 - p0 / 10 * 10) (p0 / 10 - p0 / 10 / 10 * 10)) (fun x_ => kB D cA (va_A (PW cA S) sz) (PW cA x_)) (va_A (PW cA S) sz)) 0 0 (va_A (PW cA S) sz) := by
  refine Met.ofW (cc := cX1_becomeCounted) (maxL := 2) (ret := none) (by decide) rfl ?_
  intro p e s m args below meth c s₁ B hml hv
  obtain ⟨rfl, hsz, hP, hK, hD0, hTB⟩ := hv
  have hx := B.exec
  have hb := B.bytes
  have hr := B.returns
  have hts := atoms_spec (ws := Cond.code yX1_becomeCounted cX1_becomeCounted 2 none :: TT) B.pre
  have htT : ∀ w ∈ TT, w.before _ s = true := fun w h => hts w (List.mem_cons_of_mem _ h)
  have hown : s.vm.findClass RX1 = some m.cls := findClass_of_methodNamed B.named
  have hlocks := B.notSynchronized
  subst hsz
  have hD := hD0.self (sz := s.heap.size)
  generalize hAe : va_A (PW cA S) s.heap.size = A at hD ⊢
  have hA : ∀ q : Nat, s.heap.size ≤ q → A q := fun q h => by rw [← hAe]; exact Or.inr h
  have hS : va_S A s.heap s.heap [] := va_S.rf
  have hl := lv_entry ([.ref ak, .int p0]) (n := 2) (Nat.le_of_ble_eq_true rfl)
  rw [lg_entry_eq]
  generalize (lg_sl ([.ref ak, .int p0]) ++ List.replicate (2 - (lg_sl ([.ref ak, .int p0])).length) Slot.unset).toArray = ls at hl ⊢
  have hl : lv_has ls 2 [(0, .ref ak), (1, .int p0)] := hl
  refine lv_aload_n hx hb dX1_becomeCounted_0 rfl (lv_at hl 0 rfl) ?_
  refine lv_iload_n hx hb dX1_becomeCounted_1 rfl (lv_at hl 1 rfl) ?_
  refine lv_iload_n hx hb dX1_becomeCounted_2 rfl (lv_at hl 1 rfl) ?_
  refine lv_bipush (v := 10) hx hb dX1_becomeCounted_3 (by decide) ?_
  refine lv_irem hx hb dX1_becomeCounted_5 (by decide) ?_
  refine lv_iload_n hx hb dX1_becomeCounted_6 rfl (lv_at hl 1 rfl) ?_
  refine lv_bipush (v := 10) hx hb dX1_becomeCounted_7 (by decide) ?_
  refine lv_idiv hx hb dX1_becomeCounted_9 (by decide) ?_
  refine lv_bipush (v := 10) hx hb dX1_becomeCounted_10 (by decide) ?_
  refine lv_irem hx hb dX1_becomeCounted_12 (by decide) ?_
  refine kc_v (va_runV (As := [.int p0, .int (p0 - p0 / 10 * 10), .int ((p0 / 10) - (p0 / 10) / 10 * 10)]) (rest := []) ⟨hx, hb, hml, hown, htT⟩ (c_become l D cA _ S ak hak p0 (p0 - p0 / 10 * 10) ((p0 / 10) - (p0 / 10) / 10 * 10)) (cwV 3 htT (kg_V m_ml_X1_27 m_im_X1_become m_sl_X1_become m_in_X1 m_cd_X1_become) rfl rfl rfl (by decide +kernel) ⟨Nat.le_of_ble_eq_true rfl, Nat.le_of_ble_eq_true rfl⟩) (kp_V hK hP hD hTB (kp_rc hK hP hak (Nat.le_of_ble_eq_true rfl) rfl)) rfl rfl hl.1 rfl (lv_room (Nat.le_of_ble_eq_true rfl)) dX1_becomeCounted_13 ⟨Nat.le_of_ble_eq_true rfl, Nat.le_of_ble_eq_true rfl⟩) hD hS hA (fun x_1 H locs hq_1 hP hD hS => ?_)
  rw [hq_1] at hP hD
  exact W.vret hx hb hr (fun t ht hW => ⟨⟨cBec S ak p0 (p0 - p0 / 10 * 10) (p0 / 10 - p0 / 10 / 10 * 10), rfl, rfl, by rw [ht]; exact hP, va_K.moved hW.alike hK, hD⟩, hS.F ht⟩) hS.2.2 dX1_becomeCounted_16

