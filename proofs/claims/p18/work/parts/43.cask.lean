/-- variantOf of the switches up to d -/
def PV (l : Launch) (D : va_G) (cA : Nat → ClassId) (S : Pool) (x ar ak : Nat) (d : Nat) : Prop := ∀ (sz j a : Nat), j < 8 → j ≤ d → gP S ar j = some a → Met l yX5_variantOf (Cond.code yX5_variantOf cX5_variantOf 2 (some .int) :: TT) ({ frames := 3 * d + 4, cells := 0, slots := 0, locals := 65 * d + 144 }) (va_Pc [.ref x, .ref a] (kPre D cA (PW cA S) sz)) (va_Qi (fun (r_ : Int32) (x_ : Pool) => r_ = cV S x ar ak (d + 1) a ∧ x_ = S) (fun x_ => kB D cA (va_A (PW cA S) sz) (PW cA x_)) (va_A (PW cA S) sz)) 0 0 (va_A (PW cA S) sz)
set_option maxRecDepth 100000 in
set_option maxHeartbeats 4000000 in
/-- has a switch what it needs -/
theorem c_hasNeed (l : Launch) (D : va_G) (cA : Nat → ClassId) (sz : Nat) (S : Pool) (x : Nat) (hx5 : isO S x 5) (ar : Nat) (hq0 : gQ S x 0 = some ar) (ak : Nat) (hq1 : gQ S x 1 = some ak) (hak : isO S ak 1) (hR : okR S ar) (d : Nat) (hV : ∀ d9, d = d9 + 1 → PV l D cA S x ar ak d9) (a : Nat) (j : Nat) (hj : j < 8) (hja : gP S ar j = some a) (hjd : j ≤ d) : Met l yX5_hasNeed (Cond.code yX5_hasNeed cX5_hasNeed 3 (some .boolean) :: TT) ({ frames := 3 * d + 2, cells := 0, slots := 0, locals := 65 * d + 100 }) (va_Pc [.ref x, .ref a] (kPre D cA (PW cA S) sz)) (va_Qi (fun (r_ : Int32) (x_ : Pool) => r_ = cHas S ar (cV S x ar ak d) a ∧ x_ = S) (fun x_ => kB D cA (va_A (PW cA S) sz) (PW cA x_)) (va_A (PW cA S) sz)) 0 0 (va_A (PW cA S) sz) := by
  refine Met.ofW (cc := cX5_hasNeed) (maxL := 3) (ret := (some .boolean)) (by decide) rfl ?_
  intro p e s m args below meth c s₁ B hml hv
  obtain ⟨rfl, hsz, hP, hK, hD0, hTB⟩ := hv
  have hx := B.exec
  have hb := B.bytes
  have hr := B.returns
  have hts := atoms_spec (ws := Cond.code yX5_hasNeed cX5_hasNeed 3 (some .boolean) :: TT) B.pre
  have htT : ∀ w ∈ TT, w.before _ s = true := fun w h => hts w (List.mem_cons_of_mem _ h)
  have hown : s.vm.findClass RX5 = some m.cls := findClass_of_methodNamed B.named
  have hlocks := B.notSynchronized
  subst hsz
  have hD := hD0.self (sz := s.heap.size)
  generalize hAe : va_A (PW cA S) s.heap.size = A at hD ⊢
  have hA : ∀ q : Nat, s.heap.size ≤ q → A q := fun q h => by rw [← hAe]; exact Or.inr h
  have hS : va_S A s.heap s.heap [] := va_S.rf
  have hl := lv_entry ([.ref x, .ref a]) (n := 3) (Nat.le_of_ble_eq_true rfl)
  rw [lg_entry_eq]
  generalize (lg_sl ([.ref x, .ref a]) ++ List.replicate (3 - (lg_sl ([.ref x, .ref a])).length) Slot.unset).toArray = ls at hl ⊢
  have hl : lv_has ls 3 [(0, .ref x), (1, .ref a)] := hl
  obtain ⟨hsw, hnum⟩ := hR.2 j hj a hja
  obtain ⟨ho, ⟨wt, hq4, hwt⟩, ⟨rl, hq5, hrl, hro⟩, ⟨cn, hcn, hch⟩, -, -⟩ := hsw
  have erl : rlA S a = rl := by simp [rlA, hq5]
  have ewt : wtA S a = wt := by simp [wtA, hq4]
  have earm : ∀ u, cArm S u cn (gQ S a 7) = cArmA S a u := fun u => cArm_fuel cn 100 _ hch hcn
  refine lv_aload_n hx hb dX5_hasNeed_0 rfl (lv_at hl 1 rfl) ?_
  refine kx_getiN hx hb htT m_u_X3 hown hK hP ho (Nat.le_of_ble_eq_true rfl) rfl 16 (by decide) (by decide) rfl (hTB.use m_fl_X5_99) dX5_hasNeed_1 ?_
  refine lv_aload_n hx hb dX5_hasNeed_4 rfl (lv_at hl 1 rfl) ?_
  refine kx_getiN hx hb htT m_u_X3 hown hK hP ho (Nat.le_of_ble_eq_true rfl) rfl 0 (by decide) (by decide) rfl (hTB.use m_fl_X5_314) dX5_hasNeed_5 ?_
  refine lv_icmp_ge (tgt := 22) hx hb dX5_hasNeed_8 (by decide) (fun c_1 => ?_) (fun c_1 => ?_)
  · replace c_1 := Int32.not_lt.mpr c_1
    refine lv_null hx hb dX5_hasNeed_22 ?_
    refine lv_astore_nN (lv' := [(2, .null), (0, .ref x), (1, .ref a)]) hx hb dX5_hasNeed_23 rfl hl (by decide) rfl (fun ls hl => ?_)
    refine lv_aload_nN hx hb dX5_hasNeed_24 rfl (lv_at hl 0 rfl) ?_
    refine lv_ifnullN (tgt := 40) hx hb dX5_hasNeed_25 (by decide) ?_
    refine lv_iconst (v := 1) hx hb dX5_hasNeed_40 (by decide) ?_
    refine lv_goto (tgt := 45) hx hb dX5_hasNeed_41 (by decide) ?_
    exact W.zret (v := 1) hx hb hr (rfl) (fun t ht hW => ⟨⟨1, S, rfl, ⟨by simp [cHas, cOth, c_1], rfl⟩, by rw [ht]; exact hP, va_K.moved hW.alike hK, hD⟩, hS.F ht⟩) hS.2.2 dX5_hasNeed_45
  · replace c_1 := Int32.not_le.mp c_1
    refine lv_aload_n hx hb dX5_hasNeed_11 rfl (lv_at hl 0 rfl) ?_
    refine lv_aload_n hx hb dX5_hasNeed_12 rfl (lv_at hl 1 rfl) ?_
    refine kx_getiN hx hb htT m_u_X3 hown hK hP ho (Nat.le_of_ble_eq_true rfl) rfl 16 (by decide) (by decide) rfl (hTB.use m_fl_X5_99) dX5_hasNeed_13 ?_
    refine kc_q (va_runV (As := [.int (gI S a 16)]) (rest := []) ⟨hx, hb, hml, hown, htT⟩ (c_switchAt l D cA _ S x hx5 ar hq0 hR.1 (gI S a 16)) (cwV 1 htT (kg_V m_ml_X5_301 m_im_X5_switchAt m_sl_X5_switchAt m_in_X5 m_cd_X5_switchAt) rfl rfl rfl (by decide +kernel) ⟨(show 0 + 1 ≤ 3 * d + 2 by omega), (show 8 + (2 + 11) + (0) ≤ 65 * d + 100 by omega)⟩) (kp_V hK hP hD hTB (kp_rc hK hP hx5 (Nat.le_of_ble_eq_true rfl) rfl)) rfl rfl hl.1 rfl (lv_room (Nat.le_of_ble_eq_true rfl)) dX5_hasNeed_16 ⟨Nat.le_of_ble_eq_true rfl, Nat.le_of_ble_eq_true rfl⟩) hD hS hA (fun r_2 x_2 H locs hq_2 hP hD hS => ?_)
    rw [hq_2.1]
    rw [hq_2.2] at hP hD
    rcases hoth : kSw S ar (gI S a 16) with _ | o
    · refine lv_goto (tgt := 23) hx hb dX5_hasNeed_19 (by decide) ?_
      refine lv_astore_nN (lv' := [(2, .null), (0, .ref x), (1, .ref a)]) hx hb dX5_hasNeed_23 rfl hl (by decide) rfl (fun ls hl => ?_)
      refine lv_aload_nN hx hb dX5_hasNeed_24 rfl (lv_at hl 0 rfl) ?_
      refine lv_ifnullN (tgt := 40) hx hb dX5_hasNeed_25 (by decide) ?_
      refine lv_iconst (v := 1) hx hb dX5_hasNeed_40 (by decide) ?_
      refine lv_goto (tgt := 45) hx hb dX5_hasNeed_41 (by decide) ?_
      exact W.zret (v := 1) hx hb hr (rfl) (fun t ht hW => ⟨⟨1, S, rfl, ⟨by simp [cHas, cOth, c_1, hoth], rfl⟩, by rw [ht]; exact hP, va_K.moved hW.alike hK, hD⟩, hS.F ht⟩) hS.2.2 dX5_hasNeed_45
    · obtain ⟨j9, hj9, en9, hjo⟩ := kSw_some hoth
      have hjj : j9 < j := by
        have h9 := c_1
        rw [en9, hnum] at h9
        exact (nI_ltI (by omega) (by omega)).mp h9
      obtain ⟨d9, rfl⟩ : ∃ d9, d = d9 + 1 := ⟨d - 1, by omega⟩
      have hoo := (hR.2 j9 hj9 o hjo).1.1
      refine lv_goto (tgt := 23) hx hb dX5_hasNeed_19 (by decide) ?_
      refine lv_astore_n (lv' := [(2, .ref o), (0, .ref x), (1, .ref a)]) hx hb dX5_hasNeed_23 rfl hl (by decide) rfl (fun ls hl => ?_)
      refine lv_aload_n hx hb dX5_hasNeed_24 rfl (lv_at hl 0 rfl) ?_
      refine lv_ifnull hx hb dX5_hasNeed_25 ?_
      refine lv_aload_n hx hb dX5_hasNeed_28 rfl (lv_at hl 1 rfl) ?_
      refine lv_aload_n hx hb dX5_hasNeed_29 rfl (lv_at hl 0 rfl) ?_
      refine kc_i (va_runV (As := [.ref o]) (rest := []) ⟨hx, hb, hml, hown, htT⟩ (hV d9 rfl _ j9 o hj9 (by omega) hjo) (cwV 1 htT (kg_V m_ml_X5_151 m_im_X5_variantOf m_sl_X5_variantOf m_in_X5 m_cd_X5_variantOf) rfl rfl rfl (by decide +kernel) ⟨(show 3 * d9 + 4 + 1 ≤ 3 * (d9 + 1) + 2 by omega), (show 8 + (2 + 11) + (65 * d9 + 144) ≤ 65 * (d9 + 1) + 100 by omega)⟩) (kp_V hK hP hD hTB (kp_rc hK hP hx5 (Nat.le_of_ble_eq_true rfl) rfl)) rfl rfl hl.1 rfl (lv_room (Nat.le_of_ble_eq_true rfl)) dX5_hasNeed_30 ⟨Nat.le_of_ble_eq_true rfl, Nat.le_of_ble_eq_true rfl⟩) hD hS hA (fun r_3 x_3 H locs hq_3 hP hD hS => ?_)
      rw [hq_3.1]
      rw [hq_3.2] at hP hD
      refine lv_aload_n hx hb dX5_hasNeed_33 rfl (lv_at hl 2 rfl) ?_
      refine kx_getiN hx hb htT m_u_X3 hown hK hP ho (Nat.le_of_ble_eq_true rfl) rfl 17 (by decide) (by decide) rfl (hTB.use m_fl_X5_102) dX5_hasNeed_34 ?_
      refine lv_icmp_ne (tgt := 44) hx hb dX5_hasNeed_37 (by decide) (fun c_4 => ?_) (fun c_4 => ?_)
      · refine lv_iconst (v := 0) hx hb dX5_hasNeed_44 (by decide) ?_
        exact W.zret (v := 0) hx hb hr (rfl) (fun t ht hW => ⟨⟨0, S, rfl, ⟨by simp [cHas, cOth, c_1, hoth, c_4], rfl⟩, by rw [ht]; exact hP, va_K.moved hW.alike hK, hD⟩, hS.F ht⟩) hS.2.2 dX5_hasNeed_45
      · refine lv_iconst (v := 1) hx hb dX5_hasNeed_40 (by decide) ?_
        refine lv_goto (tgt := 45) hx hb dX5_hasNeed_41 (by decide) ?_
        exact W.zret (v := 1) hx hb hr (rfl) (fun t ht hW => ⟨⟨1, S, rfl, ⟨by simp [cHas, cOth, c_1, hoth, c_4], rfl⟩, by rw [ht]; exact hP, va_K.moved hW.alike hK, hD⟩, hS.F ht⟩) hS.2.2 dX5_hasNeed_45

set_option maxRecDepth 100000 in
set_option maxHeartbeats 4000000 in
/-- the reason -/
theorem c_reasonOf (l : Launch) (D : va_G) (cA : Nat → ClassId) (sz : Nat) (S : Pool) (x : Nat) (hx5 : isO S x 5) (ar : Nat) (hq0 : gQ S x 0 = some ar) (ak : Nat) (hq1 : gQ S x 1 = some ak) (hak : isO S ak 1) (hR : okR S ar) (d : Nat) (hV : ∀ d9, d = d9 + 1 → PV l D cA S x ar ak d9) (a : Nat) (j : Nat) (hj : j < 8) (hja : gP S ar j = some a) (hjd : j ≤ d) : Met l yX5_reasonOf (Cond.code yX5_reasonOf cX5_reasonOf 3 (some .int) :: TT) ({ frames := 3 * d + 3, cells := 0, slots := 0, locals := 65 * d + 122 }) (va_Pc [.ref x, .ref a] (kPre D cA (PW cA S) sz)) (va_Qi (fun (r_ : Int32) (x_ : Pool) => r_ = cRsn S x ak (cHas S ar (cV S x ar ak d) a) a ∧ x_ = S) (fun x_ => kB D cA (va_A (PW cA S) sz) (PW cA x_)) (va_A (PW cA S) sz)) 0 0 (va_A (PW cA S) sz) := by
  refine Met.ofW (cc := cX5_reasonOf) (maxL := 3) (ret := (some .int)) (by decide) rfl ?_
  intro p e s m args below meth c s₁ B hml hv
  obtain ⟨rfl, hsz, hP, hK, hD0, hTB⟩ := hv
  have hx := B.exec
  have hb := B.bytes
  have hr := B.returns
  have hts := atoms_spec (ws := Cond.code yX5_reasonOf cX5_reasonOf 3 (some .int) :: TT) B.pre
  have htT : ∀ w ∈ TT, w.before _ s = true := fun w h => hts w (List.mem_cons_of_mem _ h)
  have hown : s.vm.findClass RX5 = some m.cls := findClass_of_methodNamed B.named
  have hlocks := B.notSynchronized
  subst hsz
  have hD := hD0.self (sz := s.heap.size)
  generalize hAe : va_A (PW cA S) s.heap.size = A at hD ⊢
  have hA : ∀ q : Nat, s.heap.size ≤ q → A q := fun q h => by rw [← hAe]; exact Or.inr h
  have hS : va_S A s.heap s.heap [] := va_S.rf
  have hl := lv_entry ([.ref x, .ref a]) (n := 3) (Nat.le_of_ble_eq_true rfl)
  rw [lg_entry_eq]
  generalize (lg_sl ([.ref x, .ref a]) ++ List.replicate (3 - (lg_sl ([.ref x, .ref a])).length) Slot.unset).toArray = ls at hl ⊢
  have hl : lv_has ls 3 [(0, .ref x), (1, .ref a)] := hl
  obtain ⟨hsw, hnum⟩ := hR.2 j hj a hja
  obtain ⟨ho, ⟨wt, hq4, hwt⟩, ⟨rl, hq5, hrl, hro⟩, ⟨cn, hcn, hch⟩, -, -⟩ := hsw
  have erl : rlA S a = rl := by simp [rlA, hq5]
  have ewt : wtA S a = wt := by simp [wtA, hq4]
  have earm : ∀ u, cArm S u cn (gQ S a 7) = cArmA S a u := fun u => cArm_fuel cn 100 _ hch hcn
  refine lv_aload_n hx hb dX5_reasonOf_0 rfl (lv_at hl 0 rfl) ?_
  refine kx_gets hx hb htT m_u_X5 hown hK hP hx5 (Nat.le_of_ble_eq_true rfl) rfl 1 (by decide) (by decide) rfl hq1 (htT _ m_fl_X5_18) dX5_reasonOf_1 ?_
  refine lv_aload_n hx hb dX5_reasonOf_4 rfl (lv_at hl 1 rfl) ?_
  refine kc_i (va_runV (As := [.ref a]) (rest := []) ⟨hx, hb, hml, hown, htT⟩ (c_findsOn l D cA _ S ak hak a ho) (cwV 1 htT (kg_V m_ml_X5_340 m_im_X1_findsOn m_sl_X1_findsOn m_in_X1 m_cd_X1_findsOn) rfl rfl rfl (by decide +kernel) ⟨(show 0 + 1 ≤ 3 * d + 3 by omega), (show 8 + (2 + 11) + (0) ≤ 65 * d + 122 by omega)⟩) (kp_V hK hP hD hTB (kp_rc hK hP hak (Nat.le_of_ble_eq_true rfl) rfl)) rfl rfl hl.1 rfl (lv_room (Nat.le_of_ble_eq_true rfl)) dX5_reasonOf_5 ⟨Nat.le_of_ble_eq_true rfl, Nat.le_of_ble_eq_true rfl⟩) hD hS hA (fun r_1 x_1 H locs hq_1 hP hD hS => ?_)
  rw [hq_1.1]
  rw [hq_1.2] at hP hD
  refine lv_if_ne (tgt := 13) hx hb dX5_reasonOf_8 (by decide) (fun c_2 => ?_) (fun c_2 => ?_)
  · refine lv_aload_n hx hb dX5_reasonOf_13 rfl (lv_at hl 0 rfl) ?_
    refine lv_aload_n hx hb dX5_reasonOf_14 rfl (lv_at hl 1 rfl) ?_
    refine kc_i (va_runV (As := [.ref a]) (rest := []) ⟨hx, hb, hml, hown, htT⟩ (c_hasNeed l D cA _ S x hx5 ar hq0 ak hq1 hak hR d hV a j hj hja hjd) (cwV 1 htT (kg_V m_ml_X5_344 m_im_X5_hasNeed m_sl_X5_hasNeed m_in_X5 m_cd_X5_hasNeed) rfl rfl rfl (by decide +kernel) ⟨(show 3 * d + 2 + 1 ≤ 3 * d + 3 by omega), (show 8 + (3 + 11) + (65 * d + 100) ≤ 65 * d + 122 by omega)⟩) (kp_V hK hP hD hTB (kp_rc hK hP hx5 (Nat.le_of_ble_eq_true rfl) rfl)) rfl rfl hl.1 rfl (lv_room (Nat.le_of_ble_eq_true rfl)) dX5_reasonOf_15 ⟨Nat.le_of_ble_eq_true rfl, Nat.le_of_ble_eq_true rfl⟩) hD hS hA (fun r_3 x_3 H locs hq_3 hP hD hS => ?_)
    rw [hq_3.1]
    rw [hq_3.2] at hP hD
    refine lv_if_ne (tgt := 23) hx hb dX5_reasonOf_18 (by decide) (fun c_4 => ?_) (fun c_4 => ?_)
    · refine lv_aload_n hx hb dX5_reasonOf_23 rfl (lv_at hl 1 rfl) ?_
      refine kx_getiN hx hb htT m_u_X3 hown hK hP ho (Nat.le_of_ble_eq_true rfl) rfl 3 (by decide) (by decide) rfl (hTB.use m_fl_X5_347) dX5_reasonOf_24 ?_
      refine lv_if_eq (tgt := 46) hx hb dX5_reasonOf_27 (by decide) (fun c_5 => ?_) (fun c_5 => ?_)
      · refine lv_aload_n hx hb dX5_reasonOf_46 rfl (lv_at hl 1 rfl) ?_
        refine lv_aload_n hx hb dX5_reasonOf_47 rfl (lv_at hl 1 rfl) ?_
        refine lv_aload_n hx hb dX5_reasonOf_48 rfl (lv_at hl 0 rfl) ?_
        refine kx_gets hx hb htT m_u_X5 hown hK hP hx5 (Nat.le_of_ble_eq_true rfl) rfl 1 (by decide) (by decide) rfl hq1 (htT _ m_fl_X5_18) dX5_reasonOf_49 ?_
        refine kx_getiN hx hb htT m_u_X1 hown hK hP hak (Nat.le_of_ble_eq_true rfl) rfl 1 (by decide) (by decide) rfl (hTB.use m_fl_X5_323) dX5_reasonOf_52 ?_
        refine lv_aload_n hx hb dX5_reasonOf_55 rfl (lv_at hl 0 rfl) ?_
        refine kx_gets hx hb htT m_u_X5 hown hK hP hx5 (Nat.le_of_ble_eq_true rfl) rfl 1 (by decide) (by decide) rfl hq1 (htT _ m_fl_X5_18) dX5_reasonOf_56 ?_
        refine kx_getiN hx hb htT m_u_X1 hown hK hP hak (Nat.le_of_ble_eq_true rfl) rfl 2 (by decide) (by decide) rfl (hTB.use m_fl_X5_326) dX5_reasonOf_59 ?_
        refine kc_i (va_runV (As := [.int (gI S ak 1), .int (gI S ak 2)]) (rest := [.ref a]) ⟨hx, hb, hml, hown, htT⟩ (c_firstRuleFor l D cA _ S a ho rl hq5 hrl hro (gI S ak 1) (gI S ak 2)) (cwV 2 htT (kg_V m_ml_X5_158 m_im_X3_firstRuleFor m_sl_X3_firstRuleFor m_in_X3 m_cd_X3_firstRuleFor) rfl rfl rfl (by decide +kernel) ⟨(show 1 + 1 ≤ 3 * d + 3 by omega), (show 8 + (5 + 11) + (23) ≤ 65 * d + 122 by omega)⟩) (kp_V hK hP hD hTB (kp_rc hK hP ho (Nat.le_of_ble_eq_true rfl) rfl)) rfl rfl hl.1 rfl (lv_room (Nat.le_of_ble_eq_true rfl)) dX5_reasonOf_62 ⟨Nat.le_of_ble_eq_true rfl, Nat.le_of_ble_eq_true rfl⟩) hD hS hA (fun r_6 x_6 H locs hq_6 hP hD hS => ?_)
        rw [hq_6.1]
        rw [hq_6.2] at hP hD
        refine kc_q (va_runV (As := [.int (cHold S rl (gI S ak 1) (gI S ak 2) 5 0)]) (rest := []) ⟨hx, hb, hml, hown, htT⟩ (c_ruleAt l D cA _ S a ho rl hq5 hrl (cHold S rl (gI S ak 1) (gI S ak 2) 5 0)) (cwV 1 htT (kg_V m_ml_X5_329 m_im_X3_ruleAt m_sl_X3_ruleAt m_in_X3 m_cd_X3_ruleAt) rfl rfl rfl (by decide +kernel) ⟨(show 0 + 1 ≤ 3 * d + 3 by omega), (show 8 + (2 + 11) + (0) ≤ 65 * d + 122 by omega)⟩) (kp_V hK hP hD hTB (kp_rc hK hP ho (Nat.le_of_ble_eq_true rfl) rfl)) rfl rfl hl.1 rfl (lv_room (Nat.le_of_ble_eq_true rfl)) dX5_reasonOf_65 ⟨Nat.le_of_ble_eq_true rfl, Nat.le_of_ble_eq_true rfl⟩) hD hS hA (fun r_7 x_7 H locs hq_7 hP hD hS => ?_)
        rw [hq_7.1.trans (show cRule S rl (cHold S rl (gI S ak 1) (gI S ak 2) 5 0) = cRu S ak a by rw [cRu, erl])]
        rw [hq_7.2] at hP hD
        rcases hrul : cRu S ak a with _ | y_2
        · refine lv_astore_nN (lv' := [(2, .null), (0, .ref x), (1, .ref a)]) hx hb dX5_reasonOf_68 rfl hl (by decide) rfl (fun ls hl => ?_)
          refine lv_aload_nN hx hb dX5_reasonOf_69 rfl (lv_at hl 0 rfl) ?_
          refine lv_ifnullN (tgt := 83) hx hb dX5_reasonOf_70 (by decide) ?_
          refine lv_sipush (v := 999) hx hb dX5_reasonOf_83 (by decide) ?_
          refine lv_aload_n hx hb dX5_reasonOf_86 rfl (lv_at hl 1 rfl) ?_
          refine kx_gets hx hb htT m_u_X5 hown hK hP hx5 (Nat.le_of_ble_eq_true rfl) rfl 1 (by decide) (by decide) rfl hq1 (htT _ m_fl_X5_18) dX5_reasonOf_87 ?_
          refine kx_getiN hx hb htT m_u_X1 hown hK hP hak (Nat.le_of_ble_eq_true rfl) rfl 0 (by decide) (by decide) rfl (hTB.use m_fl_X5_320) dX5_reasonOf_90 ?_
          refine kc_i (va_runS (As := [.int 999, .int (gI S ak 0)]) (rest := []) ⟨hx, hb, hml, hown, htT⟩ (c_bucketOf l D cA _ S 999 (gI S ak 0)) (cwS 2 htT (kg_S m_ml_X5_141 m_st_X5_bucketOf m_in_X5 m_cd_X5_bucketOf) rfl rfl rfl (by decide +kernel) ⟨(show 0 + 1 ≤ 3 * d + 3 by omega), (show 8 + (4 + 11) + (0) ≤ 65 * d + 122 by omega)⟩) (kp_S hK hP hD hTB) rfl rfl hl.1 rfl (lv_room (Nat.le_of_ble_eq_true rfl)) dX5_reasonOf_93 ⟨Nat.le_of_ble_eq_true rfl, Nat.le_of_ble_eq_true rfl⟩) hD hS hA (fun r_8 x_8 H locs hq_8 hP hD hS => ?_)
          rw [hq_8.1]
          rw [hq_8.2] at hP hD
          refine lv_aload_n hx hb dX5_reasonOf_96 rfl (lv_at hl 1 rfl) ?_
          refine kx_geti hx hb htT m_u_X5 hown hK hP hx5 (Nat.le_of_ble_eq_true rfl) rfl 4 (by decide) (by decide) rfl (htT _ m_fl_X5_132) dX5_reasonOf_97 ?_
          refine lv_icmp_ge (tgt := 105) hx hb dX5_reasonOf_100 (by decide) (fun c_9 => ?_) (fun c_9 => ?_)
          · replace c_9 := Int32.not_lt.mpr c_9
            refine lv_aload_n hx hb dX5_reasonOf_105 rfl (lv_at hl 1 rfl) ?_
            refine lv_aload_n hx hb dX5_reasonOf_106 rfl (lv_at hl 2 rfl) ?_
            refine kc_i (va_runV (As := [.ref a]) (rest := []) ⟨hx, hb, hml, hown, htT⟩ (c_isInLayer l D cA _ S x hx5 ak hq1 hak a ho) (cwV 1 htT (kg_V m_ml_X5_350 m_im_X5_isInLayer m_sl_X5_isInLayer m_in_X5 m_cd_X5_isInLayer) rfl rfl rfl (by decide +kernel) ⟨(show 1 + 1 ≤ 3 * d + 3 by omega), (show 8 + (3 + 11) + (23) ≤ 65 * d + 122 by omega)⟩) (kp_V hK hP hD hTB (kp_rc hK hP hx5 (Nat.le_of_ble_eq_true rfl) rfl)) rfl rfl hl.1 rfl (lv_room (Nat.le_of_ble_eq_true rfl)) dX5_reasonOf_107 ⟨Nat.le_of_ble_eq_true rfl, Nat.le_of_ble_eq_true rfl⟩) hD hS hA (fun r_10 x_10 H locs hq_10 hP hD hS => ?_)
            rw [hq_10.1]
            rw [hq_10.2] at hP hD
            refine lv_if_ne (tgt := 115) hx hb dX5_reasonOf_110 (by decide) (fun c_11 => ?_) (fun c_11 => ?_)
            · refine lv_aload_n hx hb dX5_reasonOf_115 rfl (lv_at hl 2 rfl) ?_
              refine kx_getiN hx hb htT m_u_X3 hown hK hP ho (Nat.le_of_ble_eq_true rfl) rfl 1 (by decide) (by decide) rfl (hTB.use m_fl_X5_334) dX5_reasonOf_116 ?_
              refine lv_iconst (v := 1) hx hb dX5_reasonOf_119 (by decide) ?_
              refine lv_iadd hx hb dX5_reasonOf_120 ?_
              refine lv_aload_n hx hb dX5_reasonOf_121 rfl (lv_at hl 1 rfl) ?_
              refine kx_gets hx hb htT m_u_X5 hown hK hP hx5 (Nat.le_of_ble_eq_true rfl) rfl 1 (by decide) (by decide) rfl hq1 (htT _ m_fl_X5_18) dX5_reasonOf_122 ?_
              refine kx_getiN hx hb htT m_u_X1 hown hK hP hak (Nat.le_of_ble_eq_true rfl) rfl 0 (by decide) (by decide) rfl (hTB.use m_fl_X5_320) dX5_reasonOf_125 ?_
              refine kc_i (va_runS (As := [.int ((gI S a 1) + 1), .int (gI S ak 0)]) (rest := []) ⟨hx, hb, hml, hown, htT⟩ (c_bucketOf l D cA _ S ((gI S a 1) + 1) (gI S ak 0)) (cwS 2 htT (kg_S m_ml_X5_141 m_st_X5_bucketOf m_in_X5 m_cd_X5_bucketOf) rfl rfl rfl (by decide +kernel) ⟨(show 0 + 1 ≤ 3 * d + 3 by omega), (show 8 + (4 + 11) + (0) ≤ 65 * d + 122 by omega)⟩) (kp_S hK hP hD hTB) rfl rfl hl.1 rfl (lv_room (Nat.le_of_ble_eq_true rfl)) dX5_reasonOf_128 ⟨Nat.le_of_ble_eq_true rfl, Nat.le_of_ble_eq_true rfl⟩) hD hS hA (fun r_12 x_12 H locs hq_12 hP hD hS => ?_)
              rw [hq_12.1]
              rw [hq_12.2] at hP hD
              refine lv_aload_n hx hb dX5_reasonOf_131 rfl (lv_at hl 1 rfl) ?_
              refine kx_gets hx hb htT m_u_X5 hown hK hP hx5 (Nat.le_of_ble_eq_true rfl) rfl 1 (by decide) (by decide) rfl hq1 (htT _ m_fl_X5_18) dX5_reasonOf_132 ?_
              refine lv_aload_n hx hb dX5_reasonOf_135 rfl (lv_at hl 2 rfl) ?_
              refine lv_aload_n hx hb dX5_reasonOf_136 rfl (lv_at hl 1 rfl) ?_
              refine kx_geti hx hb htT m_u_X5 hown hK hP hx5 (Nat.le_of_ble_eq_true rfl) rfl 5 (by decide) (by decide) rfl (htT _ m_fl_X5_69) dX5_reasonOf_137 ?_
              refine kc_i (va_runV (As := [.ref a, .int (gI S x 5)]) (rest := [.int (kBkt ((gI S a 1) + 1) (gI S ak 0))]) ⟨hx, hb, hml, hown, htT⟩ (c_findsFar l D cA _ S ak hak a ho (gI S x 5)) (cwV 2 htT (kg_V m_ml_X5_353 m_im_X1_findsFar m_sl_X1_findsFar m_in_X1 m_cd_X1_findsFar) rfl rfl rfl (by decide +kernel) ⟨(show 1 + 1 ≤ 3 * d + 3 by omega), (show 8 + (3 + 11) + (23) ≤ 65 * d + 122 by omega)⟩) (kp_V hK hP hD hTB (kp_rc hK hP hak (Nat.le_of_ble_eq_true rfl) rfl)) rfl rfl hl.1 rfl (lv_room (Nat.le_of_ble_eq_true rfl)) dX5_reasonOf_140 ⟨Nat.le_of_ble_eq_true rfl, Nat.le_of_ble_eq_true rfl⟩) hD hS hA (fun r_13 x_13 H locs hq_13 hP hD hS => ?_)
              rw [hq_13.1]
              rw [hq_13.2] at hP hD
              refine lv_icmp_lt (tgt := 149) hx hb dX5_reasonOf_143 (by decide) (fun c_14 => ?_) (fun c_14 => ?_)
              · refine lv_aload_nN hx hb dX5_reasonOf_149 rfl (lv_at hl 0 rfl) ?_
                refine lv_ifnonnullN hx hb dX5_reasonOf_150 ?_
                refine lv_aload_n hx hb dX5_reasonOf_153 rfl (lv_at hl 2 rfl) ?_
                refine kx_getiN hx hb htT m_u_X3 hown hK hP ho (Nat.le_of_ble_eq_true rfl) rfl 8 (by decide) (by decide) rfl (hTB.use m_fl_X5_107) dX5_reasonOf_154 ?_
                refine lv_if_le (tgt := 165) hx hb dX5_reasonOf_157 (by decide) (fun c_15 => ?_) (fun c_15 => ?_)
                · replace c_15 := Int32.not_lt.mpr c_15
                  refine lv_bipush (v := 8) hx hb dX5_reasonOf_165 (by decide) ?_
                  exact W.iret (v := 8) hx hb hr (fun t ht hW => ⟨⟨8, S, rfl, ⟨by simp [cRsn, cLate, c_2, c_4, c_5, hrul, c_9, c_11, c_14, c_15], rfl⟩, by rw [ht]; exact hP, va_K.moved hW.alike hK, hD⟩, hS.F ht⟩) hS.2.2 dX5_reasonOf_167
                · replace c_15 := Int32.not_le.mp c_15
                  refine lv_bipush (v := 7) hx hb dX5_reasonOf_160 (by decide) ?_
                  refine lv_goto (tgt := 167) hx hb dX5_reasonOf_162 (by decide) ?_
                  exact W.iret (v := 7) hx hb hr (fun t ht hW => ⟨⟨7, S, rfl, ⟨by simp [cRsn, cLate, c_2, c_4, c_5, hrul, c_9, c_11, c_14, c_15], rfl⟩, by rw [ht]; exact hP, va_K.moved hW.alike hK, hD⟩, hS.F ht⟩) hS.2.2 dX5_reasonOf_167
              · refine lv_bipush (v := 6) hx hb dX5_reasonOf_146 (by decide) ?_
                exact W.iret (v := 6) hx hb hr (fun t ht hW => ⟨⟨6, S, rfl, ⟨by simp [cRsn, cLate, c_2, c_4, c_5, hrul, c_9, c_11, c_14], rfl⟩, by rw [ht]; exact hP, va_K.moved hW.alike hK, hD⟩, hS.F ht⟩) hS.2.2 dX5_reasonOf_148
            · refine lv_iconst (v := 5) hx hb dX5_reasonOf_113 (by decide) ?_
              exact W.iret (v := 5) hx hb hr (fun t ht hW => ⟨⟨5, S, rfl, ⟨by simp [cRsn, cLate, c_2, c_4, c_5, hrul, c_9, c_11], rfl⟩, by rw [ht]; exact hP, va_K.moved hW.alike hK, hD⟩, hS.F ht⟩) hS.2.2 dX5_reasonOf_114
          · replace c_9 := Int32.not_le.mp c_9
            refine lv_iconst (v := 4) hx hb dX5_reasonOf_103 (by decide) ?_
            exact W.iret (v := 4) hx hb hr (fun t ht hW => ⟨⟨4, S, rfl, ⟨by simp [cRsn, cLate, c_2, c_4, c_5, hrul, c_9], rfl⟩, by rw [ht]; exact hP, va_K.moved hW.alike hK, hD⟩, hS.F ht⟩) hS.2.2 dX5_reasonOf_104
        · have hru9 : isO S y_2 2 := by
            have h9 := hrul
            rw [cRu, erl] at h9
            exact cRule_isO hro h9
          refine lv_astore_n (lv' := [(2, .ref y_2), (0, .ref x), (1, .ref a)]) hx hb dX5_reasonOf_68 rfl hl (by decide) rfl (fun ls hl => ?_)
          refine lv_aload_n hx hb dX5_reasonOf_69 rfl (lv_at hl 0 rfl) ?_
          refine lv_ifnull hx hb dX5_reasonOf_70 ?_
          refine lv_aload_n hx hb dX5_reasonOf_73 rfl (lv_at hl 0 rfl) ?_
          refine kx_getiN hx hb htT m_u_X2 hown hK hP hru9 (Nat.le_of_ble_eq_true rfl) rfl 3 (by decide) (by decide) rfl (hTB.use m_fl_X5_333) dX5_reasonOf_74 ?_
          refine lv_iconst (v := (-1)) hx hb dX5_reasonOf_77 (by decide) ?_
          refine lv_icmp_eq (tgt := 83) hx hb dX5_reasonOf_78 (by decide) (fun c_16 => ?_) (fun c_16 => ?_)
          · refine lv_sipush (v := 999) hx hb dX5_reasonOf_83 (by decide) ?_
            refine lv_aload_n hx hb dX5_reasonOf_86 rfl (lv_at hl 1 rfl) ?_
            refine kx_gets hx hb htT m_u_X5 hown hK hP hx5 (Nat.le_of_ble_eq_true rfl) rfl 1 (by decide) (by decide) rfl hq1 (htT _ m_fl_X5_18) dX5_reasonOf_87 ?_
            refine kx_getiN hx hb htT m_u_X1 hown hK hP hak (Nat.le_of_ble_eq_true rfl) rfl 0 (by decide) (by decide) rfl (hTB.use m_fl_X5_320) dX5_reasonOf_90 ?_
            refine kc_i (va_runS (As := [.int 999, .int (gI S ak 0)]) (rest := []) ⟨hx, hb, hml, hown, htT⟩ (c_bucketOf l D cA _ S 999 (gI S ak 0)) (cwS 2 htT (kg_S m_ml_X5_141 m_st_X5_bucketOf m_in_X5 m_cd_X5_bucketOf) rfl rfl rfl (by decide +kernel) ⟨(show 0 + 1 ≤ 3 * d + 3 by omega), (show 8 + (4 + 11) + (0) ≤ 65 * d + 122 by omega)⟩) (kp_S hK hP hD hTB) rfl rfl hl.1 rfl (lv_room (Nat.le_of_ble_eq_true rfl)) dX5_reasonOf_93 ⟨Nat.le_of_ble_eq_true rfl, Nat.le_of_ble_eq_true rfl⟩) hD hS hA (fun r_17 x_17 H locs hq_17 hP hD hS => ?_)
            rw [hq_17.1]
            rw [hq_17.2] at hP hD
            refine lv_aload_n hx hb dX5_reasonOf_96 rfl (lv_at hl 1 rfl) ?_
            refine kx_geti hx hb htT m_u_X5 hown hK hP hx5 (Nat.le_of_ble_eq_true rfl) rfl 4 (by decide) (by decide) rfl (htT _ m_fl_X5_132) dX5_reasonOf_97 ?_
            refine lv_icmp_ge (tgt := 105) hx hb dX5_reasonOf_100 (by decide) (fun c_18 => ?_) (fun c_18 => ?_)
            · replace c_18 := Int32.not_lt.mpr c_18
              refine lv_aload_n hx hb dX5_reasonOf_105 rfl (lv_at hl 1 rfl) ?_
              refine lv_aload_n hx hb dX5_reasonOf_106 rfl (lv_at hl 2 rfl) ?_
              refine kc_i (va_runV (As := [.ref a]) (rest := []) ⟨hx, hb, hml, hown, htT⟩ (c_isInLayer l D cA _ S x hx5 ak hq1 hak a ho) (cwV 1 htT (kg_V m_ml_X5_350 m_im_X5_isInLayer m_sl_X5_isInLayer m_in_X5 m_cd_X5_isInLayer) rfl rfl rfl (by decide +kernel) ⟨(show 1 + 1 ≤ 3 * d + 3 by omega), (show 8 + (3 + 11) + (23) ≤ 65 * d + 122 by omega)⟩) (kp_V hK hP hD hTB (kp_rc hK hP hx5 (Nat.le_of_ble_eq_true rfl) rfl)) rfl rfl hl.1 rfl (lv_room (Nat.le_of_ble_eq_true rfl)) dX5_reasonOf_107 ⟨Nat.le_of_ble_eq_true rfl, Nat.le_of_ble_eq_true rfl⟩) hD hS hA (fun r_19 x_19 H locs hq_19 hP hD hS => ?_)
              rw [hq_19.1]
              rw [hq_19.2] at hP hD
              refine lv_if_ne (tgt := 115) hx hb dX5_reasonOf_110 (by decide) (fun c_20 => ?_) (fun c_20 => ?_)
              · refine lv_aload_n hx hb dX5_reasonOf_115 rfl (lv_at hl 2 rfl) ?_
                refine kx_getiN hx hb htT m_u_X3 hown hK hP ho (Nat.le_of_ble_eq_true rfl) rfl 1 (by decide) (by decide) rfl (hTB.use m_fl_X5_334) dX5_reasonOf_116 ?_
                refine lv_iconst (v := 1) hx hb dX5_reasonOf_119 (by decide) ?_
                refine lv_iadd hx hb dX5_reasonOf_120 ?_
                refine lv_aload_n hx hb dX5_reasonOf_121 rfl (lv_at hl 1 rfl) ?_
                refine kx_gets hx hb htT m_u_X5 hown hK hP hx5 (Nat.le_of_ble_eq_true rfl) rfl 1 (by decide) (by decide) rfl hq1 (htT _ m_fl_X5_18) dX5_reasonOf_122 ?_
                refine kx_getiN hx hb htT m_u_X1 hown hK hP hak (Nat.le_of_ble_eq_true rfl) rfl 0 (by decide) (by decide) rfl (hTB.use m_fl_X5_320) dX5_reasonOf_125 ?_
                refine kc_i (va_runS (As := [.int ((gI S a 1) + 1), .int (gI S ak 0)]) (rest := []) ⟨hx, hb, hml, hown, htT⟩ (c_bucketOf l D cA _ S ((gI S a 1) + 1) (gI S ak 0)) (cwS 2 htT (kg_S m_ml_X5_141 m_st_X5_bucketOf m_in_X5 m_cd_X5_bucketOf) rfl rfl rfl (by decide +kernel) ⟨(show 0 + 1 ≤ 3 * d + 3 by omega), (show 8 + (4 + 11) + (0) ≤ 65 * d + 122 by omega)⟩) (kp_S hK hP hD hTB) rfl rfl hl.1 rfl (lv_room (Nat.le_of_ble_eq_true rfl)) dX5_reasonOf_128 ⟨Nat.le_of_ble_eq_true rfl, Nat.le_of_ble_eq_true rfl⟩) hD hS hA (fun r_21 x_21 H locs hq_21 hP hD hS => ?_)
                rw [hq_21.1]
                rw [hq_21.2] at hP hD
                refine lv_aload_n hx hb dX5_reasonOf_131 rfl (lv_at hl 1 rfl) ?_
                refine kx_gets hx hb htT m_u_X5 hown hK hP hx5 (Nat.le_of_ble_eq_true rfl) rfl 1 (by decide) (by decide) rfl hq1 (htT _ m_fl_X5_18) dX5_reasonOf_132 ?_
                refine lv_aload_n hx hb dX5_reasonOf_135 rfl (lv_at hl 2 rfl) ?_
                refine lv_aload_n hx hb dX5_reasonOf_136 rfl (lv_at hl 1 rfl) ?_
                refine kx_geti hx hb htT m_u_X5 hown hK hP hx5 (Nat.le_of_ble_eq_true rfl) rfl 5 (by decide) (by decide) rfl (htT _ m_fl_X5_69) dX5_reasonOf_137 ?_
                refine kc_i (va_runV (As := [.ref a, .int (gI S x 5)]) (rest := [.int (kBkt ((gI S a 1) + 1) (gI S ak 0))]) ⟨hx, hb, hml, hown, htT⟩ (c_findsFar l D cA _ S ak hak a ho (gI S x 5)) (cwV 2 htT (kg_V m_ml_X5_353 m_im_X1_findsFar m_sl_X1_findsFar m_in_X1 m_cd_X1_findsFar) rfl rfl rfl (by decide +kernel) ⟨(show 1 + 1 ≤ 3 * d + 3 by omega), (show 8 + (3 + 11) + (23) ≤ 65 * d + 122 by omega)⟩) (kp_V hK hP hD hTB (kp_rc hK hP hak (Nat.le_of_ble_eq_true rfl) rfl)) rfl rfl hl.1 rfl (lv_room (Nat.le_of_ble_eq_true rfl)) dX5_reasonOf_140 ⟨Nat.le_of_ble_eq_true rfl, Nat.le_of_ble_eq_true rfl⟩) hD hS hA (fun r_22 x_22 H locs hq_22 hP hD hS => ?_)
                rw [hq_22.1]
                rw [hq_22.2] at hP hD
                refine lv_icmp_lt (tgt := 149) hx hb dX5_reasonOf_143 (by decide) (fun c_23 => ?_) (fun c_23 => ?_)
                · refine lv_aload_n hx hb dX5_reasonOf_149 rfl (lv_at hl 0 rfl) ?_
                  refine lv_ifnonnull (tgt := 165) hx hb dX5_reasonOf_150 (by decide) ?_
                  refine lv_bipush (v := 8) hx hb dX5_reasonOf_165 (by decide) ?_
                  exact W.iret (v := 8) hx hb hr (fun t ht hW => ⟨⟨8, S, rfl, ⟨by simp [cRsn, cLate, c_2, c_4, c_5, hrul, c_16, c_18, c_20, c_23], rfl⟩, by rw [ht]; exact hP, va_K.moved hW.alike hK, hD⟩, hS.F ht⟩) hS.2.2 dX5_reasonOf_167
                · refine lv_bipush (v := 6) hx hb dX5_reasonOf_146 (by decide) ?_
                  exact W.iret (v := 6) hx hb hr (fun t ht hW => ⟨⟨6, S, rfl, ⟨by simp [cRsn, cLate, c_2, c_4, c_5, hrul, c_16, c_18, c_20, c_23], rfl⟩, by rw [ht]; exact hP, va_K.moved hW.alike hK, hD⟩, hS.F ht⟩) hS.2.2 dX5_reasonOf_148
              · refine lv_iconst (v := 5) hx hb dX5_reasonOf_113 (by decide) ?_
                exact W.iret (v := 5) hx hb hr (fun t ht hW => ⟨⟨5, S, rfl, ⟨by simp [cRsn, cLate, c_2, c_4, c_5, hrul, c_16, c_18, c_20], rfl⟩, by rw [ht]; exact hP, va_K.moved hW.alike hK, hD⟩, hS.F ht⟩) hS.2.2 dX5_reasonOf_114
            · replace c_18 := Int32.not_le.mp c_18
              refine lv_iconst (v := 4) hx hb dX5_reasonOf_103 (by decide) ?_
              exact W.iret (v := 4) hx hb hr (fun t ht hW => ⟨⟨4, S, rfl, ⟨by simp [cRsn, cLate, c_2, c_4, c_5, hrul, c_16, c_18], rfl⟩, by rw [ht]; exact hP, va_K.moved hW.alike hK, hD⟩, hS.F ht⟩) hS.2.2 dX5_reasonOf_104
          · refine lv_iconst (v := 3) hx hb dX5_reasonOf_81 (by decide) ?_
            exact W.iret (v := 3) hx hb hr (fun t ht hW => ⟨⟨3, S, rfl, ⟨by simp [cRsn, cLate, c_2, c_4, c_5, hrul, c_16], rfl⟩, by rw [ht]; exact hP, va_K.moved hW.alike hK, hD⟩, hS.F ht⟩) hS.2.2 dX5_reasonOf_82
      · refine lv_aload_n hx hb dX5_reasonOf_30 rfl (lv_at hl 1 rfl) ?_
        refine lv_aload_n hx hb dX5_reasonOf_31 rfl (lv_at hl 0 rfl) ?_
        refine kx_gets hx hb htT m_u_X5 hown hK hP hx5 (Nat.le_of_ble_eq_true rfl) rfl 1 (by decide) (by decide) rfl hq1 (htT _ m_fl_X5_18) dX5_reasonOf_32 ?_
        refine kx_getiN hx hb htT m_u_X1 hown hK hP hak (Nat.le_of_ble_eq_true rfl) rfl 0 (by decide) (by decide) rfl (hTB.use m_fl_X5_320) dX5_reasonOf_35 ?_
        refine kc_q (va_runV (As := [.int (gI S ak 0)]) (rest := []) ⟨hx, hb, hml, hown, htT⟩ (c_armOf l D cA _ S a ho cn hch (gI S ak 0)) (cwV 1 htT (kg_V m_ml_X5_168 m_im_X3_armOf m_sl_X3_armOf m_in_X3 m_cd_X3_armOf) rfl rfl rfl (by decide +kernel) ⟨(show 0 + 1 ≤ 3 * d + 3 by omega), (show 8 + (3 + 11) + (0) ≤ 65 * d + 122 by omega)⟩) (kp_V hK hP hD hTB (kp_rc hK hP ho (Nat.le_of_ble_eq_true rfl) rfl)) rfl rfl hl.1 rfl (lv_room (Nat.le_of_ble_eq_true rfl)) dX5_reasonOf_38 ⟨Nat.le_of_ble_eq_true rfl, Nat.le_of_ble_eq_true rfl⟩) hD hS hA (fun r_24 x_24 H locs hq_24 hP hD hS => ?_)
        rw [hq_24.1.trans (earm _)]
        rw [hq_24.2] at hP hD
        rcases harm : cArmA S a (gI S ak 0) with _ | y_1
        · refine lv_ifnullN (tgt := 46) hx hb dX5_reasonOf_41 (by decide) ?_
          refine lv_aload_n hx hb dX5_reasonOf_46 rfl (lv_at hl 1 rfl) ?_
          refine lv_aload_n hx hb dX5_reasonOf_47 rfl (lv_at hl 1 rfl) ?_
          refine lv_aload_n hx hb dX5_reasonOf_48 rfl (lv_at hl 0 rfl) ?_
          refine kx_gets hx hb htT m_u_X5 hown hK hP hx5 (Nat.le_of_ble_eq_true rfl) rfl 1 (by decide) (by decide) rfl hq1 (htT _ m_fl_X5_18) dX5_reasonOf_49 ?_
          refine kx_getiN hx hb htT m_u_X1 hown hK hP hak (Nat.le_of_ble_eq_true rfl) rfl 1 (by decide) (by decide) rfl (hTB.use m_fl_X5_323) dX5_reasonOf_52 ?_
          refine lv_aload_n hx hb dX5_reasonOf_55 rfl (lv_at hl 0 rfl) ?_
          refine kx_gets hx hb htT m_u_X5 hown hK hP hx5 (Nat.le_of_ble_eq_true rfl) rfl 1 (by decide) (by decide) rfl hq1 (htT _ m_fl_X5_18) dX5_reasonOf_56 ?_
          refine kx_getiN hx hb htT m_u_X1 hown hK hP hak (Nat.le_of_ble_eq_true rfl) rfl 2 (by decide) (by decide) rfl (hTB.use m_fl_X5_326) dX5_reasonOf_59 ?_
          refine kc_i (va_runV (As := [.int (gI S ak 1), .int (gI S ak 2)]) (rest := [.ref a]) ⟨hx, hb, hml, hown, htT⟩ (c_firstRuleFor l D cA _ S a ho rl hq5 hrl hro (gI S ak 1) (gI S ak 2)) (cwV 2 htT (kg_V m_ml_X5_158 m_im_X3_firstRuleFor m_sl_X3_firstRuleFor m_in_X3 m_cd_X3_firstRuleFor) rfl rfl rfl (by decide +kernel) ⟨(show 1 + 1 ≤ 3 * d + 3 by omega), (show 8 + (5 + 11) + (23) ≤ 65 * d + 122 by omega)⟩) (kp_V hK hP hD hTB (kp_rc hK hP ho (Nat.le_of_ble_eq_true rfl) rfl)) rfl rfl hl.1 rfl (lv_room (Nat.le_of_ble_eq_true rfl)) dX5_reasonOf_62 ⟨Nat.le_of_ble_eq_true rfl, Nat.le_of_ble_eq_true rfl⟩) hD hS hA (fun r_25 x_25 H locs hq_25 hP hD hS => ?_)
          rw [hq_25.1]
          rw [hq_25.2] at hP hD
          refine kc_q (va_runV (As := [.int (cHold S rl (gI S ak 1) (gI S ak 2) 5 0)]) (rest := []) ⟨hx, hb, hml, hown, htT⟩ (c_ruleAt l D cA _ S a ho rl hq5 hrl (cHold S rl (gI S ak 1) (gI S ak 2) 5 0)) (cwV 1 htT (kg_V m_ml_X5_329 m_im_X3_ruleAt m_sl_X3_ruleAt m_in_X3 m_cd_X3_ruleAt) rfl rfl rfl (by decide +kernel) ⟨(show 0 + 1 ≤ 3 * d + 3 by omega), (show 8 + (2 + 11) + (0) ≤ 65 * d + 122 by omega)⟩) (kp_V hK hP hD hTB (kp_rc hK hP ho (Nat.le_of_ble_eq_true rfl) rfl)) rfl rfl hl.1 rfl (lv_room (Nat.le_of_ble_eq_true rfl)) dX5_reasonOf_65 ⟨Nat.le_of_ble_eq_true rfl, Nat.le_of_ble_eq_true rfl⟩) hD hS hA (fun r_26 x_26 H locs hq_26 hP hD hS => ?_)
          rw [hq_26.1.trans (show cRule S rl (cHold S rl (gI S ak 1) (gI S ak 2) 5 0) = cRu S ak a by rw [cRu, erl])]
          rw [hq_26.2] at hP hD
          rcases hrul : cRu S ak a with _ | y_2
          · refine lv_astore_nN (lv' := [(2, .null), (0, .ref x), (1, .ref a)]) hx hb dX5_reasonOf_68 rfl hl (by decide) rfl (fun ls hl => ?_)
            refine lv_aload_nN hx hb dX5_reasonOf_69 rfl (lv_at hl 0 rfl) ?_
            refine lv_ifnullN (tgt := 83) hx hb dX5_reasonOf_70 (by decide) ?_
            refine lv_sipush (v := 999) hx hb dX5_reasonOf_83 (by decide) ?_
            refine lv_aload_n hx hb dX5_reasonOf_86 rfl (lv_at hl 1 rfl) ?_
            refine kx_gets hx hb htT m_u_X5 hown hK hP hx5 (Nat.le_of_ble_eq_true rfl) rfl 1 (by decide) (by decide) rfl hq1 (htT _ m_fl_X5_18) dX5_reasonOf_87 ?_
            refine kx_getiN hx hb htT m_u_X1 hown hK hP hak (Nat.le_of_ble_eq_true rfl) rfl 0 (by decide) (by decide) rfl (hTB.use m_fl_X5_320) dX5_reasonOf_90 ?_
            refine kc_i (va_runS (As := [.int 999, .int (gI S ak 0)]) (rest := []) ⟨hx, hb, hml, hown, htT⟩ (c_bucketOf l D cA _ S 999 (gI S ak 0)) (cwS 2 htT (kg_S m_ml_X5_141 m_st_X5_bucketOf m_in_X5 m_cd_X5_bucketOf) rfl rfl rfl (by decide +kernel) ⟨(show 0 + 1 ≤ 3 * d + 3 by omega), (show 8 + (4 + 11) + (0) ≤ 65 * d + 122 by omega)⟩) (kp_S hK hP hD hTB) rfl rfl hl.1 rfl (lv_room (Nat.le_of_ble_eq_true rfl)) dX5_reasonOf_93 ⟨Nat.le_of_ble_eq_true rfl, Nat.le_of_ble_eq_true rfl⟩) hD hS hA (fun r_27 x_27 H locs hq_27 hP hD hS => ?_)
            rw [hq_27.1]
            rw [hq_27.2] at hP hD
            refine lv_aload_n hx hb dX5_reasonOf_96 rfl (lv_at hl 1 rfl) ?_
            refine kx_geti hx hb htT m_u_X5 hown hK hP hx5 (Nat.le_of_ble_eq_true rfl) rfl 4 (by decide) (by decide) rfl (htT _ m_fl_X5_132) dX5_reasonOf_97 ?_
            refine lv_icmp_ge (tgt := 105) hx hb dX5_reasonOf_100 (by decide) (fun c_28 => ?_) (fun c_28 => ?_)
            · replace c_28 := Int32.not_lt.mpr c_28
              refine lv_aload_n hx hb dX5_reasonOf_105 rfl (lv_at hl 1 rfl) ?_
              refine lv_aload_n hx hb dX5_reasonOf_106 rfl (lv_at hl 2 rfl) ?_
              refine kc_i (va_runV (As := [.ref a]) (rest := []) ⟨hx, hb, hml, hown, htT⟩ (c_isInLayer l D cA _ S x hx5 ak hq1 hak a ho) (cwV 1 htT (kg_V m_ml_X5_350 m_im_X5_isInLayer m_sl_X5_isInLayer m_in_X5 m_cd_X5_isInLayer) rfl rfl rfl (by decide +kernel) ⟨(show 1 + 1 ≤ 3 * d + 3 by omega), (show 8 + (3 + 11) + (23) ≤ 65 * d + 122 by omega)⟩) (kp_V hK hP hD hTB (kp_rc hK hP hx5 (Nat.le_of_ble_eq_true rfl) rfl)) rfl rfl hl.1 rfl (lv_room (Nat.le_of_ble_eq_true rfl)) dX5_reasonOf_107 ⟨Nat.le_of_ble_eq_true rfl, Nat.le_of_ble_eq_true rfl⟩) hD hS hA (fun r_29 x_29 H locs hq_29 hP hD hS => ?_)
              rw [hq_29.1]
              rw [hq_29.2] at hP hD
              refine lv_if_ne (tgt := 115) hx hb dX5_reasonOf_110 (by decide) (fun c_30 => ?_) (fun c_30 => ?_)
              · refine lv_aload_n hx hb dX5_reasonOf_115 rfl (lv_at hl 2 rfl) ?_
                refine kx_getiN hx hb htT m_u_X3 hown hK hP ho (Nat.le_of_ble_eq_true rfl) rfl 1 (by decide) (by decide) rfl (hTB.use m_fl_X5_334) dX5_reasonOf_116 ?_
                refine lv_iconst (v := 1) hx hb dX5_reasonOf_119 (by decide) ?_
                refine lv_iadd hx hb dX5_reasonOf_120 ?_
                refine lv_aload_n hx hb dX5_reasonOf_121 rfl (lv_at hl 1 rfl) ?_
                refine kx_gets hx hb htT m_u_X5 hown hK hP hx5 (Nat.le_of_ble_eq_true rfl) rfl 1 (by decide) (by decide) rfl hq1 (htT _ m_fl_X5_18) dX5_reasonOf_122 ?_
                refine kx_getiN hx hb htT m_u_X1 hown hK hP hak (Nat.le_of_ble_eq_true rfl) rfl 0 (by decide) (by decide) rfl (hTB.use m_fl_X5_320) dX5_reasonOf_125 ?_
                refine kc_i (va_runS (As := [.int ((gI S a 1) + 1), .int (gI S ak 0)]) (rest := []) ⟨hx, hb, hml, hown, htT⟩ (c_bucketOf l D cA _ S ((gI S a 1) + 1) (gI S ak 0)) (cwS 2 htT (kg_S m_ml_X5_141 m_st_X5_bucketOf m_in_X5 m_cd_X5_bucketOf) rfl rfl rfl (by decide +kernel) ⟨(show 0 + 1 ≤ 3 * d + 3 by omega), (show 8 + (4 + 11) + (0) ≤ 65 * d + 122 by omega)⟩) (kp_S hK hP hD hTB) rfl rfl hl.1 rfl (lv_room (Nat.le_of_ble_eq_true rfl)) dX5_reasonOf_128 ⟨Nat.le_of_ble_eq_true rfl, Nat.le_of_ble_eq_true rfl⟩) hD hS hA (fun r_31 x_31 H locs hq_31 hP hD hS => ?_)
                rw [hq_31.1]
                rw [hq_31.2] at hP hD
                refine lv_aload_n hx hb dX5_reasonOf_131 rfl (lv_at hl 1 rfl) ?_
                refine kx_gets hx hb htT m_u_X5 hown hK hP hx5 (Nat.le_of_ble_eq_true rfl) rfl 1 (by decide) (by decide) rfl hq1 (htT _ m_fl_X5_18) dX5_reasonOf_132 ?_
                refine lv_aload_n hx hb dX5_reasonOf_135 rfl (lv_at hl 2 rfl) ?_
                refine lv_aload_n hx hb dX5_reasonOf_136 rfl (lv_at hl 1 rfl) ?_
                refine kx_geti hx hb htT m_u_X5 hown hK hP hx5 (Nat.le_of_ble_eq_true rfl) rfl 5 (by decide) (by decide) rfl (htT _ m_fl_X5_69) dX5_reasonOf_137 ?_
                refine kc_i (va_runV (As := [.ref a, .int (gI S x 5)]) (rest := [.int (kBkt ((gI S a 1) + 1) (gI S ak 0))]) ⟨hx, hb, hml, hown, htT⟩ (c_findsFar l D cA _ S ak hak a ho (gI S x 5)) (cwV 2 htT (kg_V m_ml_X5_353 m_im_X1_findsFar m_sl_X1_findsFar m_in_X1 m_cd_X1_findsFar) rfl rfl rfl (by decide +kernel) ⟨(show 1 + 1 ≤ 3 * d + 3 by omega), (show 8 + (3 + 11) + (23) ≤ 65 * d + 122 by omega)⟩) (kp_V hK hP hD hTB (kp_rc hK hP hak (Nat.le_of_ble_eq_true rfl) rfl)) rfl rfl hl.1 rfl (lv_room (Nat.le_of_ble_eq_true rfl)) dX5_reasonOf_140 ⟨Nat.le_of_ble_eq_true rfl, Nat.le_of_ble_eq_true rfl⟩) hD hS hA (fun r_32 x_32 H locs hq_32 hP hD hS => ?_)
                rw [hq_32.1]
                rw [hq_32.2] at hP hD
                refine lv_icmp_lt (tgt := 149) hx hb dX5_reasonOf_143 (by decide) (fun c_33 => ?_) (fun c_33 => ?_)
                · refine lv_aload_nN hx hb dX5_reasonOf_149 rfl (lv_at hl 0 rfl) ?_
                  refine lv_ifnonnullN hx hb dX5_reasonOf_150 ?_
                  refine lv_aload_n hx hb dX5_reasonOf_153 rfl (lv_at hl 2 rfl) ?_
                  refine kx_getiN hx hb htT m_u_X3 hown hK hP ho (Nat.le_of_ble_eq_true rfl) rfl 8 (by decide) (by decide) rfl (hTB.use m_fl_X5_107) dX5_reasonOf_154 ?_
                  refine lv_if_le (tgt := 165) hx hb dX5_reasonOf_157 (by decide) (fun c_34 => ?_) (fun c_34 => ?_)
                  · replace c_34 := Int32.not_lt.mpr c_34
                    refine lv_bipush (v := 8) hx hb dX5_reasonOf_165 (by decide) ?_
                    exact W.iret (v := 8) hx hb hr (fun t ht hW => ⟨⟨8, S, rfl, ⟨by simp [cRsn, cLate, c_2, c_4, c_5, harm, hrul, c_28, c_30, c_33, c_34], rfl⟩, by rw [ht]; exact hP, va_K.moved hW.alike hK, hD⟩, hS.F ht⟩) hS.2.2 dX5_reasonOf_167
                  · replace c_34 := Int32.not_le.mp c_34
                    refine lv_bipush (v := 7) hx hb dX5_reasonOf_160 (by decide) ?_
                    refine lv_goto (tgt := 167) hx hb dX5_reasonOf_162 (by decide) ?_
                    exact W.iret (v := 7) hx hb hr (fun t ht hW => ⟨⟨7, S, rfl, ⟨by simp [cRsn, cLate, c_2, c_4, c_5, harm, hrul, c_28, c_30, c_33, c_34], rfl⟩, by rw [ht]; exact hP, va_K.moved hW.alike hK, hD⟩, hS.F ht⟩) hS.2.2 dX5_reasonOf_167
                · refine lv_bipush (v := 6) hx hb dX5_reasonOf_146 (by decide) ?_
                  exact W.iret (v := 6) hx hb hr (fun t ht hW => ⟨⟨6, S, rfl, ⟨by simp [cRsn, cLate, c_2, c_4, c_5, harm, hrul, c_28, c_30, c_33], rfl⟩, by rw [ht]; exact hP, va_K.moved hW.alike hK, hD⟩, hS.F ht⟩) hS.2.2 dX5_reasonOf_148
              · refine lv_iconst (v := 5) hx hb dX5_reasonOf_113 (by decide) ?_
                exact W.iret (v := 5) hx hb hr (fun t ht hW => ⟨⟨5, S, rfl, ⟨by simp [cRsn, cLate, c_2, c_4, c_5, harm, hrul, c_28, c_30], rfl⟩, by rw [ht]; exact hP, va_K.moved hW.alike hK, hD⟩, hS.F ht⟩) hS.2.2 dX5_reasonOf_114
            · replace c_28 := Int32.not_le.mp c_28
              refine lv_iconst (v := 4) hx hb dX5_reasonOf_103 (by decide) ?_
              exact W.iret (v := 4) hx hb hr (fun t ht hW => ⟨⟨4, S, rfl, ⟨by simp [cRsn, cLate, c_2, c_4, c_5, harm, hrul, c_28], rfl⟩, by rw [ht]; exact hP, va_K.moved hW.alike hK, hD⟩, hS.F ht⟩) hS.2.2 dX5_reasonOf_104
          · have hru9 : isO S y_2 2 := by
              have h9 := hrul
              rw [cRu, erl] at h9
              exact cRule_isO hro h9
            refine lv_astore_n (lv' := [(2, .ref y_2), (0, .ref x), (1, .ref a)]) hx hb dX5_reasonOf_68 rfl hl (by decide) rfl (fun ls hl => ?_)
            refine lv_aload_n hx hb dX5_reasonOf_69 rfl (lv_at hl 0 rfl) ?_
            refine lv_ifnull hx hb dX5_reasonOf_70 ?_
            refine lv_aload_n hx hb dX5_reasonOf_73 rfl (lv_at hl 0 rfl) ?_
            refine kx_getiN hx hb htT m_u_X2 hown hK hP hru9 (Nat.le_of_ble_eq_true rfl) rfl 3 (by decide) (by decide) rfl (hTB.use m_fl_X5_333) dX5_reasonOf_74 ?_
            refine lv_iconst (v := (-1)) hx hb dX5_reasonOf_77 (by decide) ?_
            refine lv_icmp_eq (tgt := 83) hx hb dX5_reasonOf_78 (by decide) (fun c_35 => ?_) (fun c_35 => ?_)
            · refine lv_sipush (v := 999) hx hb dX5_reasonOf_83 (by decide) ?_
              refine lv_aload_n hx hb dX5_reasonOf_86 rfl (lv_at hl 1 rfl) ?_
              refine kx_gets hx hb htT m_u_X5 hown hK hP hx5 (Nat.le_of_ble_eq_true rfl) rfl 1 (by decide) (by decide) rfl hq1 (htT _ m_fl_X5_18) dX5_reasonOf_87 ?_
              refine kx_getiN hx hb htT m_u_X1 hown hK hP hak (Nat.le_of_ble_eq_true rfl) rfl 0 (by decide) (by decide) rfl (hTB.use m_fl_X5_320) dX5_reasonOf_90 ?_
              refine kc_i (va_runS (As := [.int 999, .int (gI S ak 0)]) (rest := []) ⟨hx, hb, hml, hown, htT⟩ (c_bucketOf l D cA _ S 999 (gI S ak 0)) (cwS 2 htT (kg_S m_ml_X5_141 m_st_X5_bucketOf m_in_X5 m_cd_X5_bucketOf) rfl rfl rfl (by decide +kernel) ⟨(show 0 + 1 ≤ 3 * d + 3 by omega), (show 8 + (4 + 11) + (0) ≤ 65 * d + 122 by omega)⟩) (kp_S hK hP hD hTB) rfl rfl hl.1 rfl (lv_room (Nat.le_of_ble_eq_true rfl)) dX5_reasonOf_93 ⟨Nat.le_of_ble_eq_true rfl, Nat.le_of_ble_eq_true rfl⟩) hD hS hA (fun r_36 x_36 H locs hq_36 hP hD hS => ?_)
              rw [hq_36.1]
              rw [hq_36.2] at hP hD
              refine lv_aload_n hx hb dX5_reasonOf_96 rfl (lv_at hl 1 rfl) ?_
              refine kx_geti hx hb htT m_u_X5 hown hK hP hx5 (Nat.le_of_ble_eq_true rfl) rfl 4 (by decide) (by decide) rfl (htT _ m_fl_X5_132) dX5_reasonOf_97 ?_
              refine lv_icmp_ge (tgt := 105) hx hb dX5_reasonOf_100 (by decide) (fun c_37 => ?_) (fun c_37 => ?_)
              · replace c_37 := Int32.not_lt.mpr c_37
                refine lv_aload_n hx hb dX5_reasonOf_105 rfl (lv_at hl 1 rfl) ?_
                refine lv_aload_n hx hb dX5_reasonOf_106 rfl (lv_at hl 2 rfl) ?_
                refine kc_i (va_runV (As := [.ref a]) (rest := []) ⟨hx, hb, hml, hown, htT⟩ (c_isInLayer l D cA _ S x hx5 ak hq1 hak a ho) (cwV 1 htT (kg_V m_ml_X5_350 m_im_X5_isInLayer m_sl_X5_isInLayer m_in_X5 m_cd_X5_isInLayer) rfl rfl rfl (by decide +kernel) ⟨(show 1 + 1 ≤ 3 * d + 3 by omega), (show 8 + (3 + 11) + (23) ≤ 65 * d + 122 by omega)⟩) (kp_V hK hP hD hTB (kp_rc hK hP hx5 (Nat.le_of_ble_eq_true rfl) rfl)) rfl rfl hl.1 rfl (lv_room (Nat.le_of_ble_eq_true rfl)) dX5_reasonOf_107 ⟨Nat.le_of_ble_eq_true rfl, Nat.le_of_ble_eq_true rfl⟩) hD hS hA (fun r_38 x_38 H locs hq_38 hP hD hS => ?_)
                rw [hq_38.1]
                rw [hq_38.2] at hP hD
                refine lv_if_ne (tgt := 115) hx hb dX5_reasonOf_110 (by decide) (fun c_39 => ?_) (fun c_39 => ?_)
                · refine lv_aload_n hx hb dX5_reasonOf_115 rfl (lv_at hl 2 rfl) ?_
                  refine kx_getiN hx hb htT m_u_X3 hown hK hP ho (Nat.le_of_ble_eq_true rfl) rfl 1 (by decide) (by decide) rfl (hTB.use m_fl_X5_334) dX5_reasonOf_116 ?_
                  refine lv_iconst (v := 1) hx hb dX5_reasonOf_119 (by decide) ?_
                  refine lv_iadd hx hb dX5_reasonOf_120 ?_
                  refine lv_aload_n hx hb dX5_reasonOf_121 rfl (lv_at hl 1 rfl) ?_
                  refine kx_gets hx hb htT m_u_X5 hown hK hP hx5 (Nat.le_of_ble_eq_true rfl) rfl 1 (by decide) (by decide) rfl hq1 (htT _ m_fl_X5_18) dX5_reasonOf_122 ?_
                  refine kx_getiN hx hb htT m_u_X1 hown hK hP hak (Nat.le_of_ble_eq_true rfl) rfl 0 (by decide) (by decide) rfl (hTB.use m_fl_X5_320) dX5_reasonOf_125 ?_
                  refine kc_i (va_runS (As := [.int ((gI S a 1) + 1), .int (gI S ak 0)]) (rest := []) ⟨hx, hb, hml, hown, htT⟩ (c_bucketOf l D cA _ S ((gI S a 1) + 1) (gI S ak 0)) (cwS 2 htT (kg_S m_ml_X5_141 m_st_X5_bucketOf m_in_X5 m_cd_X5_bucketOf) rfl rfl rfl (by decide +kernel) ⟨(show 0 + 1 ≤ 3 * d + 3 by omega), (show 8 + (4 + 11) + (0) ≤ 65 * d + 122 by omega)⟩) (kp_S hK hP hD hTB) rfl rfl hl.1 rfl (lv_room (Nat.le_of_ble_eq_true rfl)) dX5_reasonOf_128 ⟨Nat.le_of_ble_eq_true rfl, Nat.le_of_ble_eq_true rfl⟩) hD hS hA (fun r_40 x_40 H locs hq_40 hP hD hS => ?_)
                  rw [hq_40.1]
                  rw [hq_40.2] at hP hD
                  refine lv_aload_n hx hb dX5_reasonOf_131 rfl (lv_at hl 1 rfl) ?_
                  refine kx_gets hx hb htT m_u_X5 hown hK hP hx5 (Nat.le_of_ble_eq_true rfl) rfl 1 (by decide) (by decide) rfl hq1 (htT _ m_fl_X5_18) dX5_reasonOf_132 ?_
                  refine lv_aload_n hx hb dX5_reasonOf_135 rfl (lv_at hl 2 rfl) ?_
                  refine lv_aload_n hx hb dX5_reasonOf_136 rfl (lv_at hl 1 rfl) ?_
                  refine kx_geti hx hb htT m_u_X5 hown hK hP hx5 (Nat.le_of_ble_eq_true rfl) rfl 5 (by decide) (by decide) rfl (htT _ m_fl_X5_69) dX5_reasonOf_137 ?_
                  refine kc_i (va_runV (As := [.ref a, .int (gI S x 5)]) (rest := [.int (kBkt ((gI S a 1) + 1) (gI S ak 0))]) ⟨hx, hb, hml, hown, htT⟩ (c_findsFar l D cA _ S ak hak a ho (gI S x 5)) (cwV 2 htT (kg_V m_ml_X5_353 m_im_X1_findsFar m_sl_X1_findsFar m_in_X1 m_cd_X1_findsFar) rfl rfl rfl (by decide +kernel) ⟨(show 1 + 1 ≤ 3 * d + 3 by omega), (show 8 + (3 + 11) + (23) ≤ 65 * d + 122 by omega)⟩) (kp_V hK hP hD hTB (kp_rc hK hP hak (Nat.le_of_ble_eq_true rfl) rfl)) rfl rfl hl.1 rfl (lv_room (Nat.le_of_ble_eq_true rfl)) dX5_reasonOf_140 ⟨Nat.le_of_ble_eq_true rfl, Nat.le_of_ble_eq_true rfl⟩) hD hS hA (fun r_41 x_41 H locs hq_41 hP hD hS => ?_)
                  rw [hq_41.1]
                  rw [hq_41.2] at hP hD
                  refine lv_icmp_lt (tgt := 149) hx hb dX5_reasonOf_143 (by decide) (fun c_42 => ?_) (fun c_42 => ?_)
                  · refine lv_aload_n hx hb dX5_reasonOf_149 rfl (lv_at hl 0 rfl) ?_
                    refine lv_ifnonnull (tgt := 165) hx hb dX5_reasonOf_150 (by decide) ?_
                    refine lv_bipush (v := 8) hx hb dX5_reasonOf_165 (by decide) ?_
                    exact W.iret (v := 8) hx hb hr (fun t ht hW => ⟨⟨8, S, rfl, ⟨by simp [cRsn, cLate, c_2, c_4, c_5, harm, hrul, c_35, c_37, c_39, c_42], rfl⟩, by rw [ht]; exact hP, va_K.moved hW.alike hK, hD⟩, hS.F ht⟩) hS.2.2 dX5_reasonOf_167
                  · refine lv_bipush (v := 6) hx hb dX5_reasonOf_146 (by decide) ?_
                    exact W.iret (v := 6) hx hb hr (fun t ht hW => ⟨⟨6, S, rfl, ⟨by simp [cRsn, cLate, c_2, c_4, c_5, harm, hrul, c_35, c_37, c_39, c_42], rfl⟩, by rw [ht]; exact hP, va_K.moved hW.alike hK, hD⟩, hS.F ht⟩) hS.2.2 dX5_reasonOf_148
                · refine lv_iconst (v := 5) hx hb dX5_reasonOf_113 (by decide) ?_
                  exact W.iret (v := 5) hx hb hr (fun t ht hW => ⟨⟨5, S, rfl, ⟨by simp [cRsn, cLate, c_2, c_4, c_5, harm, hrul, c_35, c_37, c_39], rfl⟩, by rw [ht]; exact hP, va_K.moved hW.alike hK, hD⟩, hS.F ht⟩) hS.2.2 dX5_reasonOf_114
              · replace c_37 := Int32.not_le.mp c_37
                refine lv_iconst (v := 4) hx hb dX5_reasonOf_103 (by decide) ?_
                exact W.iret (v := 4) hx hb hr (fun t ht hW => ⟨⟨4, S, rfl, ⟨by simp [cRsn, cLate, c_2, c_4, c_5, harm, hrul, c_35, c_37], rfl⟩, by rw [ht]; exact hP, va_K.moved hW.alike hK, hD⟩, hS.F ht⟩) hS.2.2 dX5_reasonOf_104
            · refine lv_iconst (v := 3) hx hb dX5_reasonOf_81 (by decide) ?_
              exact W.iret (v := 3) hx hb hr (fun t ht hW => ⟨⟨3, S, rfl, ⟨by simp [cRsn, cLate, c_2, c_4, c_5, harm, hrul, c_35], rfl⟩, by rw [ht]; exact hP, va_K.moved hW.alike hK, hD⟩, hS.F ht⟩) hS.2.2 dX5_reasonOf_82
        · have hy_9 := (cArm_isO cn _ _ hch ((earm _).trans harm)).1
          refine lv_ifnull hx hb dX5_reasonOf_41 ?_
          refine lv_iconst (v := 2) hx hb dX5_reasonOf_44 (by decide) ?_
          exact W.iret (v := 2) hx hb hr (fun t ht hW => ⟨⟨2, S, rfl, ⟨by simp [cRsn, cLate, c_2, c_4, c_5, harm], rfl⟩, by rw [ht]; exact hP, va_K.moved hW.alike hK, hD⟩, hS.F ht⟩) hS.2.2 dX5_reasonOf_45
    · refine lv_iconst (v := 1) hx hb dX5_reasonOf_21 (by decide) ?_
      exact W.iret (v := 1) hx hb hr (fun t ht hW => ⟨⟨1, S, rfl, ⟨by simp [cRsn, cLate, c_2, c_4], rfl⟩, by rw [ht]; exact hP, va_K.moved hW.alike hK, hD⟩, hS.F ht⟩) hS.2.2 dX5_reasonOf_22
  · refine lv_iconst (v := 0) hx hb dX5_reasonOf_11 (by decide) ?_
    exact W.iret (v := 0) hx hb hr (fun t ht hW => ⟨⟨0, S, rfl, ⟨by simp [cRsn, cLate, c_2], rfl⟩, by rw [ht]; exact hP, va_K.moved hW.alike hK, hD⟩, hS.F ht⟩) hS.2.2 dX5_reasonOf_12

set_option maxRecDepth 100000 in
set_option maxHeartbeats 4000000 in
/-- the variant by the reason -/
theorem c_variantBy (l : Launch) (D : va_G) (cA : Nat → ClassId) (sz : Nat) (S : Pool) (x : Nat) (hx5 : isO S x 5) (ar : Nat) (hq0 : gQ S x 0 = some ar) (ak : Nat) (hq1 : gQ S x 1 = some ak) (hak : isO S ak 1) (hR : okR S ar) (a : Nat) (j : Nat) (hj : j < 8) (hja : gP S ar j = some a) (k : Int32) : Met l yX5_variantBy (Cond.code yX5_variantBy cX5_variantBy 5 (some .int) :: TT) ({ frames := 2, cells := 0, slots := 0, locals := 47 }) (va_Pc [.ref x, .ref a, .int k] (kPre D cA (PW cA S) sz)) (va_Qi (fun (r_ : Int32) (x_ : Pool) => r_ = cVar S ak a k ∧ x_ = S) (fun x_ => kB D cA (va_A (PW cA S) sz) (PW cA x_)) (va_A (PW cA S) sz)) 0 0 (va_A (PW cA S) sz) := by
  refine Met.ofW (cc := cX5_variantBy) (maxL := 5) (ret := (some .int)) (by decide) rfl ?_
  intro p e s m args below meth c s₁ B hml hv
  obtain ⟨rfl, hsz, hP, hK, hD0, hTB⟩ := hv
  have hx := B.exec
  have hb := B.bytes
  have hr := B.returns
  have hts := atoms_spec (ws := Cond.code yX5_variantBy cX5_variantBy 5 (some .int) :: TT) B.pre
  have htT : ∀ w ∈ TT, w.before _ s = true := fun w h => hts w (List.mem_cons_of_mem _ h)
  have hown : s.vm.findClass RX5 = some m.cls := findClass_of_methodNamed B.named
  have hlocks := B.notSynchronized
  subst hsz
  have hD := hD0.self (sz := s.heap.size)
  generalize hAe : va_A (PW cA S) s.heap.size = A at hD ⊢
  have hA : ∀ q : Nat, s.heap.size ≤ q → A q := fun q h => by rw [← hAe]; exact Or.inr h
  have hS : va_S A s.heap s.heap [] := va_S.rf
  have hl := lv_entry ([.ref x, .ref a, .int k]) (n := 5) (Nat.le_of_ble_eq_true rfl)
  rw [lg_entry_eq]
  generalize (lg_sl ([.ref x, .ref a, .int k]) ++ List.replicate (5 - (lg_sl ([.ref x, .ref a, .int k])).length) Slot.unset).toArray = ls at hl ⊢
  have hl : lv_has ls 5 [(0, .ref x), (1, .ref a), (2, .int k)] := hl
  obtain ⟨hsw, hnum⟩ := hR.2 j hj a hja
  obtain ⟨ho, ⟨wt, hq4, hwt⟩, ⟨rl, hq5, hrl, hro⟩, ⟨cn, hcn, hch⟩, -, -⟩ := hsw
  have erl : rlA S a = rl := by simp [rlA, hq5]
  have ewt : wtA S a = wt := by simp [wtA, hq4]
  have earm : ∀ u, cArm S u cn (gQ S a 7) = cArmA S a u := fun u => cArm_fuel cn 100 _ hch hcn
  refine lv_iload_n hx hb dX5_variantBy_0 rfl (lv_at hl 2 rfl) ?_
  by_cases hk2 : k = 2
  · refine lv_lookup (off := 35) (tgt := 36) hx hb dX5_variantBy_1 (by decide) (by rw [hk2]; rfl) (by decide) ?_
    refine lv_aload_n hx hb dX5_variantBy_36 rfl (lv_at hl 1 rfl) ?_
    refine lv_aload_n hx hb dX5_variantBy_37 rfl (lv_at hl 0 rfl) ?_
    refine kx_gets hx hb htT m_u_X5 hown hK hP hx5 (Nat.le_of_ble_eq_true rfl) rfl 1 (by decide) (by decide) rfl hq1 (htT _ m_fl_X5_18) dX5_variantBy_38 ?_
    refine kx_getiN hx hb htT m_u_X1 hown hK hP hak (Nat.le_of_ble_eq_true rfl) rfl 0 (by decide) (by decide) rfl (hTB.use m_fl_X5_320) dX5_variantBy_41 ?_
    refine kc_q (va_runV (As := [.int (gI S ak 0)]) (rest := []) ⟨hx, hb, hml, hown, htT⟩ (c_armOf l D cA _ S a ho cn hch (gI S ak 0)) (cwV 1 htT (kg_V m_ml_X5_168 m_im_X3_armOf m_sl_X3_armOf m_in_X3 m_cd_X3_armOf) rfl rfl rfl (by decide +kernel) ⟨Nat.le_of_ble_eq_true rfl, Nat.le_of_ble_eq_true rfl⟩) (kp_V hK hP hD hTB (kp_rc hK hP ho (Nat.le_of_ble_eq_true rfl) rfl)) rfl rfl hl.1 rfl (lv_room (Nat.le_of_ble_eq_true rfl)) dX5_variantBy_44 ⟨Nat.le_of_ble_eq_true rfl, Nat.le_of_ble_eq_true rfl⟩) hD hS hA (fun r_1 x_1 H locs hq_1 hP hD hS => ?_)
    rw [hq_1.1.trans (earm _)]
    rw [hq_1.2] at hP hD
    rcases harm : cArmA S a (gI S ak 0) with _ | y_1
    · refine lv_astore_nN (lv' := [(3, .null), (0, .ref x), (1, .ref a), (2, .int k)]) hx hb dX5_variantBy_47 rfl hl (by decide) rfl (fun ls hl => ?_)
      refine lv_aload_nN hx hb dX5_variantBy_48 rfl (lv_at hl 0 rfl) ?_
      refine lv_ifnonnullN hx hb dX5_variantBy_49 ?_
      refine lv_iconst (v := 0) hx hb dX5_variantBy_52 (by decide) ?_
      refine lv_goto (tgt := 60) hx hb dX5_variantBy_53 (by decide) ?_
      exact W.iret (v := 0) hx hb hr (fun t ht hW => ⟨⟨0, S, rfl, ⟨by simp [cVar, ewt, hk2, harm], rfl⟩, by rw [ht]; exact hP, va_K.moved hW.alike hK, hD⟩, hS.F ht⟩) hS.2.2 dX5_variantBy_60
    · have hy_9 := (cArm_isO cn _ _ hch ((earm _).trans harm)).1
      refine lv_astore_n (lv' := [(3, .ref y_1), (0, .ref x), (1, .ref a), (2, .int k)]) hx hb dX5_variantBy_47 rfl hl (by decide) rfl (fun ls hl => ?_)
      refine lv_aload_n hx hb dX5_variantBy_48 rfl (lv_at hl 0 rfl) ?_
      refine lv_ifnonnull (tgt := 56) hx hb dX5_variantBy_49 (by decide) ?_
      refine lv_aload_n hx hb dX5_variantBy_56 rfl (lv_at hl 0 rfl) ?_
      refine kx_getiN hx hb htT m_u_X0 hown hK hP hy_9 (Nat.le_of_ble_eq_true rfl) rfl 1 (by decide) (by decide) rfl (hTB.use m_fl_X5_183) dX5_variantBy_57 ?_
      exact W.iret (v := gI S y_1 1) hx hb hr (fun t ht hW => ⟨⟨gI S y_1 1, S, rfl, ⟨by simp [cVar, ewt, hk2, harm], rfl⟩, by rw [ht]; exact hP, va_K.moved hW.alike hK, hD⟩, hS.F ht⟩) hS.2.2 dX5_variantBy_60
  · by_cases hk3 : k = 3
    · refine lv_lookup (off := 60) (tgt := 61) hx hb dX5_variantBy_1 (by decide) ((lv_osw hk2 rfl).trans (by rw [hk3]; rfl)) (by decide) ?_
      refine lv_aload_n hx hb dX5_variantBy_61 rfl (lv_at hl 1 rfl) ?_
      refine lv_aload_n hx hb dX5_variantBy_62 rfl (lv_at hl 1 rfl) ?_
      refine lv_aload_n hx hb dX5_variantBy_63 rfl (lv_at hl 0 rfl) ?_
      refine kx_gets hx hb htT m_u_X5 hown hK hP hx5 (Nat.le_of_ble_eq_true rfl) rfl 1 (by decide) (by decide) rfl hq1 (htT _ m_fl_X5_18) dX5_variantBy_64 ?_
      refine kx_getiN hx hb htT m_u_X1 hown hK hP hak (Nat.le_of_ble_eq_true rfl) rfl 1 (by decide) (by decide) rfl (hTB.use m_fl_X5_323) dX5_variantBy_67 ?_
      refine lv_aload_n hx hb dX5_variantBy_70 rfl (lv_at hl 0 rfl) ?_
      refine kx_gets hx hb htT m_u_X5 hown hK hP hx5 (Nat.le_of_ble_eq_true rfl) rfl 1 (by decide) (by decide) rfl hq1 (htT _ m_fl_X5_18) dX5_variantBy_71 ?_
      refine kx_getiN hx hb htT m_u_X1 hown hK hP hak (Nat.le_of_ble_eq_true rfl) rfl 2 (by decide) (by decide) rfl (hTB.use m_fl_X5_326) dX5_variantBy_74 ?_
      refine kc_i (va_runV (As := [.int (gI S ak 1), .int (gI S ak 2)]) (rest := [.ref a]) ⟨hx, hb, hml, hown, htT⟩ (c_firstRuleFor l D cA _ S a ho rl hq5 hrl hro (gI S ak 1) (gI S ak 2)) (cwV 2 htT (kg_V m_ml_X5_158 m_im_X3_firstRuleFor m_sl_X3_firstRuleFor m_in_X3 m_cd_X3_firstRuleFor) rfl rfl rfl (by decide +kernel) ⟨Nat.le_of_ble_eq_true rfl, Nat.le_of_ble_eq_true rfl⟩) (kp_V hK hP hD hTB (kp_rc hK hP ho (Nat.le_of_ble_eq_true rfl) rfl)) rfl rfl hl.1 rfl (lv_room (Nat.le_of_ble_eq_true rfl)) dX5_variantBy_77 ⟨Nat.le_of_ble_eq_true rfl, Nat.le_of_ble_eq_true rfl⟩) hD hS hA (fun r_2 x_2 H locs hq_2 hP hD hS => ?_)
      rw [hq_2.1]
      rw [hq_2.2] at hP hD
      refine kc_q (va_runV (As := [.int (cHold S rl (gI S ak 1) (gI S ak 2) 5 0)]) (rest := []) ⟨hx, hb, hml, hown, htT⟩ (c_ruleAt l D cA _ S a ho rl hq5 hrl (cHold S rl (gI S ak 1) (gI S ak 2) 5 0)) (cwV 1 htT (kg_V m_ml_X5_329 m_im_X3_ruleAt m_sl_X3_ruleAt m_in_X3 m_cd_X3_ruleAt) rfl rfl rfl (by decide +kernel) ⟨Nat.le_of_ble_eq_true rfl, Nat.le_of_ble_eq_true rfl⟩) (kp_V hK hP hD hTB (kp_rc hK hP ho (Nat.le_of_ble_eq_true rfl) rfl)) rfl rfl hl.1 rfl (lv_room (Nat.le_of_ble_eq_true rfl)) dX5_variantBy_80 ⟨Nat.le_of_ble_eq_true rfl, Nat.le_of_ble_eq_true rfl⟩) hD hS hA (fun r_3 x_3 H locs hq_3 hP hD hS => ?_)
      rw [hq_3.1.trans (show cRule S rl (cHold S rl (gI S ak 1) (gI S ak 2) 5 0) = cRu S ak a by rw [cRu, erl])]
      rw [hq_3.2] at hP hD
      rcases hrul : cRu S ak a with _ | y_2
      · refine lv_astoreN (lv' := [(4, .null), (0, .ref x), (1, .ref a), (2, .int k)]) hx hb dX5_variantBy_83 hl (by decide) rfl (fun ls hl => ?_)
        refine lv_aloadN hx hb dX5_variantBy_85 (lv_at hl 0 rfl) ?_
        refine lv_ifnonnullN hx hb dX5_variantBy_87 ?_
        refine lv_iconst (v := 0) hx hb dX5_variantBy_90 (by decide) ?_
        refine lv_goto (tgt := 99) hx hb dX5_variantBy_91 (by decide) ?_
        exact W.iret (v := 0) hx hb hr (fun t ht hW => ⟨⟨0, S, rfl, ⟨by simp [cVar, ewt, hk2, hk3, hrul], rfl⟩, by rw [ht]; exact hP, va_K.moved hW.alike hK, hD⟩, hS.F ht⟩) hS.2.2 dX5_variantBy_99
      · have hru9 : isO S y_2 2 := by
          have h9 := hrul
          rw [cRu, erl] at h9
          exact cRule_isO hro h9
        refine lv_astore (lv' := [(4, .ref y_2), (0, .ref x), (1, .ref a), (2, .int k)]) hx hb dX5_variantBy_83 hl (by decide) rfl (fun ls hl => ?_)
        refine lv_aload hx hb dX5_variantBy_85 (lv_at hl 0 rfl) ?_
        refine lv_ifnonnull (tgt := 94) hx hb dX5_variantBy_87 (by decide) ?_
        refine lv_aload hx hb dX5_variantBy_94 (lv_at hl 0 rfl) ?_
        refine kx_getiN hx hb htT m_u_X2 hown hK hP hru9 (Nat.le_of_ble_eq_true rfl) rfl 3 (by decide) (by decide) rfl (hTB.use m_fl_X5_333) dX5_variantBy_96 ?_
        exact W.iret (v := gI S y_2 3) hx hb hr (fun t ht hW => ⟨⟨gI S y_2 3, S, rfl, ⟨by simp [cVar, ewt, hk2, hk3, hrul], rfl⟩, by rw [ht]; exact hP, va_K.moved hW.alike hK, hD⟩, hS.F ht⟩) hS.2.2 dX5_variantBy_99
    · by_cases hk8 : k = 8
      · refine lv_lookup (off := 99) (tgt := 100) hx hb dX5_variantBy_1 (by decide) ((lv_osw hk2 rfl).trans ((lv_osw hk3 rfl).trans (by rw [hk8]; rfl))) (by decide) ?_
        refine lv_aload_n hx hb dX5_variantBy_100 rfl (lv_at hl 1 rfl) ?_
        refine lv_aload_n hx hb dX5_variantBy_101 rfl (lv_at hl 1 rfl) ?_
        refine kx_getiN hx hb htT m_u_X3 hown hK hP ho (Nat.le_of_ble_eq_true rfl) rfl 1 (by decide) (by decide) rfl (hTB.use m_fl_X5_334) dX5_variantBy_102 ?_
        refine lv_aload_n hx hb dX5_variantBy_105 rfl (lv_at hl 0 rfl) ?_
        refine kx_gets hx hb htT m_u_X5 hown hK hP hx5 (Nat.le_of_ble_eq_true rfl) rfl 1 (by decide) (by decide) rfl hq1 (htT _ m_fl_X5_18) dX5_variantBy_106 ?_
        refine kx_getiN hx hb htT m_u_X1 hown hK hP hak (Nat.le_of_ble_eq_true rfl) rfl 0 (by decide) (by decide) rfl (hTB.use m_fl_X5_320) dX5_variantBy_109 ?_
        refine kc_i (va_runS (As := [.int (gI S a 1), .int (gI S ak 0)]) (rest := [.ref a]) ⟨hx, hb, hml, hown, htT⟩ (c_bucketOf l D cA _ S (gI S a 1) (gI S ak 0)) (cwS 2 htT (kg_S m_ml_X5_141 m_st_X5_bucketOf m_in_X5 m_cd_X5_bucketOf) rfl rfl rfl (by decide +kernel) ⟨Nat.le_of_ble_eq_true rfl, Nat.le_of_ble_eq_true rfl⟩) (kp_S hK hP hD hTB) rfl rfl hl.1 rfl (lv_room (Nat.le_of_ble_eq_true rfl)) dX5_variantBy_112 ⟨Nat.le_of_ble_eq_true rfl, Nat.le_of_ble_eq_true rfl⟩) hD hS hA (fun r_4 x_4 H locs hq_4 hP hD hS => ?_)
        rw [hq_4.1]
        rw [hq_4.2] at hP hD
        refine kc_i (va_runV (As := [.int (kBkt (gI S a 1) (gI S ak 0))]) (rest := []) ⟨hx, hb, hml, hown, htT⟩ (c_splitBy l D cA _ S a ho wt hq4 hwt (kBkt (gI S a 1) (gI S ak 0))) (cwV 1 htT (kg_V m_ml_X5_337 m_im_X3_splitBy m_sl_X3_splitBy m_in_X3 m_cd_X3_splitBy) rfl rfl rfl (by decide +kernel) ⟨Nat.le_of_ble_eq_true rfl, Nat.le_of_ble_eq_true rfl⟩) (kp_V hK hP hD hTB (kp_rc hK hP ho (Nat.le_of_ble_eq_true rfl) rfl)) rfl rfl hl.1 rfl (lv_room (Nat.le_of_ble_eq_true rfl)) dX5_variantBy_115 ⟨Nat.le_of_ble_eq_true rfl, Nat.le_of_ble_eq_true rfl⟩) hD hS hA (fun r_5 x_5 H locs hq_5 hP hD hS => ?_)
        rw [hq_5.1]
        rw [hq_5.2] at hP hD
        exact W.iret (v := cSplit S wt (kBkt (gI S a 1) (gI S ak 0)) 4 0 0) hx hb hr (fun t ht hW => ⟨⟨cSplit S wt (kBkt (gI S a 1) (gI S ak 0)) 4 0 0, S, rfl, ⟨by simp [cVar, ewt, hk2, hk3, hk8], rfl⟩, by rw [ht]; exact hP, va_K.moved hW.alike hK, hD⟩, hS.F ht⟩) hS.2.2 dX5_variantBy_118
      · refine lv_lookup (off := 118) (tgt := 119) hx hb dX5_variantBy_1 (by decide) ((lv_osw hk2 rfl).trans ((lv_osw hk3 rfl).trans ((lv_osw hk8 rfl).trans (rfl)))) (by decide) ?_
        refine lv_iconst (v := 0) hx hb dX5_variantBy_119 (by decide) ?_
        exact W.iret (v := 0) hx hb hr (fun t ht hW => ⟨⟨0, S, rfl, ⟨by simp [cVar, ewt, hk2, hk3, hk8], rfl⟩, by rw [ht]; exact hP, va_K.moved hW.alike hK, hD⟩, hS.F ht⟩) hS.2.2 dX5_variantBy_120

set_option maxRecDepth 100000 in
set_option maxHeartbeats 4000000 in
/-- the variant -/
theorem c_variantOf (l : Launch) (D : va_G) (cA : Nat → ClassId) (sz : Nat) (S : Pool) (x : Nat) (hx5 : isO S x 5) (ar : Nat) (hq0 : gQ S x 0 = some ar) (ak : Nat) (hq1 : gQ S x 1 = some ak) (hak : isO S ak 1) (hR : okR S ar) (d : Nat) (hV : ∀ d9, d = d9 + 1 → PV l D cA S x ar ak d9) (a : Nat) (j : Nat) (hj : j < 8) (hja : gP S ar j = some a) (hjd : j ≤ d) : Met l yX5_variantOf (Cond.code yX5_variantOf cX5_variantOf 2 (some .int) :: TT) ({ frames := 3 * d + 4, cells := 0, slots := 0, locals := 65 * d + 144 }) (va_Pc [.ref x, .ref a] (kPre D cA (PW cA S) sz)) (va_Qi (fun (r_ : Int32) (x_ : Pool) => r_ = cV S x ar ak (d + 1) a ∧ x_ = S) (fun x_ => kB D cA (va_A (PW cA S) sz) (PW cA x_)) (va_A (PW cA S) sz)) 0 0 (va_A (PW cA S) sz) := by
  refine Met.ofW (cc := cX5_variantOf) (maxL := 2) (ret := (some .int)) (by decide) rfl ?_
  intro p e s m args below meth c s₁ B hml hv
  obtain ⟨rfl, hsz, hP, hK, hD0, hTB⟩ := hv
  have hx := B.exec
  have hb := B.bytes
  have hr := B.returns
  have hts := atoms_spec (ws := Cond.code yX5_variantOf cX5_variantOf 2 (some .int) :: TT) B.pre
  have htT : ∀ w ∈ TT, w.before _ s = true := fun w h => hts w (List.mem_cons_of_mem _ h)
  have hown : s.vm.findClass RX5 = some m.cls := findClass_of_methodNamed B.named
  have hlocks := B.notSynchronized
  subst hsz
  have hD := hD0.self (sz := s.heap.size)
  generalize hAe : va_A (PW cA S) s.heap.size = A at hD ⊢
  have hA : ∀ q : Nat, s.heap.size ≤ q → A q := fun q h => by rw [← hAe]; exact Or.inr h
  have hS : va_S A s.heap s.heap [] := va_S.rf
  have hl := lv_entry ([.ref x, .ref a]) (n := 2) (Nat.le_of_ble_eq_true rfl)
  rw [lg_entry_eq]
  generalize (lg_sl ([.ref x, .ref a]) ++ List.replicate (2 - (lg_sl ([.ref x, .ref a])).length) Slot.unset).toArray = ls at hl ⊢
  have hl : lv_has ls 2 [(0, .ref x), (1, .ref a)] := hl
  obtain ⟨hsw, hnum⟩ := hR.2 j hj a hja
  obtain ⟨ho, ⟨wt, hq4, hwt⟩, ⟨rl, hq5, hrl, hro⟩, ⟨cn, hcn, hch⟩, -, -⟩ := hsw
  have erl : rlA S a = rl := by simp [rlA, hq5]
  have ewt : wtA S a = wt := by simp [wtA, hq4]
  have earm : ∀ u, cArm S u cn (gQ S a 7) = cArmA S a u := fun u => cArm_fuel cn 100 _ hch hcn
  refine lv_aload_n hx hb dX5_variantOf_0 rfl (lv_at hl 0 rfl) ?_
  refine lv_aload_n hx hb dX5_variantOf_1 rfl (lv_at hl 1 rfl) ?_
  refine lv_aload_n hx hb dX5_variantOf_2 rfl (lv_at hl 0 rfl) ?_
  refine lv_aload_n hx hb dX5_variantOf_3 rfl (lv_at hl 1 rfl) ?_
  refine kc_i (va_runV (As := [.ref a]) (rest := [.ref a, .ref x]) ⟨hx, hb, hml, hown, htT⟩ (c_reasonOf l D cA _ S x hx5 ar hq0 ak hq1 hak hR d hV a j hj hja hjd) (cwV 1 htT (kg_V m_ml_X5_155 m_im_X5_reasonOf m_sl_X5_reasonOf m_in_X5 m_cd_X5_reasonOf) rfl rfl rfl (by decide +kernel) ⟨(show 3 * d + 3 + 1 ≤ 3 * d + 4 by omega), (show 8 + (3 + 11) + (65 * d + 122) ≤ 65 * d + 144 by omega)⟩) (kp_V hK hP hD hTB (kp_rc hK hP hx5 (Nat.le_of_ble_eq_true rfl) rfl)) rfl rfl hl.1 rfl (lv_room (Nat.le_of_ble_eq_true rfl)) dX5_variantOf_4 ⟨Nat.le_of_ble_eq_true rfl, Nat.le_of_ble_eq_true rfl⟩) hD hS hA (fun r_1 x_1 H locs hq_1 hP hD hS => ?_)
  rw [hq_1.1]
  rw [hq_1.2] at hP hD
  refine kc_i (va_runV (As := [.ref a, .int (cRsn S x ak (cHas S ar (cV S x ar ak d) a) a)]) (rest := []) ⟨hx, hb, hml, hown, htT⟩ (c_variantBy l D cA _ S x hx5 ar hq0 ak hq1 hak hR a j hj hja (cRsn S x ak (cHas S ar (cV S x ar ak d) a) a)) (cwV 2 htT (kg_V m_ml_X5_161 m_im_X5_variantBy m_sl_X5_variantBy m_in_X5 m_cd_X5_variantBy) rfl rfl rfl (by decide +kernel) ⟨(show 2 + 1 ≤ 3 * d + 4 by omega), (show 8 + (5 + 11) + (47) ≤ 65 * d + 144 by omega)⟩) (kp_V hK hP hD hTB (kp_rc hK hP hx5 (Nat.le_of_ble_eq_true rfl) rfl)) rfl rfl hl.1 rfl (lv_room (Nat.le_of_ble_eq_true rfl)) dX5_variantOf_7 ⟨Nat.le_of_ble_eq_true rfl, Nat.le_of_ble_eq_true rfl⟩) hD hS hA (fun r_2 x_2 H locs hq_2 hP hD hS => ?_)
  rw [hq_2.1]
  rw [hq_2.2] at hP hD
  exact W.iret (v := cVar S ak a (cRsn S x ak (cHas S ar (cV S x ar ak d) a) a)) hx hb hr (fun t ht hW => ⟨⟨cVar S ak a (cRsn S x ak (cHas S ar (cV S x ar ak d) a) a), S, rfl, ⟨rfl, rfl⟩, by rw [ht]; exact hP, va_K.moved hW.alike hK, hD⟩, hS.F ht⟩) hS.2.2 dX5_variantOf_10

theorem c_PV (l : Launch) (D : va_G) (cA : Nat → ClassId) (S : Pool) (x : Nat) (hx5 : isO S x 5) (ar : Nat) (hq0 : gQ S x 0 = some ar) (ak : Nat) (hq1 : gQ S x 1 = some ak) (hak : isO S ak 1) (hR : okR S ar) : ∀ d, PV l D cA S x ar ak d := by
  intro d
  induction d with
  | zero => exact fun sz j a hj hjd hja => c_variantOf l D cA sz S x hx5 ar hq0 ak hq1 hak hR 0 (fun d9 h => absurd h (by omega)) a j hj hja hjd
  | succ d ih => exact fun sz j a hj hjd hja => c_variantOf l D cA sz S x hx5 ar hq0 ak hq1 hak hR (d + 1) (fun d9 h => by cases h; exact ih) a j hj hja hjd
