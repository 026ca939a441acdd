set_option maxRecDepth 100000 in
set_option maxHeartbeats 4000000 in
theorem t_act (l : Launch) (D : va_G) (cA : Nat → ClassId) (sz : Nat) (am : Nat) (r : Nat → Nat) (M : MSt) (n na : Nat) (hI : INVR n na M) (p0 p1 : Int32) : Met l yX6_act (Cond.code yX6_act cX6_act 5 (some .int) :: TT) ({ frames := 2, cells := 0, slots := 0, locals := 42 }) (va_Pc [.ref am, .int p0, .int p1] (kPre D cA (wM cA am r M) sz)) (va_Qi (fun (r_ : Int32) (x_ : MSt) => INVR n na x_ ∧ eqM M x_) (fun x_ => kB D cA (va_A (wM cA am r M) sz) (wM cA am r x_)) (va_A (wM cA am r M) sz)) 0 0 (va_A (wM cA am r M) sz) := by
  refine Met.ofW (cc := cX6_act) (maxL := 5) (ret := (some .int)) (by decide) rfl ?_
  intro p e s m args below meth c s₁ B hml hv
  obtain ⟨rfl, hsz, hP, hK, hD0, hTB⟩ := hv
  have hx := B.exec
  have hb := B.bytes
  have hr := B.returns
  have hts := atoms_spec (ws := Cond.code yX6_act cX6_act 5 (some .int) :: TT) B.pre
  have htT : ∀ w ∈ TT, w.before _ s = true := fun w h => hts w (List.mem_cons_of_mem _ h)
  have hown : s.vm.findClass RX6 = some m.cls := findClass_of_methodNamed B.named
  have hlocks := B.notSynchronized
  subst hsz
  have hD := hD0.self (sz := s.heap.size)
  generalize hAe : va_A (wM cA am r M) s.heap.size = A at hD ⊢
  have hA : ∀ q : Nat, s.heap.size ≤ q → A q := fun q h => by rw [← hAe]; exact Or.inr h
  have hS : va_S A s.heap s.heap [] := va_S.rf
  have hl := lv_entry ([.ref am, .int p0, .int p1]) (n := 5) (Nat.le_of_ble_eq_true rfl)
  rw [lg_entry_eq]
  generalize (lg_sl ([.ref am, .int p0, .int p1]) ++ List.replicate (5 - (lg_sl ([.ref am, .int p0, .int p1])).length) Slot.unset).toArray = ls at hl ⊢
  have hl : lv_has ls 5 [(0, .ref am), (1, .int p0), (2, .int p1)] := hl
  have hn8 := hI.n8
  have hna9 := hI.na
  refine lv_aload_n hx hb dX6_act_0 rfl (lv_at hl 0 rfl) ?_
  refine lv_iconst (v := 0) hx hb dX6_act_1 (by decide) ?_
  refine km_puti hx hb htT hown hK hP hD hS 0 (by decide) rfl (htT _ m_fl_X6_80) rfl (by decide +kernel) dX6_act_2 (fun H locs hP hD hS => ?_)
  refine lv_iload_n hx hb dX6_act_5 rfl (lv_at hl 1 rfl) ?_
  refine kc_i (va_runS (As := [.int p0]) (rest := []) ⟨hx, hb, hml, hown, htT⟩ (m_isUser l D cA _ am r (mS M 0 0) p0) (cwS 1 htT (kg_S m_ml_X6_145 m_st_X6_isUser m_in_X6 m_cd_X6_isUser) rfl rfl rfl (by decide +kernel) ⟨Nat.le_of_ble_eq_true rfl, Nat.le_of_ble_eq_true rfl⟩) (kp_S hK hP hD hTB) rfl rfl hl.1 rfl (lv_room (Nat.le_of_ble_eq_true rfl)) dX6_act_6 ⟨Nat.le_of_ble_eq_true rfl, Nat.le_of_ble_eq_true rfl⟩) hD hS hA (fun r_1 x_1 H locs hq_1 hP hD hS => ?_)
  rw [hq_1.1]
  rw [hq_1.2] at hP hD
  refine lv_if_eq (tgt := 22) hx hb dX6_act_9 (by decide) (fun c_2 => ?_) (fun c_2 => ?_)
  · refine lv_aload_n hx hb dX6_act_22 rfl (lv_at hl 0 rfl) ?_
    refine lv_iconst (v := 1) hx hb dX6_act_23 (by decide) ?_
    refine kc_i (va_runV (As := [.int 1]) (rest := []) ⟨hx, hb, hml, hown, htT⟩ (m_no l D cA _ am r (mS M 0 0) 1) (cwV 1 htT (kg_V m_ml_X6_95 m_im_X6_no m_sl_X6_no m_in_X6 m_cd_X6_no) rfl rfl rfl (by decide +kernel) ⟨Nat.le_of_ble_eq_true rfl, Nat.le_of_ble_eq_true rfl⟩) (kp_V hK hP hD hTB (km_rc hK hP)) rfl rfl hl.1 rfl (lv_room (Nat.le_of_ble_eq_true rfl)) dX6_act_24 ⟨Nat.le_of_ble_eq_true rfl, Nat.le_of_ble_eq_true rfl⟩) hD hS hA (fun r_3 x_3 H locs hq_3 hP hD hS => ?_)
    rw [hq_3.1]
    rw [hq_3.2] at hP hD
    exact W.iret (v := 0) hx hb hr (fun t ht hW => ⟨⟨0, mS (mS M 0 0) 0 1, rfl, ⟨(INVR.iS (INVR.iS hI (by decide) (by decide)) (by decide) (by decide)), ((eqM.rf).s0).s0⟩, by rw [ht]; exact hP, va_K.moved hW.alike hK, hD⟩, hS.F ht⟩) hS.2.2 dX6_act_27
  · refine lv_iload_n hx hb dX6_act_12 rfl (lv_at hl 2 rfl) ?_
    refine lv_iconst (v := 0) hx hb dX6_act_13 (by decide) ?_
    refine lv_bipush (v := 100) hx hb dX6_act_14 (by decide) ?_
    refine kc_i (va_runS (As := [.int p1, .int 0, .int 100]) (rest := []) ⟨hx, hb, hml, hown, htT⟩ (m_isIn l D cA _ am r (mS M 0 0) p1 0 100) (cwS 3 htT (kg_S m_ml_X6_87 m_st_X6_isIn m_in_X6 m_cd_X6_isIn) rfl rfl rfl (by decide +kernel) ⟨Nat.le_of_ble_eq_true rfl, Nat.le_of_ble_eq_true rfl⟩) (kp_S hK hP hD hTB) rfl rfl hl.1 rfl (lv_room (Nat.le_of_ble_eq_true rfl)) dX6_act_16 ⟨Nat.le_of_ble_eq_true rfl, Nat.le_of_ble_eq_true rfl⟩) hD hS hA (fun r_4 x_4 H locs hq_4 hP hD hS => ?_)
    rw [hq_4.1]
    rw [hq_4.2] at hP hD
    refine lv_if_ne (tgt := 28) hx hb dX6_act_19 (by decide) (fun c_5 => ?_) (fun c_5 => ?_)
    · refine lv_iconst (v := 0) hx hb dX6_act_28 (by decide) ?_
      refine lv_istore_n (lv' := [(3, .int 0), (0, .ref am), (1, .int p0), (2, .int p1)]) hx hb dX6_act_29 rfl hl (by decide) rfl (fun ls hl => ?_)
      refine lv_iconst (v := 0) hx hb dX6_act_30 (by decide) ?_
      refine lv_istore (lv' := [(4, .int 0), (3, .int 0), (0, .ref am), (1, .int p0), (2, .int p1)]) hx hb dX6_act_31 hl (by decide) rfl (fun ls hl => ?_)
      refine kz_loop 33 (fun N9 H locs ls => ∃ (j : Nat) (acc : Int32) (T : MSt), N9 = na - j ∧ j ≤ na ∧ INVR n na T ∧ eqM M T ∧ va_P D vwCl (wM cA am r T) H ∧ va_D A (wM cA am r T) ∧ va_S A s.heap H locs ∧ lv_has ls 5 [(4, .int (nI j)), (3, .int acc), (2, .int p1), (1, .int p0), (0, .ref am)]) (fun N9 ih_33 H locs ls hI => ?_) ⟨0, 0, (mS M 0 0), rfl, by omega, hI.iS (by decide) (by decide), eqM.rf.s0, hP, hD, hS, lv_sub hl [0, 1, 4, 3, 2] rfl⟩
      obtain ⟨j, acc, T, hn9, hj, hT, hT1, hP, hD, hS, hl⟩ := hI
      refine lv_iload hx hb dX6_act_33 (lv_at hl 0 rfl) ?_
      refine lv_aload_n hx hb dX6_act_35 rfl (lv_at hl 4 rfl) ?_
      refine km_getiv (x := nI na) hx hb htT hown hK hP 22 (by decide) rfl (htT _ m_fl_X6_151) hT.h22 dX6_act_36 ?_
      refine lv_icmp_ge (tgt := 84) hx hb dX6_act_39 (by decide) (fun c_6 => ?_) (fun c_6 => ?_)
      · replace c_6 := (nI_leI (a := na) (b := j) (by omega) (by omega)).mp c_6
        refine lv_iload_n hx hb dX6_act_84 rfl (lv_at hl 1 rfl) ?_
        exact W.iret (v := acc) hx hb hr (fun t ht hW => ⟨⟨acc, T, rfl, ⟨hT, hT1⟩, by rw [ht]; exact hP, va_K.moved hW.alike hK, hD⟩, hS.F ht⟩) hS.2.2 dX6_act_85
      · replace c_6 : ¬ (na ≤ j) := fun h9 => c_6 ((nI_leI (a := na) (b := j) (by omega) (by omega)).mpr h9)
        refine lv_aload_n hx hb dX6_act_42 rfl (lv_at hl 4 rfl) ?_
        refine km_getr hx hb htT hown hK hP 24 (by decide) rfl (htT _ m_fl_X6_68) dX6_act_43 ?_
        refine lv_iload hx hb dX6_act_46 (lv_at hl 0 rfl) ?_
        refine km_ialdv (x := (T.2 24) j) hx hb hK hP 24 rfl rfl (show vp_in (nI (j)) 100 from ki_in (by omega) (by decide)) (congrArg _ (ki_cl (by omega))) dX6_act_48 ?_
        refine lv_iload_n hx hb dX6_act_49 rfl (lv_at hl 3 rfl) ?_
        refine lv_icmp_eq (tgt := 56) hx hb dX6_act_50 (by decide) (fun c_7 => ?_) (fun c_7 => ?_)
        · refine lv_aload_n hx hb dX6_act_56 rfl (lv_at hl 4 rfl) ?_
          refine km_getr hx hb htT hown hK hP 26 (by decide) rfl (htT _ m_fl_X6_74) dX6_act_57 ?_
          refine lv_iload hx hb dX6_act_60 (lv_at hl 0 rfl) ?_
          refine lv_dup2_11 hx hb dX6_act_62 rfl rfl ?_
          refine km_ialdv (x := (T.2 26) j) hx hb hK hP 26 rfl rfl (show vp_in (nI (j)) 100 from ki_in (by omega) (by decide)) (congrArg _ (ki_cl (by omega))) dX6_act_63 ?_
          refine lv_iload_n hx hb dX6_act_64 rfl (lv_at hl 2 rfl) ?_
          refine lv_iadd hx hb dX6_act_65 ?_
          refine km_iast hx hb hK hP hD hS 26 rfl rfl (show vp_in (nI (j)) 100 from ki_in (by omega) (by decide)) dX6_act_66 (fun H locs hP hD hS => ?_)
          rw [ki_cl (n := j) (by omega)] at hP hD
          refine lv_aload_n hx hb dX6_act_67 rfl (lv_at hl 4 rfl) ?_
          refine km_getr hx hb htT hown hK hP 27 (by decide) rfl (htT _ m_fl_X6_77) dX6_act_68 ?_
          refine lv_iload hx hb dX6_act_71 (lv_at hl 0 rfl) ?_
          refine lv_iconst (v := 1) hx hb dX6_act_73 (by decide) ?_
          refine km_zast hx hb hK hP hD hS 27 rfl rfl (Or.inr rfl) (show vp_in (nI (j)) 100 from ki_in (by omega) (by decide)) dX6_act_74 (fun H locs hP hD hS => ?_)
          rw [ki_cl (n := j) (by omega)] at hP hD
          obtain ⟨i_8, ei_8⟩ : ∃ y : Int32, y = acc + 1 := ⟨_, rfl⟩
          refine lv_iinc (v := i_8) (lv' := [(3, .int i_8), (4, .int (nI j)), (2, .int p1), (1, .int p0), (0, .ref am)]) hx hb dX6_act_75 hl (k := 1) rfl (by rw [ei_8]; rfl) (by decide) rfl (fun ls hl => ?_)
          refine lv_iinc (v := nI (j + 1)) (lv' := [(4, .int (nI (j + 1))), (3, .int i_8), (2, .int p1), (1, .int p0), (0, .ref am)]) hx hb dX6_act_78 hl (k := 1) rfl (nI_1 _) (by decide) rfl (fun ls hl => ?_)
          refine lv_goto (tgt := 33) hx hb dX6_act_81 (by decide) ?_
          have hl := lv_sub hl [0, 1, 2, 3, 4] rfl
          exact ih_33 _ (by omega) H locs ls ⟨j + 1, _, mR (mR T 26 j (((T.2 26) j) + p1)) 27 j 1, rfl, by omega, (INVR.iR (INVR.iR hT (by decide)) (by decide)), ((hT1).r26).r27, hP, hD, hS, hl⟩
        · refine lv_goto (tgt := 78) hx hb dX6_act_53 (by decide) ?_
          refine lv_iinc (v := nI (j + 1)) (lv' := [(4, .int (nI (j + 1))), (3, .int acc), (2, .int p1), (1, .int p0), (0, .ref am)]) hx hb dX6_act_78 hl (k := 0) rfl (nI_1 _) (by decide) rfl (fun ls hl => ?_)
          refine lv_goto (tgt := 33) hx hb dX6_act_81 (by decide) ?_
          have hl := lv_sub hl [0, 1, 2, 3, 4] rfl
          exact ih_33 _ (by omega) H locs ls ⟨j + 1, _, T, rfl, by omega, hT, hT1, hP, hD, hS, hl⟩
    · refine lv_aload_n hx hb dX6_act_22 rfl (lv_at hl 0 rfl) ?_
      refine lv_iconst (v := 1) hx hb dX6_act_23 (by decide) ?_
      refine kc_i (va_runV (As := [.int 1]) (rest := []) ⟨hx, hb, hml, hown, htT⟩ (m_no l D cA _ am r (mS M 0 0) 1) (cwV 1 htT (kg_V m_ml_X6_95 m_im_X6_no m_sl_X6_no m_in_X6 m_cd_X6_no) rfl rfl rfl (by decide +kernel) ⟨Nat.le_of_ble_eq_true rfl, Nat.le_of_ble_eq_true rfl⟩) (kp_V hK hP hD hTB (km_rc hK hP)) rfl rfl hl.1 rfl (lv_room (Nat.le_of_ble_eq_true rfl)) dX6_act_24 ⟨Nat.le_of_ble_eq_true rfl, Nat.le_of_ble_eq_true rfl⟩) hD hS hA (fun r_9 x_9 H locs hq_9 hP hD hS => ?_)
      rw [hq_9.1]
      rw [hq_9.2] at hP hD
      exact W.iret (v := 0) hx hb hr (fun t ht hW => ⟨⟨0, mS (mS M 0 0) 0 1, rfl, ⟨(INVR.iS (INVR.iS hI (by decide) (by decide)) (by decide) (by decide)), ((eqM.rf).s0).s0⟩, by rw [ht]; exact hP, va_K.moved hW.alike hK, hD⟩, hS.F ht⟩) hS.2.2 dX6_act_27

set_option maxRecDepth 100000 in
set_option maxHeartbeats 4000000 in
theorem t_reach (l : Launch) (D : va_G) (cA : Nat → ClassId) (sz : Nat) (am : Nat) (r : Nat → Nat) (M : MSt) (n na : Nat) (hI : INVR n na M) (p0 p1 p2 : Int32) : Met l yX6_reach (Cond.code yX6_reach cX6_reach 4 (some .int) :: TT) ({ frames := 20, cells := 0, slots := 0, locals := 1011 }) (va_Pc [.ref am, .int p0, .int p1, .int p2] (kPre D cA (wM cA am r M) sz)) (va_Qi (fun (r_ : Int32) (x_ : MSt) => INVR n na x_ ∧ eqM M x_) (fun x_ => kB D cA (va_A (wM cA am r M) sz) (wM cA am r x_)) (va_A (wM cA am r M) sz)) 0 0 (va_A (wM cA am r M) sz) := by
  refine Met.ofW (cc := cX6_reach) (maxL := 4) (ret := (some .int)) (by decide) rfl ?_
  intro p e s m args below meth c s₁ B hml hv
  obtain ⟨rfl, hsz, hP, hK, hD0, hTB⟩ := hv
  have hx := B.exec
  have hb := B.bytes
  have hr := B.returns
  have hts := atoms_spec (ws := Cond.code yX6_reach cX6_reach 4 (some .int) :: TT) B.pre
  have htT : ∀ w ∈ TT, w.before _ s = true := fun w h => hts w (List.mem_cons_of_mem _ h)
  have hown : s.vm.findClass RX6 = some m.cls := findClass_of_methodNamed B.named
  have hlocks := B.notSynchronized
  subst hsz
  have hD := hD0.self (sz := s.heap.size)
  generalize hAe : va_A (wM cA am r M) s.heap.size = A at hD ⊢
  have hA : ∀ q : Nat, s.heap.size ≤ q → A q := fun q h => by rw [← hAe]; exact Or.inr h
  have hS : va_S A s.heap s.heap [] := va_S.rf
  have hl := lv_entry ([.ref am, .int p0, .int p1, .int p2]) (n := 4) (Nat.le_of_ble_eq_true rfl)
  rw [lg_entry_eq]
  generalize (lg_sl ([.ref am, .int p0, .int p1, .int p2]) ++ List.replicate (4 - (lg_sl ([.ref am, .int p0, .int p1, .int p2])).length) Slot.unset).toArray = ls at hl ⊢
  have hl : lv_has ls 4 [(0, .ref am), (1, .int p0), (2, .int p1), (3, .int p2)] := hl
  have hn8 := hI.n8
  have hna9 := hI.na
  obtain ⟨ru, hok⟩ := id hI.1
  refine lv_aload_n hx hb dX6_reach_0 rfl (lv_at hl 0 rfl) ?_
  refine lv_iconst (v := 0) hx hb dX6_reach_1 (by decide) ?_
  refine km_puti hx hb htT hown hK hP hD hS 0 (by decide) rfl (htT _ m_fl_X6_80) rfl (by decide +kernel) dX6_reach_2 (fun H locs hP hD hS => ?_)
  refine lv_aload_n hx hb dX6_reach_5 rfl (lv_at hl 0 rfl) ?_
  refine lv_iload_n hx hb dX6_reach_6 rfl (lv_at hl 1 rfl) ?_
  refine lv_iload_n hx hb dX6_reach_7 rfl (lv_at hl 2 rfl) ?_
  have h3_1 : M.1 3 = nI n := hI.h3
  rcases kIn_swx (p := p0) hI.n8 h3_1 with hsw | ⟨i, hi, rfl⟩
  · refine kc_i (va_runV (As := [.int p0, .int p1]) (rest := []) ⟨hx, hb, hml, hown, htT⟩ (m_isVariant_0 l D cA _ am r (mS M 0 0) p0 p1 hsw) (cwV 2 htT (kg_V m_ml_X6_102 m_im_X6_isVariant m_sl_X6_isVariant m_in_X6 m_cd_X6_isVariant) rfl rfl rfl (by decide +kernel) ⟨Nat.le_of_ble_eq_true rfl, Nat.le_of_ble_eq_true rfl⟩) (kp_V hK hP hD hTB (km_rc hK hP)) rfl rfl hl.1 rfl (lv_room (Nat.le_of_ble_eq_true rfl)) dX6_reach_8 ⟨Nat.le_of_ble_eq_true rfl, Nat.le_of_ble_eq_true rfl⟩) hD hS hA (fun r_1 x_1 H locs hq_1 hP hD hS => ?_)
    rw [hq_1.1]
    rw [hq_1.2] at hP hD
    refine lv_if_ne (tgt := 20) hx hb dX6_reach_11 (by decide) (fun c_2 => absurd c_2 (by decide)) (fun _ => ?_)
    refine lv_aload_n hx hb dX6_reach_14 rfl (lv_at hl 0 rfl) ?_
    refine lv_iconst (v := 1) hx hb dX6_reach_15 (by decide) ?_
    refine kc_i (va_runV (As := [.int 1]) (rest := []) ⟨hx, hb, hml, hown, htT⟩ (m_no l D cA _ am r (mS M 0 0) 1) (cwV 1 htT (kg_V m_ml_X6_95 m_im_X6_no m_sl_X6_no m_in_X6 m_cd_X6_no) rfl rfl rfl (by decide +kernel) ⟨Nat.le_of_ble_eq_true rfl, Nat.le_of_ble_eq_true rfl⟩) (kp_V hK hP hD hTB (km_rc hK hP)) rfl rfl hl.1 rfl (lv_room (Nat.le_of_ble_eq_true rfl)) dX6_reach_16 ⟨Nat.le_of_ble_eq_true rfl, Nat.le_of_ble_eq_true rfl⟩) hD hS hA (fun r_3 x_3 H locs hq_3 hP hD hS => ?_)
    rw [hq_3.1]
    rw [hq_3.2] at hP hD
    exact W.iret (v := 0) hx hb hr (fun t ht hW => ⟨⟨0, mS (mS M 0 0) 0 1, rfl, ⟨(INVR.iS (INVR.iS hI (by decide) (by decide)) (by decide) (by decide)), ((eqM.rf).s0).s0⟩, by rw [ht]; exact hP, va_K.moved hW.alike hK, hD⟩, hS.F ht⟩) hS.2.2 dX6_reach_19
  · refine kc_i (va_runV (As := [.int (nI i), .int p1]) (rest := []) ⟨hx, hb, hml, hown, htT⟩ (m_isVariant_1 l D cA _ am r (mS M 0 0) n i hi hI.n8 h3_1 p1) (cwV 2 htT (kg_V m_ml_X6_102 m_im_X6_isVariant m_sl_X6_isVariant m_in_X6 m_cd_X6_isVariant) rfl rfl rfl (by decide +kernel) ⟨Nat.le_of_ble_eq_true rfl, Nat.le_of_ble_eq_true rfl⟩) (kp_V hK hP hD hTB (km_rc hK hP)) rfl rfl hl.1 rfl (lv_room (Nat.le_of_ble_eq_true rfl)) dX6_reach_8 ⟨Nat.le_of_ble_eq_true rfl, Nat.le_of_ble_eq_true rfl⟩) hD hS hA (fun r_1 x_1 H locs hq_1 hP hD hS => ?_)
    rw [hq_1.2] at hP hD
    obtain ⟨vc_1, hvc_1, evc_1⟩ := (hI.2.1 i hi).1
    rcases kIn_swx (n := vc_1) (p := p1) (by omega) evc_1 with hv_1 | ⟨v_1, hv_1, rfl⟩
    · rw [hq_1.1.trans hv_1]
      refine lv_if_ne (tgt := 20) hx hb dX6_reach_11 (by decide) (fun c_4 => absurd c_4 (by decide)) (fun _ => ?_)
      refine lv_aload_n hx hb dX6_reach_14 rfl (lv_at hl 0 rfl) ?_
      refine lv_iconst (v := 1) hx hb dX6_reach_15 (by decide) ?_
      refine kc_i (va_runV (As := [.int 1]) (rest := []) ⟨hx, hb, hml, hown, htT⟩ (m_no l D cA _ am r (mS M 0 0) 1) (cwV 1 htT (kg_V m_ml_X6_95 m_im_X6_no m_sl_X6_no m_in_X6 m_cd_X6_no) rfl rfl rfl (by decide +kernel) ⟨Nat.le_of_ble_eq_true rfl, Nat.le_of_ble_eq_true rfl⟩) (kp_V hK hP hD hTB (km_rc hK hP)) rfl rfl hl.1 rfl (lv_room (Nat.le_of_ble_eq_true rfl)) dX6_reach_16 ⟨Nat.le_of_ble_eq_true rfl, Nat.le_of_ble_eq_true rfl⟩) hD hS hA (fun r_5 x_5 H locs hq_5 hP hD hS => ?_)
      rw [hq_5.1]
      rw [hq_5.2] at hP hD
      exact W.iret (v := 0) hx hb hr (fun t ht hW => ⟨⟨0, mS (mS M 0 0) 0 1, rfl, ⟨(INVR.iS (INVR.iS hI (by decide) (by decide)) (by decide) (by decide)), ((eqM.rf).s0).s0⟩, by rw [ht]; exact hP, va_K.moved hW.alike hK, hD⟩, hS.F ht⟩) hS.2.2 dX6_reach_19
    · have hv4_1 : v_1 < 4 := by omega
      have hvk_1 := kIn_sw (i := v_1) (n := vc_1) hv_1 (by omega) evc_1
      rw [hq_1.1.trans hvk_1]
      refine lv_if_ne (tgt := 20) hx hb dX6_reach_11 (by decide) (fun _ => ?_) (fun c_6 => absurd c_6 (by decide))
      refine lv_iload_n hx hb dX6_reach_20 rfl (lv_at hl 3 rfl) ?_
      refine lv_iconst (v := 1) hx hb dX6_reach_21 (by decide) ?_
      refine lv_sipush (v := 200) hx hb dX6_reach_22 (by decide) ?_
      refine kc_i (va_runS (As := [.int p2, .int 1, .int 200]) (rest := []) ⟨hx, hb, hml, hown, htT⟩ (m_isIn l D cA _ am r (mS M 0 0) p2 1 200) (cwS 3 htT (kg_S m_ml_X6_87 m_st_X6_isIn m_in_X6 m_cd_X6_isIn) rfl rfl rfl (by decide +kernel) ⟨Nat.le_of_ble_eq_true rfl, Nat.le_of_ble_eq_true rfl⟩) (kp_S hK hP hD hTB) rfl rfl hl.1 rfl (lv_room (Nat.le_of_ble_eq_true rfl)) dX6_reach_25 ⟨Nat.le_of_ble_eq_true rfl, Nat.le_of_ble_eq_true rfl⟩) hD hS hA (fun r_7 x_7 H locs hq_7 hP hD hS => ?_)
      rw [hq_7.2] at hP hD
      rcases kIn_01 p2 1 200 with hn_7 | hn_7
      · rw [hq_7.1.trans hn_7]
        refine lv_if_eq (tgt := 41) hx hb dX6_reach_28 (by decide) (fun _ => ?_) (fun c_8 => absurd c_8 (by decide))
        refine lv_aload_n hx hb dX6_reach_41 rfl (lv_at hl 0 rfl) ?_
        refine lv_iconst (v := 2) hx hb dX6_reach_42 (by decide) ?_
        refine kc_i (va_runV (As := [.int 2]) (rest := []) ⟨hx, hb, hml, hown, htT⟩ (m_no l D cA _ am r (mS M 0 0) 2) (cwV 1 htT (kg_V m_ml_X6_95 m_im_X6_no m_sl_X6_no m_in_X6 m_cd_X6_no) rfl rfl rfl (by decide +kernel) ⟨Nat.le_of_ble_eq_true rfl, Nat.le_of_ble_eq_true rfl⟩) (kp_V hK hP hD hTB (km_rc hK hP)) rfl rfl hl.1 rfl (lv_room (Nat.le_of_ble_eq_true rfl)) dX6_reach_43 ⟨Nat.le_of_ble_eq_true rfl, Nat.le_of_ble_eq_true rfl⟩) hD hS hA (fun r_9 x_9 H locs hq_9 hP hD hS => ?_)
        rw [hq_9.1]
        rw [hq_9.2] at hP hD
        exact W.iret (v := 0) hx hb hr (fun t ht hW => ⟨⟨0, mS (mS M 0 0) 0 2, rfl, ⟨(INVR.iS (INVR.iS hI (by decide) (by decide)) (by decide) (by decide)), ((eqM.rf).s0).s0⟩, by rw [ht]; exact hP, va_K.moved hW.alike hK, hD⟩, hS.F ht⟩) hS.2.2 dX6_reach_46
      · rw [hq_7.1.trans hn_7]
        have hk_7 := hn_7
        obtain ⟨mm, hlmm, hmm, rfl⟩ := kIn_nat 1 200 (by omega) (by omega) hk_7
        refine lv_if_eq (tgt := 41) hx hb dX6_reach_28 (by decide) (fun c_10 => absurd c_10 (by decide)) (fun _ => ?_)
        refine lv_aload_n hx hb dX6_reach_31 rfl (lv_at hl 0 rfl) ?_
        refine lv_iload_n hx hb dX6_reach_32 rfl (lv_at hl 1 rfl) ?_
        refine lv_iload_n hx hb dX6_reach_33 rfl (lv_at hl 2 rfl) ?_
        refine lv_iload_n hx hb dX6_reach_34 rfl (lv_at hl 3 rfl) ?_
        refine kc_i (va_runV (As := [.int (nI i), .int (nI v_1), .int (nI mm)]) (rest := []) ⟨hx, hb, hml, hown, htT⟩ (m_reachNow l D cA _ am r (mS M 0 0) n na ru hok i hi (nI v_1) mm hmm) (cwV 3 htT (kg_V m_ml_X6_206 m_im_X6_reachNow m_sl_X6_reachNow m_in_X6 m_cd_X6_reachNow) rfl rfl rfl (by decide +kernel) ⟨Nat.le_of_ble_eq_true rfl, Nat.le_of_ble_eq_true rfl⟩) (kp_V hK hP hD hTB (km_rc hK hP)) rfl rfl hl.1 rfl (lv_room (Nat.le_of_ble_eq_true rfl)) dX6_reach_35 ⟨Nat.le_of_ble_eq_true rfl, Nat.le_of_ble_eq_true rfl⟩) hD hS hA (fun r_11 x_11 H locs hq_11 hP hD hS => ?_)
        obtain ⟨ρ_11, eρ_11⟩ := hq_11.2
        rw [eρ_11] at hP hD
        refine lv_goto (tgt := 46) hx hb dX6_reach_38 (by decide) ?_
        exact W.iret (v := r_11) hx hb hr (fun t ht hW => ⟨⟨r_11, mS (mS M 0 0) 28 ρ_11, rfl, ⟨(INVR.iS (INVR.iS hI (by decide) (by decide)) (by decide) (by decide)), ((eqM.rf).s0).s28⟩, by rw [ht]; exact hP, va_K.moved hW.alike hK, hD⟩, hS.F ht⟩) hS.2.2 dX6_reach_46

set_option maxRecDepth 100000 in
set_option maxHeartbeats 4000000 in
theorem t_both (l : Launch) (D : va_G) (cA : Nat → ClassId) (sz : Nat) (am : Nat) (r : Nat → Nat) (M : MSt) (n na : Nat) (hI : INVR n na M) (p0 p1 p2 : Int32) : Met l yX6_both (Cond.code yX6_both cX6_both 6 (some .int) :: TT) ({ frames := 20, cells := 0, slots := 0, locals := 1008 }) (va_Pc [.ref am, .int p0, .int p1, .int p2] (kPre D cA (wM cA am r M) sz)) (va_Qi (fun (r_ : Int32) (x_ : MSt) => INVR n na x_ ∧ eqM M x_) (fun x_ => kB D cA (va_A (wM cA am r M) sz) (wM cA am r x_)) (va_A (wM cA am r M) sz)) 0 0 (va_A (wM cA am r M) sz) := by
  refine Met.ofW (cc := cX6_both) (maxL := 6) (ret := (some .int)) (by decide) rfl ?_
  intro p e s m args below meth c s₁ B hml hv
  obtain ⟨rfl, hsz, hP, hK, hD0, hTB⟩ := hv
  have hx := B.exec
  have hb := B.bytes
  have hr := B.returns
  have hts := atoms_spec (ws := Cond.code yX6_both cX6_both 6 (some .int) :: TT) B.pre
  have htT : ∀ w ∈ TT, w.before _ s = true := fun w h => hts w (List.mem_cons_of_mem _ h)
  have hown : s.vm.findClass RX6 = some m.cls := findClass_of_methodNamed B.named
  have hlocks := B.notSynchronized
  subst hsz
  have hD := hD0.self (sz := s.heap.size)
  generalize hAe : va_A (wM cA am r M) s.heap.size = A at hD ⊢
  have hA : ∀ q : Nat, s.heap.size ≤ q → A q := fun q h => by rw [← hAe]; exact Or.inr h
  have hS : va_S A s.heap s.heap [] := va_S.rf
  have hl := lv_entry ([.ref am, .int p0, .int p1, .int p2]) (n := 6) (Nat.le_of_ble_eq_true rfl)
  rw [lg_entry_eq]
  generalize (lg_sl ([.ref am, .int p0, .int p1, .int p2]) ++ List.replicate (6 - (lg_sl ([.ref am, .int p0, .int p1, .int p2])).length) Slot.unset).toArray = ls at hl ⊢
  have hl : lv_has ls 6 [(0, .ref am), (1, .int p0), (2, .int p1), (3, .int p2)] := hl
  have hn8 := hI.n8
  have hna9 := hI.na
  obtain ⟨ru, hok⟩ := id hI.1
  refine lv_aload_n hx hb dX6_both_0 rfl (lv_at hl 0 rfl) ?_
  refine lv_iconst (v := 0) hx hb dX6_both_1 (by decide) ?_
  refine km_puti hx hb htT hown hK hP hD hS 0 (by decide) rfl (htT _ m_fl_X6_80) rfl (by decide +kernel) dX6_both_2 (fun H locs hP hD hS => ?_)
  refine lv_aload_n hx hb dX6_both_5 rfl (lv_at hl 0 rfl) ?_
  refine lv_iload_n hx hb dX6_both_6 rfl (lv_at hl 1 rfl) ?_
  have h3_1 : M.1 3 = nI n := hI.h3
  refine kc_i (va_runV (As := [.int p0]) (rest := []) ⟨hx, hb, hml, hown, htT⟩ (m_isSwitch l D cA _ am r (mS M 0 0) p0) (cwV 1 htT (kg_V m_ml_X6_91 m_im_X6_isSwitch m_sl_X6_isSwitch m_in_X6 m_cd_X6_isSwitch) rfl rfl rfl (by decide +kernel) ⟨Nat.le_of_ble_eq_true rfl, Nat.le_of_ble_eq_true rfl⟩) (kp_V hK hP hD hTB (km_rc hK hP)) rfl rfl hl.1 rfl (lv_room (Nat.le_of_ble_eq_true rfl)) dX6_both_7 ⟨Nat.le_of_ble_eq_true rfl, Nat.le_of_ble_eq_true rfl⟩) hD hS hA (fun r_1 x_1 H locs hq_1 hP hD hS => ?_)
  rw [hq_1.2] at hP hD
  rcases kIn_swx (p := p0) hI.n8 h3_1 with hsw | ⟨i, hi, rfl⟩
  · rw [hq_1.1.trans hsw]
    refine lv_if_eq (tgt := 21) hx hb dX6_both_10 (by decide) (fun _ => ?_) (fun c_2 => absurd c_2 (by decide))
    refine lv_aload_n hx hb dX6_both_21 rfl (lv_at hl 0 rfl) ?_
    refine lv_iconst (v := 1) hx hb dX6_both_22 (by decide) ?_
    refine kc_i (va_runV (As := [.int 1]) (rest := []) ⟨hx, hb, hml, hown, htT⟩ (m_no l D cA _ am r (mS M 0 0) 1) (cwV 1 htT (kg_V m_ml_X6_95 m_im_X6_no m_sl_X6_no m_in_X6 m_cd_X6_no) rfl rfl rfl (by decide +kernel) ⟨Nat.le_of_ble_eq_true rfl, Nat.le_of_ble_eq_true rfl⟩) (kp_V hK hP hD hTB (km_rc hK hP)) rfl rfl hl.1 rfl (lv_room (Nat.le_of_ble_eq_true rfl)) dX6_both_23 ⟨Nat.le_of_ble_eq_true rfl, Nat.le_of_ble_eq_true rfl⟩) hD hS hA (fun r_3 x_3 H locs hq_3 hP hD hS => ?_)
    rw [hq_3.1]
    rw [hq_3.2] at hP hD
    exact W.iret (v := 0) hx hb hr (fun t ht hW => ⟨⟨0, mS (mS M 0 0) 0 1, rfl, ⟨(INVR.iS (INVR.iS hI (by decide) (by decide)) (by decide) (by decide)), ((eqM.rf).s0).s0⟩, by rw [ht]; exact hP, va_K.moved hW.alike hK, hD⟩, hS.F ht⟩) hS.2.2 dX6_both_26
  · rw [hq_1.1.trans (kIn_sw hi hI.n8 h3_1)]
    refine lv_if_eq (tgt := 21) hx hb dX6_both_10 (by decide) (fun c_4 => absurd c_4 (by decide)) (fun _ => ?_)
    refine lv_aload_n hx hb dX6_both_13 rfl (lv_at hl 0 rfl) ?_
    refine lv_iload_n hx hb dX6_both_14 rfl (lv_at hl 2 rfl) ?_
    have h3_5 : M.1 3 = nI n := hI.h3
    refine kc_i (va_runV (As := [.int p1]) (rest := []) ⟨hx, hb, hml, hown, htT⟩ (m_isSwitch l D cA _ am r (mS M 0 0) p1) (cwV 1 htT (kg_V m_ml_X6_91 m_im_X6_isSwitch m_sl_X6_isSwitch m_in_X6 m_cd_X6_isSwitch) rfl rfl rfl (by decide +kernel) ⟨Nat.le_of_ble_eq_true rfl, Nat.le_of_ble_eq_true rfl⟩) (kp_V hK hP hD hTB (km_rc hK hP)) rfl rfl hl.1 rfl (lv_room (Nat.le_of_ble_eq_true rfl)) dX6_both_15 ⟨Nat.le_of_ble_eq_true rfl, Nat.le_of_ble_eq_true rfl⟩) hD hS hA (fun r_5 x_5 H locs hq_5 hP hD hS => ?_)
    rw [hq_5.2] at hP hD
    rcases kIn_swx (p := p1) hI.n8 h3_5 with hsw | ⟨i2, hi2, rfl⟩
    · rw [hq_5.1.trans hsw]
      refine lv_if_ne (tgt := 27) hx hb dX6_both_18 (by decide) (fun c_6 => absurd c_6 (by decide)) (fun _ => ?_)
      refine lv_aload_n hx hb dX6_both_21 rfl (lv_at hl 0 rfl) ?_
      refine lv_iconst (v := 1) hx hb dX6_both_22 (by decide) ?_
      refine kc_i (va_runV (As := [.int 1]) (rest := []) ⟨hx, hb, hml, hown, htT⟩ (m_no l D cA _ am r (mS M 0 0) 1) (cwV 1 htT (kg_V m_ml_X6_95 m_im_X6_no m_sl_X6_no m_in_X6 m_cd_X6_no) rfl rfl rfl (by decide +kernel) ⟨Nat.le_of_ble_eq_true rfl, Nat.le_of_ble_eq_true rfl⟩) (kp_V hK hP hD hTB (km_rc hK hP)) rfl rfl hl.1 rfl (lv_room (Nat.le_of_ble_eq_true rfl)) dX6_both_23 ⟨Nat.le_of_ble_eq_true rfl, Nat.le_of_ble_eq_true rfl⟩) hD hS hA (fun r_7 x_7 H locs hq_7 hP hD hS => ?_)
      rw [hq_7.1]
      rw [hq_7.2] at hP hD
      exact W.iret (v := 0) hx hb hr (fun t ht hW => ⟨⟨0, mS (mS M 0 0) 0 1, rfl, ⟨(INVR.iS (INVR.iS hI (by decide) (by decide)) (by decide) (by decide)), ((eqM.rf).s0).s0⟩, by rw [ht]; exact hP, va_K.moved hW.alike hK, hD⟩, hS.F ht⟩) hS.2.2 dX6_both_26
    · rw [hq_5.1.trans (kIn_sw hi2 hI.n8 h3_5)]
      refine lv_if_ne (tgt := 27) hx hb dX6_both_18 (by decide) (fun _ => ?_) (fun c_8 => absurd c_8 (by decide))
      refine lv_iload_n hx hb dX6_both_27 rfl (lv_at hl 3 rfl) ?_
      refine lv_iconst (v := 1) hx hb dX6_both_28 (by decide) ?_
      refine lv_sipush (v := 200) hx hb dX6_both_29 (by decide) ?_
      refine kc_i (va_runS (As := [.int p2, .int 1, .int 200]) (rest := []) ⟨hx, hb, hml, hown, htT⟩ (m_isIn l D cA _ am r (mS M 0 0) p2 1 200) (cwS 3 htT (kg_S m_ml_X6_87 m_st_X6_isIn m_in_X6 m_cd_X6_isIn) rfl rfl rfl (by decide +kernel) ⟨Nat.le_of_ble_eq_true rfl, Nat.le_of_ble_eq_true rfl⟩) (kp_S hK hP hD hTB) rfl rfl hl.1 rfl (lv_room (Nat.le_of_ble_eq_true rfl)) dX6_both_32 ⟨Nat.le_of_ble_eq_true rfl, Nat.le_of_ble_eq_true rfl⟩) hD hS hA (fun r_9 x_9 H locs hq_9 hP hD hS => ?_)
      rw [hq_9.2] at hP hD
      rcases kIn_01 p2 1 200 with hn_9 | hn_9
      · rw [hq_9.1.trans hn_9]
        refine lv_if_ne (tgt := 44) hx hb dX6_both_35 (by decide) (fun c_10 => absurd c_10 (by decide)) (fun _ => ?_)
        refine lv_aload_n hx hb dX6_both_38 rfl (lv_at hl 0 rfl) ?_
        refine lv_iconst (v := 2) hx hb dX6_both_39 (by decide) ?_
        refine kc_i (va_runV (As := [.int 2]) (rest := []) ⟨hx, hb, hml, hown, htT⟩ (m_no l D cA _ am r (mS M 0 0) 2) (cwV 1 htT (kg_V m_ml_X6_95 m_im_X6_no m_sl_X6_no m_in_X6 m_cd_X6_no) rfl rfl rfl (by decide +kernel) ⟨Nat.le_of_ble_eq_true rfl, Nat.le_of_ble_eq_true rfl⟩) (kp_V hK hP hD hTB (km_rc hK hP)) rfl rfl hl.1 rfl (lv_room (Nat.le_of_ble_eq_true rfl)) dX6_both_40 ⟨Nat.le_of_ble_eq_true rfl, Nat.le_of_ble_eq_true rfl⟩) hD hS hA (fun r_11 x_11 H locs hq_11 hP hD hS => ?_)
        rw [hq_11.1]
        rw [hq_11.2] at hP hD
        exact W.iret (v := 0) hx hb hr (fun t ht hW => ⟨⟨0, mS (mS M 0 0) 0 2, rfl, ⟨(INVR.iS (INVR.iS hI (by decide) (by decide)) (by decide) (by decide)), ((eqM.rf).s0).s0⟩, by rw [ht]; exact hP, va_K.moved hW.alike hK, hD⟩, hS.F ht⟩) hS.2.2 dX6_both_43
      · rw [hq_9.1.trans hn_9]
        have hk_9 := hn_9
        obtain ⟨mm, hlmm, hmm, rfl⟩ := kIn_nat 1 200 (by omega) (by omega) hk_9
        refine lv_if_ne (tgt := 44) hx hb dX6_both_35 (by decide) (fun _ => ?_) (fun c_12 => absurd c_12 (by decide))
        refine lv_iconst (v := 0) hx hb dX6_both_44 (by decide) ?_
        refine lv_istore (lv' := [(4, .int 0), (0, .ref am), (1, .int (nI i)), (2, .int (nI i2)), (3, .int (nI mm))]) hx hb dX6_both_45 hl (by decide) rfl (fun ls hl => ?_)
        refine lv_iconst (v := 0) hx hb dX6_both_47 (by decide) ?_
        refine lv_istore (lv' := [(5, .int 0), (4, .int 0), (0, .ref am), (1, .int (nI i)), (2, .int (nI i2)), (3, .int (nI mm))]) hx hb dX6_both_48 hl (by decide) rfl (fun ls hl => ?_)
        have hP : va_P D vwCl (wM cA am r (mS (mS M 0 0) 28 (M.1 28))) H := by rw [show mS (mS M 0 0) 28 (M.1 28) = mS M 0 0 from mS_id (M := mS M 0 0) (k := 28)]; exact hP
        have hD : va_D A (wM cA am r (mS (mS M 0 0) 28 (M.1 28))) := by rw [show mS (mS M 0 0) 28 (M.1 28) = mS M 0 0 from mS_id (M := mS M 0 0) (k := 28)]; exact hD
        refine kz_loop 50 (fun N9 H locs ls => ∃ (j : Nat) (acc : Int32) (ρ : Int32), N9 = mm - j ∧ j ≤ mm ∧ va_P D vwCl (wM cA am r (mS (mS M 0 0) 28 ρ)) H ∧ va_D A (wM cA am r (mS (mS M 0 0) 28 ρ)) ∧ va_S A s.heap H locs ∧ lv_has ls 6 [(5, .int (nI j)), (4, .int acc), (3, .int (nI mm)), (2, .int (nI i2)), (1, .int (nI i)), (0, .ref am)]) (fun N9 ih_50 H locs ls hI => ?_) ⟨0, 0, (M.1 28), rfl, by omega, hP, hD, hS, lv_sub hl [0, 1, 5, 4, 3, 2] rfl⟩
        obtain ⟨j, acc, ρ, hn9, hj, hP, hD, hS, hl⟩ := hI
        refine lv_iload hx hb dX6_both_50 (lv_at hl 0 rfl) ?_
        refine lv_iload_n hx hb dX6_both_52 rfl (lv_at hl 2 rfl) ?_
        refine lv_icmp_ge (tgt := 92) hx hb dX6_both_53 (by decide) (fun c_13 => ?_) (fun c_13 => ?_)
        · replace c_13 := (nI_leI (a := mm) (b := j) (by omega) (by omega)).mp c_13
          refine lv_iload hx hb dX6_both_92 (lv_at hl 1 rfl) ?_
          exact W.iret (v := acc) hx hb hr (fun t ht hW => ⟨⟨acc, mS (mS M 0 0) 28 ρ, rfl, ⟨(INVR.iS (INVR.iS hI (by decide) (by decide)) (by decide) (by decide)), ((eqM.rf).s0).s28⟩, by rw [ht]; exact hP, va_K.moved hW.alike hK, hD⟩, hS.F ht⟩) hS.2.2 dX6_both_94
        · replace c_13 : ¬ (mm ≤ j) := fun h9 => c_13 ((nI_leI (a := mm) (b := j) (by omega) (by omega)).mpr h9)
          refine lv_iload hx hb dX6_both_56 (lv_at hl 1 rfl) ?_
          refine lv_aload_n hx hb dX6_both_58 rfl (lv_at hl 5 rfl) ?_
          refine lv_iload_n hx hb dX6_both_59 rfl (lv_at hl 4 rfl) ?_
          refine lv_iload hx hb dX6_both_60 (lv_at hl 0 rfl) ?_
          refine kc_i (va_runV (As := [.int (nI i), .int (nI j)]) (rest := [.int acc]) ⟨hx, hb, hml, hown, htT⟩ (m_isSplit l D cA _ am r (mS (mS M 0 0) 28 ρ) n na ru hok i hi j (by omega)) (cwV 2 htT (kg_V m_ml_X6_209 m_im_X6_isSplit m_sl_X6_isSplit m_in_X6 m_cd_X6_isSplit) rfl rfl rfl (by decide +kernel) ⟨Nat.le_of_ble_eq_true rfl, Nat.le_of_ble_eq_true rfl⟩) (kp_V hK hP hD hTB (km_rc hK hP)) rfl rfl hl.1 rfl (lv_room (Nat.le_of_ble_eq_true rfl)) dX6_both_62 ⟨Nat.le_of_ble_eq_true rfl, Nat.le_of_ble_eq_true rfl⟩) hD hS hA (fun r_14 x_14 H locs hq_14 hP hD hS => ?_)
          obtain ⟨ρ_14, eρ_14⟩ : ∃ ρ, x_14 = mS (mS M 0 0) 28 ρ := ⟨_, hq_14.2.trans mS_s⟩
          rw [eρ_14] at hP hD
          refine lv_if_eq (tgt := 82) hx hb dX6_both_65 (by decide) (fun c_15 => ?_) (fun c_15 => ?_)
          · refine lv_iconst (v := 0) hx hb dX6_both_82 (by decide) ?_
            refine lv_iadd hx hb dX6_both_83 ?_
            refine lv_istore (lv' := [(4, .int (acc + 0)), (5, .int (nI j)), (3, .int (nI mm)), (2, .int (nI i2)), (1, .int (nI i)), (0, .ref am)]) hx hb dX6_both_84 hl (by decide) rfl (fun ls hl => ?_)
            refine lv_iinc (v := nI (j + 1)) (lv' := [(5, .int (nI (j + 1))), (4, .int (acc + 0)), (3, .int (nI mm)), (2, .int (nI i2)), (1, .int (nI i)), (0, .ref am)]) hx hb dX6_both_86 hl (k := 1) rfl (nI_1 _) (by decide) rfl (fun ls hl => ?_)
            refine lv_goto (tgt := 50) hx hb dX6_both_89 (by decide) ?_
            have hl := lv_sub hl [0, 1, 2, 3, 4, 5] rfl
            exact ih_50 _ (by omega) H locs ls ⟨j + 1, _, ρ_14, rfl, by omega, hP, hD, hS, hl⟩
          · refine lv_aload_n hx hb dX6_both_68 rfl (lv_at hl 5 rfl) ?_
            refine lv_iload_n hx hb dX6_both_69 rfl (lv_at hl 3 rfl) ?_
            refine lv_iload hx hb dX6_both_70 (lv_at hl 0 rfl) ?_
            refine kc_i (va_runV (As := [.int (nI i2), .int (nI j)]) (rest := [.int acc]) ⟨hx, hb, hml, hown, htT⟩ (m_isSplit l D cA _ am r (mS (mS M 0 0) 28 ρ_14) n na ru hok i2 hi2 j (by omega)) (cwV 2 htT (kg_V m_ml_X6_209 m_im_X6_isSplit m_sl_X6_isSplit m_in_X6 m_cd_X6_isSplit) rfl rfl rfl (by decide +kernel) ⟨Nat.le_of_ble_eq_true rfl, Nat.le_of_ble_eq_true rfl⟩) (kp_V hK hP hD hTB (km_rc hK hP)) rfl rfl hl.1 rfl (lv_room (Nat.le_of_ble_eq_true rfl)) dX6_both_72 ⟨Nat.le_of_ble_eq_true rfl, Nat.le_of_ble_eq_true rfl⟩) hD hS hA (fun r_16 x_16 H locs hq_16 hP hD hS => ?_)
            obtain ⟨ρ_16, eρ_16⟩ : ∃ ρ, x_16 = mS (mS M 0 0) 28 ρ := ⟨_, hq_16.2.trans mS_s⟩
            rw [eρ_16] at hP hD
            refine lv_if_eq (tgt := 82) hx hb dX6_both_75 (by decide) (fun c_17 => ?_) (fun c_17 => ?_)
            · refine lv_iconst (v := 0) hx hb dX6_both_82 (by decide) ?_
              refine lv_iadd hx hb dX6_both_83 ?_
              refine lv_istore (lv' := [(4, .int (acc + 0)), (5, .int (nI j)), (3, .int (nI mm)), (2, .int (nI i2)), (1, .int (nI i)), (0, .ref am)]) hx hb dX6_both_84 hl (by decide) rfl (fun ls hl => ?_)
              refine lv_iinc (v := nI (j + 1)) (lv' := [(5, .int (nI (j + 1))), (4, .int (acc + 0)), (3, .int (nI mm)), (2, .int (nI i2)), (1, .int (nI i)), (0, .ref am)]) hx hb dX6_both_86 hl (k := 1) rfl (nI_1 _) (by decide) rfl (fun ls hl => ?_)
              refine lv_goto (tgt := 50) hx hb dX6_both_89 (by decide) ?_
              have hl := lv_sub hl [0, 1, 2, 3, 4, 5] rfl
              exact ih_50 _ (by omega) H locs ls ⟨j + 1, _, ρ_16, rfl, by omega, hP, hD, hS, hl⟩
            · refine lv_iconst (v := 1) hx hb dX6_both_78 (by decide) ?_
              refine lv_goto (tgt := 83) hx hb dX6_both_79 (by decide) ?_
              refine lv_iadd hx hb dX6_both_83 ?_
              refine lv_istore (lv' := [(4, .int (acc + 1)), (5, .int (nI j)), (3, .int (nI mm)), (2, .int (nI i2)), (1, .int (nI i)), (0, .ref am)]) hx hb dX6_both_84 hl (by decide) rfl (fun ls hl => ?_)
              refine lv_iinc (v := nI (j + 1)) (lv' := [(5, .int (nI (j + 1))), (4, .int (acc + 1)), (3, .int (nI mm)), (2, .int (nI i2)), (1, .int (nI i)), (0, .ref am)]) hx hb dX6_both_86 hl (k := 1) rfl (nI_1 _) (by decide) rfl (fun ls hl => ?_)
              refine lv_goto (tgt := 50) hx hb dX6_both_89 (by decide) ?_
              have hl := lv_sub hl [0, 1, 2, 3, 4, 5] rfl
              exact ih_50 _ (by omega) H locs ls ⟨j + 1, _, ρ_16, rfl, by omega, hP, hD, hS, hl⟩

set_option maxRecDepth 100000 in
set_option maxHeartbeats 4000000 in
theorem t_wouldChange (l : Launch) (D : va_G) (cA : Nat → ClassId) (sz : Nat) (am : Nat) (r : Nat → Nat) (M : MSt) (n na : Nat) (hI : INVR n na M) (p0 p1 p2 : Int32) : Met l yX6_wouldChange (Cond.code yX6_wouldChange cX6_wouldChange 6 (some .int) :: TT) ({ frames := 19, cells := 0, slots := 0, locals := 986 }) (va_Pc [.ref am, .int p0, .int p1, .int p2] (kPre D cA (wM cA am r M) sz)) (va_Qi (fun (r_ : Int32) (x_ : MSt) => INVR n na x_ ∧ eqM M x_) (fun x_ => kB D cA (va_A (wM cA am r M) sz) (wM cA am r x_)) (va_A (wM cA am r M) sz)) 0 0 (va_A (wM cA am r M) sz) := by
  refine Met.ofW (cc := cX6_wouldChange) (maxL := 6) (ret := (some .int)) (by decide) rfl ?_
  intro p e s m args below meth c s₁ B hml hv
  obtain ⟨rfl, hsz, hP, hK, hD0, hTB⟩ := hv
  have hx := B.exec
  have hb := B.bytes
  have hr := B.returns
  have hts := atoms_spec (ws := Cond.code yX6_wouldChange cX6_wouldChange 6 (some .int) :: TT) B.pre
  have htT : ∀ w ∈ TT, w.before _ s = true := fun w h => hts w (List.mem_cons_of_mem _ h)
  have hown : s.vm.findClass RX6 = some m.cls := findClass_of_methodNamed B.named
  have hlocks := B.notSynchronized
  subst hsz
  have hD := hD0.self (sz := s.heap.size)
  generalize hAe : va_A (wM cA am r M) s.heap.size = A at hD ⊢
  have hA : ∀ q : Nat, s.heap.size ≤ q → A q := fun q h => by rw [← hAe]; exact Or.inr h
  have hS : va_S A s.heap s.heap [] := va_S.rf
  have hl := lv_entry ([.ref am, .int p0, .int p1, .int p2]) (n := 6) (Nat.le_of_ble_eq_true rfl)
  rw [lg_entry_eq]
  generalize (lg_sl ([.ref am, .int p0, .int p1, .int p2]) ++ List.replicate (6 - (lg_sl ([.ref am, .int p0, .int p1, .int p2])).length) Slot.unset).toArray = ls at hl ⊢
  have hl : lv_has ls 6 [(0, .ref am), (1, .int p0), (2, .int p1), (3, .int p2)] := hl
  have hn8 := hI.n8
  have hna9 := hI.na
  obtain ⟨ru, hok⟩ := id hI.1
  refine lv_aload_n hx hb dX6_wouldChange_0 rfl (lv_at hl 0 rfl) ?_
  refine lv_iconst (v := 0) hx hb dX6_wouldChange_1 (by decide) ?_
  refine km_puti hx hb htT hown hK hP hD hS 0 (by decide) rfl (htT _ m_fl_X6_80) rfl (by decide +kernel) dX6_wouldChange_2 (fun H locs hP hD hS => ?_)
  refine lv_aload_n hx hb dX6_wouldChange_5 rfl (lv_at hl 0 rfl) ?_
  refine lv_iload_n hx hb dX6_wouldChange_6 rfl (lv_at hl 1 rfl) ?_
  have h3_1 : M.1 3 = nI n := hI.h3
  refine kc_i (va_runV (As := [.int p0]) (rest := []) ⟨hx, hb, hml, hown, htT⟩ (m_isSwitch l D cA _ am r (mS M 0 0) p0) (cwV 1 htT (kg_V m_ml_X6_91 m_im_X6_isSwitch m_sl_X6_isSwitch m_in_X6 m_cd_X6_isSwitch) rfl rfl rfl (by decide +kernel) ⟨Nat.le_of_ble_eq_true rfl, Nat.le_of_ble_eq_true rfl⟩) (kp_V hK hP hD hTB (km_rc hK hP)) rfl rfl hl.1 rfl (lv_room (Nat.le_of_ble_eq_true rfl)) dX6_wouldChange_7 ⟨Nat.le_of_ble_eq_true rfl, Nat.le_of_ble_eq_true rfl⟩) hD hS hA (fun r_1 x_1 H locs hq_1 hP hD hS => ?_)
  rw [hq_1.2] at hP hD
  rcases kIn_swx (p := p0) hI.n8 h3_1 with hsw | ⟨i, hi, rfl⟩
  · rw [hq_1.1.trans hsw]
    refine lv_if_ne (tgt := 19) hx hb dX6_wouldChange_10 (by decide) (fun c_2 => absurd c_2 (by decide)) (fun _ => ?_)
    refine lv_aload_n hx hb dX6_wouldChange_13 rfl (lv_at hl 0 rfl) ?_
    refine lv_iconst (v := 1) hx hb dX6_wouldChange_14 (by decide) ?_
    refine kc_i (va_runV (As := [.int 1]) (rest := []) ⟨hx, hb, hml, hown, htT⟩ (m_no l D cA _ am r (mS M 0 0) 1) (cwV 1 htT (kg_V m_ml_X6_95 m_im_X6_no m_sl_X6_no m_in_X6 m_cd_X6_no) rfl rfl rfl (by decide +kernel) ⟨Nat.le_of_ble_eq_true rfl, Nat.le_of_ble_eq_true rfl⟩) (kp_V hK hP hD hTB (km_rc hK hP)) rfl rfl hl.1 rfl (lv_room (Nat.le_of_ble_eq_true rfl)) dX6_wouldChange_15 ⟨Nat.le_of_ble_eq_true rfl, Nat.le_of_ble_eq_true rfl⟩) hD hS hA (fun r_3 x_3 H locs hq_3 hP hD hS => ?_)
    rw [hq_3.1]
    rw [hq_3.2] at hP hD
    exact W.iret (v := 0) hx hb hr (fun t ht hW => ⟨⟨0, mS (mS M 0 0) 0 1, rfl, ⟨(INVR.iS (INVR.iS hI (by decide) (by decide)) (by decide) (by decide)), ((eqM.rf).s0).s0⟩, by rw [ht]; exact hP, va_K.moved hW.alike hK, hD⟩, hS.F ht⟩) hS.2.2 dX6_wouldChange_18
  · rw [hq_1.1.trans (kIn_sw hi hI.n8 h3_1)]
    refine lv_if_ne (tgt := 19) hx hb dX6_wouldChange_10 (by decide) (fun _ => ?_) (fun c_4 => absurd c_4 (by decide))
    refine lv_iload_n hx hb dX6_wouldChange_19 rfl (lv_at hl 2 rfl) ?_
    refine lv_iconst (v := 0) hx hb dX6_wouldChange_20 (by decide) ?_
    refine lv_sipush (v := 1000) hx hb dX6_wouldChange_21 (by decide) ?_
    refine kc_i (va_runS (As := [.int p1, .int 0, .int 1000]) (rest := []) ⟨hx, hb, hml, hown, htT⟩ (m_isIn l D cA _ am r (mS M 0 0) p1 0 1000) (cwS 3 htT (kg_S m_ml_X6_87 m_st_X6_isIn m_in_X6 m_cd_X6_isIn) rfl rfl rfl (by decide +kernel) ⟨Nat.le_of_ble_eq_true rfl, Nat.le_of_ble_eq_true rfl⟩) (kp_S hK hP hD hTB) rfl rfl hl.1 rfl (lv_room (Nat.le_of_ble_eq_true rfl)) dX6_wouldChange_24 ⟨Nat.le_of_ble_eq_true rfl, Nat.le_of_ble_eq_true rfl⟩) hD hS hA (fun r_5 x_5 H locs hq_5 hP hD hS => ?_)
    rw [hq_5.2] at hP hD
    rcases kIn_01 p1 0 1000 with hn_5 | hn_5
    · rw [hq_5.1.trans hn_5]
      refine lv_if_eq (tgt := 41) hx hb dX6_wouldChange_27 (by decide) (fun _ => ?_) (fun c_6 => absurd c_6 (by decide))
      refine lv_aload_n hx hb dX6_wouldChange_41 rfl (lv_at hl 0 rfl) ?_
      refine lv_iconst (v := 2) hx hb dX6_wouldChange_42 (by decide) ?_
      refine kc_i (va_runV (As := [.int 2]) (rest := []) ⟨hx, hb, hml, hown, htT⟩ (m_no l D cA _ am r (mS M 0 0) 2) (cwV 1 htT (kg_V m_ml_X6_95 m_im_X6_no m_sl_X6_no m_in_X6 m_cd_X6_no) rfl rfl rfl (by decide +kernel) ⟨Nat.le_of_ble_eq_true rfl, Nat.le_of_ble_eq_true rfl⟩) (kp_V hK hP hD hTB (km_rc hK hP)) rfl rfl hl.1 rfl (lv_room (Nat.le_of_ble_eq_true rfl)) dX6_wouldChange_43 ⟨Nat.le_of_ble_eq_true rfl, Nat.le_of_ble_eq_true rfl⟩) hD hS hA (fun r_7 x_7 H locs hq_7 hP hD hS => ?_)
      rw [hq_7.1]
      rw [hq_7.2] at hP hD
      exact W.iret (v := 0) hx hb hr (fun t ht hW => ⟨⟨0, mS (mS M 0 0) 0 2, rfl, ⟨(INVR.iS (INVR.iS hI (by decide) (by decide)) (by decide) (by decide)), ((eqM.rf).s0).s0⟩, by rw [ht]; exact hP, va_K.moved hW.alike hK, hD⟩, hS.F ht⟩) hS.2.2 dX6_wouldChange_46
    · rw [hq_5.1.trans hn_5]
      refine lv_if_eq (tgt := 41) hx hb dX6_wouldChange_27 (by decide) (fun c_8 => absurd c_8 (by decide)) (fun _ => ?_)
      refine lv_iload_n hx hb dX6_wouldChange_30 rfl (lv_at hl 3 rfl) ?_
      refine lv_iconst (v := 1) hx hb dX6_wouldChange_31 (by decide) ?_
      refine lv_sipush (v := 200) hx hb dX6_wouldChange_32 (by decide) ?_
      refine kc_i (va_runS (As := [.int p2, .int 1, .int 200]) (rest := []) ⟨hx, hb, hml, hown, htT⟩ (m_isIn l D cA _ am r (mS M 0 0) p2 1 200) (cwS 3 htT (kg_S m_ml_X6_87 m_st_X6_isIn m_in_X6 m_cd_X6_isIn) rfl rfl rfl (by decide +kernel) ⟨Nat.le_of_ble_eq_true rfl, Nat.le_of_ble_eq_true rfl⟩) (kp_S hK hP hD hTB) rfl rfl hl.1 rfl (lv_room (Nat.le_of_ble_eq_true rfl)) dX6_wouldChange_35 ⟨Nat.le_of_ble_eq_true rfl, Nat.le_of_ble_eq_true rfl⟩) hD hS hA (fun r_9 x_9 H locs hq_9 hP hD hS => ?_)
      rw [hq_9.2] at hP hD
      rcases kIn_01 p2 1 200 with hn_9 | hn_9
      · rw [hq_9.1.trans hn_9]
        refine lv_if_ne (tgt := 47) hx hb dX6_wouldChange_38 (by decide) (fun c_10 => absurd c_10 (by decide)) (fun _ => ?_)
        refine lv_aload_n hx hb dX6_wouldChange_41 rfl (lv_at hl 0 rfl) ?_
        refine lv_iconst (v := 2) hx hb dX6_wouldChange_42 (by decide) ?_
        refine kc_i (va_runV (As := [.int 2]) (rest := []) ⟨hx, hb, hml, hown, htT⟩ (m_no l D cA _ am r (mS M 0 0) 2) (cwV 1 htT (kg_V m_ml_X6_95 m_im_X6_no m_sl_X6_no m_in_X6 m_cd_X6_no) rfl rfl rfl (by decide +kernel) ⟨Nat.le_of_ble_eq_true rfl, Nat.le_of_ble_eq_true rfl⟩) (kp_V hK hP hD hTB (km_rc hK hP)) rfl rfl hl.1 rfl (lv_room (Nat.le_of_ble_eq_true rfl)) dX6_wouldChange_43 ⟨Nat.le_of_ble_eq_true rfl, Nat.le_of_ble_eq_true rfl⟩) hD hS hA (fun r_11 x_11 H locs hq_11 hP hD hS => ?_)
        rw [hq_11.1]
        rw [hq_11.2] at hP hD
        exact W.iret (v := 0) hx hb hr (fun t ht hW => ⟨⟨0, mS (mS M 0 0) 0 2, rfl, ⟨(INVR.iS (INVR.iS hI (by decide) (by decide)) (by decide) (by decide)), ((eqM.rf).s0).s0⟩, by rw [ht]; exact hP, va_K.moved hW.alike hK, hD⟩, hS.F ht⟩) hS.2.2 dX6_wouldChange_46
      · rw [hq_9.1.trans hn_9]
        have hk_9 := hn_9
        obtain ⟨mm, hlmm, hmm, rfl⟩ := kIn_nat 1 200 (by omega) (by omega) hk_9
        refine lv_if_ne (tgt := 47) hx hb dX6_wouldChange_38 (by decide) (fun _ => ?_) (fun c_12 => absurd c_12 (by decide))
        refine lv_iconst (v := 0) hx hb dX6_wouldChange_47 (by decide) ?_
        refine lv_istore (lv' := [(4, .int 0), (0, .ref am), (1, .int (nI i)), (2, .int p1), (3, .int (nI mm))]) hx hb dX6_wouldChange_48 hl (by decide) rfl (fun ls hl => ?_)
        refine lv_iconst (v := 0) hx hb dX6_wouldChange_50 (by decide) ?_
        refine lv_istore (lv' := [(5, .int 0), (4, .int 0), (0, .ref am), (1, .int (nI i)), (2, .int p1), (3, .int (nI mm))]) hx hb dX6_wouldChange_51 hl (by decide) rfl (fun ls hl => ?_)
        have hP : va_P D vwCl (wM cA am r (mS (mS M 0 0) 28 (M.1 28))) H := by rw [show mS (mS M 0 0) 28 (M.1 28) = mS M 0 0 from mS_id (M := mS M 0 0) (k := 28)]; exact hP
        have hD : va_D A (wM cA am r (mS (mS M 0 0) 28 (M.1 28))) := by rw [show mS (mS M 0 0) 28 (M.1 28) = mS M 0 0 from mS_id (M := mS M 0 0) (k := 28)]; exact hD
        refine kz_loop 53 (fun N9 H locs ls => ∃ (j : Nat) (acc : Int32) (ρ : Int32), N9 = mm - j ∧ j ≤ mm ∧ va_P D vwCl (wM cA am r (mS (mS M 0 0) 28 ρ)) H ∧ va_D A (wM cA am r (mS (mS M 0 0) 28 ρ)) ∧ va_S A s.heap H locs ∧ lv_has ls 6 [(5, .int (nI j)), (4, .int acc), (3, .int (nI mm)), (2, .int p1), (1, .int (nI i)), (0, .ref am)]) (fun N9 ih_53 H locs ls hI => ?_) ⟨0, 0, (M.1 28), rfl, by omega, hP, hD, hS, lv_sub hl [0, 1, 5, 4, 3, 2] rfl⟩
        obtain ⟨j, acc, ρ, hn9, hj, hP, hD, hS, hl⟩ := hI
        refine lv_iload hx hb dX6_wouldChange_53 (lv_at hl 0 rfl) ?_
        refine lv_iload_n hx hb dX6_wouldChange_55 rfl (lv_at hl 2 rfl) ?_
        refine lv_icmp_ge (tgt := 106) hx hb dX6_wouldChange_56 (by decide) (fun c_13 => ?_) (fun c_13 => ?_)
        · replace c_13 := (nI_leI (a := mm) (b := j) (by omega) (by omega)).mp c_13
          refine lv_iload hx hb dX6_wouldChange_106 (lv_at hl 1 rfl) ?_
          exact W.iret (v := acc) hx hb hr (fun t ht hW => ⟨⟨acc, mS (mS M 0 0) 28 ρ, rfl, ⟨(INVR.iS (INVR.iS hI (by decide) (by decide)) (by decide) (by decide)), ((eqM.rf).s0).s28⟩, by rw [ht]; exact hP, va_K.moved hW.alike hK, hD⟩, hS.F ht⟩) hS.2.2 dX6_wouldChange_108
        · replace c_13 : ¬ (mm ≤ j) := fun h9 => c_13 ((nI_leI (a := mm) (b := j) (by omega) (by omega)).mpr h9)
          refine lv_iload hx hb dX6_wouldChange_59 (lv_at hl 1 rfl) ?_
          refine lv_aload_n hx hb dX6_wouldChange_61 rfl (lv_at hl 5 rfl) ?_
          refine lv_iload_n hx hb dX6_wouldChange_62 rfl (lv_at hl 4 rfl) ?_
          refine lv_iload hx hb dX6_wouldChange_63 (lv_at hl 0 rfl) ?_
          refine lv_iload hx hb dX6_wouldChange_65 (lv_at hl 0 rfl) ?_
          refine lv_bipush (v := 10) hx hb dX6_wouldChange_67 (by decide) ?_
          refine lv_irem hx hb dX6_wouldChange_69 (by decide) ?_
          refine lv_iload hx hb dX6_wouldChange_70 (lv_at hl 0 rfl) ?_
          refine lv_bipush (v := 10) hx hb dX6_wouldChange_72 (by decide) ?_
          refine lv_idiv hx hb dX6_wouldChange_74 (by decide) ?_
          refine lv_bipush (v := 10) hx hb dX6_wouldChange_75 (by decide) ?_
          refine lv_irem hx hb dX6_wouldChange_77 (by decide) ?_
          refine lv_iload_n hx hb dX6_wouldChange_78 rfl (lv_at hl 3 rfl) ?_
          refine kc_i (va_runV (As := [.int (nI i), .int (nI j), .int ((nI j) - (nI j) / 10 * 10), .int (((nI j) / 10) - ((nI j) / 10) / 10 * 10), .int p1]) (rest := [.int acc]) ⟨hx, hb, hml, hown, htT⟩ (m_getsNow_s l D cA _ am r n na ru 7 (fun d9 h => by cases h; exact m_PO l D cA am r n na ru 6) i (mS (mS M 0 0) 28 ρ) j ((nI j) - (nI j) / 10 * 10) (((nI j) / 10) - ((nI j) / 10) / 10 * 10) p1 hi (by omega) (by omega) hok) (cwV 5 htT (kg_V m_ml_X6_171 m_im_X6_getsNow m_sl_X6_getsNow m_in_X6 m_cd_X6_getsNow) rfl rfl rfl (by decide +kernel) ⟨Nat.le_of_ble_eq_true rfl, Nat.le_of_ble_eq_true rfl⟩) (kp_V hK hP hD hTB (km_rc hK hP)) rfl rfl hl.1 rfl (lv_room (Nat.le_of_ble_eq_true rfl)) dX6_wouldChange_79 ⟨Nat.le_of_ble_eq_true rfl, Nat.le_of_ble_eq_true rfl⟩) hD hS hA (fun r_14 x_14 H locs hq_14 hP hD hS => ?_)
          obtain ⟨ρ_14, eρ_14⟩ : ∃ ρ, x_14 = mS (mS M 0 0) 28 ρ := ⟨_, hq_14.2.trans mS_s⟩
          rw [eρ_14] at hP hD
          refine lv_aload_n hx hb dX6_wouldChange_82 rfl (lv_at hl 5 rfl) ?_
          refine lv_iload_n hx hb dX6_wouldChange_83 rfl (lv_at hl 4 rfl) ?_
          refine lv_iload hx hb dX6_wouldChange_84 (lv_at hl 0 rfl) ?_
          refine kc_i (va_runV (As := [.int (nI i), .int (nI j)]) (rest := [.int r_14, .int acc]) ⟨hx, hb, hml, hown, htT⟩ (m_getsBy l D cA _ am r (mS (mS M 0 0) 28 ρ_14) n na ru hok i hi j (by omega)) (cwV 2 htT (kg_V m_ml_X6_203 m_im_X6_getsBy m_sl_X6_getsBy m_in_X6 m_cd_X6_getsBy) rfl rfl rfl (by decide +kernel) ⟨Nat.le_of_ble_eq_true rfl, Nat.le_of_ble_eq_true rfl⟩) (kp_V hK hP hD hTB (km_rc hK hP)) rfl rfl hl.1 rfl (lv_room (Nat.le_of_ble_eq_true rfl)) dX6_wouldChange_86 ⟨Nat.le_of_ble_eq_true rfl, Nat.le_of_ble_eq_true rfl⟩) hD hS hA (fun r_15 x_15 H locs hq_15 hP hD hS => ?_)
          obtain ⟨ρ_15, eρ_15⟩ : ∃ ρ, x_15 = mS (mS M 0 0) 28 ρ := ⟨_, hq_15.2.trans mS_s⟩
          rw [eρ_15] at hP hD
          refine lv_icmp_ne (tgt := 96) hx hb dX6_wouldChange_89 (by decide) (fun c_16 => ?_) (fun c_16 => ?_)
          · refine lv_iconst (v := 1) hx hb dX6_wouldChange_96 (by decide) ?_
            refine lv_iadd hx hb dX6_wouldChange_97 ?_
            refine lv_istore (lv' := [(4, .int (acc + 1)), (5, .int (nI j)), (3, .int (nI mm)), (2, .int p1), (1, .int (nI i)), (0, .ref am)]) hx hb dX6_wouldChange_98 hl (by decide) rfl (fun ls hl => ?_)
            refine lv_iinc (v := nI (j + 1)) (lv' := [(5, .int (nI (j + 1))), (4, .int (acc + 1)), (3, .int (nI mm)), (2, .int p1), (1, .int (nI i)), (0, .ref am)]) hx hb dX6_wouldChange_100 hl (k := 1) rfl (nI_1 _) (by decide) rfl (fun ls hl => ?_)
            refine lv_goto (tgt := 53) hx hb dX6_wouldChange_103 (by decide) ?_
            have hl := lv_sub hl [0, 1, 2, 3, 4, 5] rfl
            exact ih_53 _ (by omega) H locs ls ⟨j + 1, _, ρ_15, rfl, by omega, hP, hD, hS, hl⟩
          · refine lv_iconst (v := 0) hx hb dX6_wouldChange_92 (by decide) ?_
            refine lv_goto (tgt := 97) hx hb dX6_wouldChange_93 (by decide) ?_
            refine lv_iadd hx hb dX6_wouldChange_97 ?_
            refine lv_istore (lv' := [(4, .int (acc + 0)), (5, .int (nI j)), (3, .int (nI mm)), (2, .int p1), (1, .int (nI i)), (0, .ref am)]) hx hb dX6_wouldChange_98 hl (by decide) rfl (fun ls hl => ?_)
            refine lv_iinc (v := nI (j + 1)) (lv' := [(5, .int (nI (j + 1))), (4, .int (acc + 0)), (3, .int (nI mm)), (2, .int p1), (1, .int (nI i)), (0, .ref am)]) hx hb dX6_wouldChange_100 hl (k := 1) rfl (nI_1 _) (by decide) rfl (fun ls hl => ?_)
            refine lv_goto (tgt := 53) hx hb dX6_wouldChange_103 (by decide) ?_
            have hl := lv_sub hl [0, 1, 2, 3, 4, 5] rfl
            exact ih_53 _ (by omega) H locs ls ⟨j + 1, _, ρ_15, rfl, by omega, hP, hD, hS, hl⟩

