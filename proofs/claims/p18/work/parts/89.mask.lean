set_option maxRecDepth 100000 in
set_option maxHeartbeats 4000000 in
theorem t_ask (l : Launch) (D : va_G) (cA : Nat → ClassId) (sz : Nat) (am : Nat) (r : Nat → Nat) (M : MSt) (n na : Nat) (hI : INVR n na M) (p0 p1 p2 p3 : Int32) : Met l yX6_ask (Cond.code yX6_ask cX6_ask 6 (some .int) :: TT) ({ frames := 18, cells := 0, slots := 0, locals := 964 }) (va_Pc [.ref am, .int p0, .int p1, .int p2, .int p3] (kPre D cA (wM cA am r M) sz)) (va_Qi (fun (r_ : Int32) (x_ : MSt) => ∃ n2, INVR n n2 x_ ∧ (∀ k, k ≠ 23 → k ≠ 24 → k ≠ 25 → x_.2 k = M.2 k) ∧ x_.1 1 = M.1 1 ∧ x_.1 2 = M.1 2) (fun x_ => kB D cA (va_A (wM cA am r M) sz) (wM cA am r x_)) (va_A (wM cA am r M) sz)) 0 0 (va_A (wM cA am r M) sz) := by
  refine Met.ofW (cc := cX6_ask) (maxL := 6) (ret := (some .int)) (by decide) rfl ?_
  intro p e s m args below meth c s₁ B hml hv
  obtain ⟨rfl, hsz, hP, hK, hD0, hTB⟩ := hv
  have hx := B.exec
  have hb := B.bytes
  have hr := B.returns
  have hts := atoms_spec (ws := Cond.code yX6_ask cX6_ask 6 (some .int) :: TT) B.pre
  have htT : ∀ w ∈ TT, w.before _ s = true := fun w h => hts w (List.mem_cons_of_mem _ h)
  have hown : s.vm.findClass RX6 = some m.cls := findClass_of_methodNamed B.named
  have hlocks := B.notSynchronized
  subst hsz
  have hD := hD0.self (sz := s.heap.size)
  generalize hAe : va_A (wM cA am r M) s.heap.size = A at hD ⊢
  have hA : ∀ q : Nat, s.heap.size ≤ q → A q := fun q h => by rw [← hAe]; exact Or.inr h
  have hS : va_S A s.heap s.heap [] := va_S.rf
  have hl := lv_entry ([.ref am, .int p0, .int p1, .int p2, .int p3]) (n := 6) (Nat.le_of_ble_eq_true rfl)
  rw [lg_entry_eq]
  generalize (lg_sl ([.ref am, .int p0, .int p1, .int p2, .int p3]) ++ List.replicate (6 - (lg_sl ([.ref am, .int p0, .int p1, .int p2, .int p3])).length) Slot.unset).toArray = ls at hl ⊢
  have hl : lv_has ls 6 [(0, .ref am), (1, .int p0), (2, .int p1), (3, .int p2), (4, .int p3)] := hl
  have hn8 := hI.n8
  have hna9 := hI.na
  obtain ⟨ru, hok⟩ := id hI.1
  refine lv_aload_n hx hb dX6_ask_0 rfl (lv_at hl 0 rfl) ?_
  refine lv_iload_n hx hb dX6_ask_1 rfl (lv_at hl 1 rfl) ?_
  refine lv_iload_n hx hb dX6_ask_2 rfl (lv_at hl 2 rfl) ?_
  refine lv_iload_n hx hb dX6_ask_3 rfl (lv_at hl 3 rfl) ?_
  refine lv_iload hx hb dX6_ask_4 (lv_at hl 4 rfl) ?_
  have h3_1 : M.1 3 = nI n := hI.h3
  rcases kIn_swx (p := p0) hI.n8 h3_1 with hsw | ⟨i, hi, rfl⟩
  · refine kc_i (va_runV (As := [.int p0, .int p1, .int p2, .int p3]) (rest := []) ⟨hx, hb, hml, hown, htT⟩ (m_isAsked_0 l D cA _ am r M p0 p1 p2 p3 hsw) (cwV 4 htT (kg_V m_ml_X6_175 m_im_X6_isAsked m_sl_X6_isAsked m_in_X6 m_cd_X6_isAsked) rfl rfl rfl (by decide +kernel) ⟨Nat.le_of_ble_eq_true rfl, Nat.le_of_ble_eq_true rfl⟩) (kp_V hK hP hD hTB (km_rc hK hP)) rfl rfl hl.1 rfl (lv_room (Nat.le_of_ble_eq_true rfl)) dX6_ask_6 ⟨Nat.le_of_ble_eq_true rfl, Nat.le_of_ble_eq_true rfl⟩) hD hS hA (fun r_1 x_1 H locs hq_1 hP hD hS => ?_)
    rw [hq_1.1]
    rw [hq_1.2] at hP hD
    refine lv_if_ne (tgt := 14) hx hb dX6_ask_9 (by decide) (fun c_2 => absurd c_2 (by decide)) (fun _ => ?_)
    refine lv_iconst (v := 0) hx hb dX6_ask_12 (by decide) ?_
    exact W.iret (v := 0) hx hb hr (fun t ht hW => ⟨⟨0, mS M 0 1, rfl, ⟨na, (INVR.iS hI (by decide) (by decide)), fun _ _ _ _ => rfl, rfl, rfl⟩, by rw [ht]; exact hP, va_K.moved hW.alike hK, hD⟩, hS.F ht⟩) hS.2.2 dX6_ask_13
  · refine kc_i (va_runV (As := [.int (nI i), .int p1, .int p2, .int p3]) (rest := []) ⟨hx, hb, hml, hown, htT⟩ (m_isAsked_1 l D cA _ am r M n i hi hI.n8 h3_1 p1 p2 p3) (cwV 4 htT (kg_V m_ml_X6_175 m_im_X6_isAsked m_sl_X6_isAsked m_in_X6 m_cd_X6_isAsked) rfl rfl rfl (by decide +kernel) ⟨Nat.le_of_ble_eq_true rfl, Nat.le_of_ble_eq_true rfl⟩) (kp_V hK hP hD hTB (km_rc hK hP)) rfl rfl hl.1 rfl (lv_room (Nat.le_of_ble_eq_true rfl)) dX6_ask_6 ⟨Nat.le_of_ble_eq_true rfl, Nat.le_of_ble_eq_true rfl⟩) hD hS hA (fun r_1 x_1 H locs hq_1 hP hD hS => ?_)
    rcases qAsk_01 p1 p2 p3 with hqa | hqa
    · rw [hq_1.1.trans hqa]
      rw [hq_1.2, if_pos hqa] at hP hD
      refine lv_if_ne (tgt := 14) hx hb dX6_ask_9 (by decide) (fun c_3 => absurd c_3 (by decide)) (fun _ => ?_)
      refine lv_iconst (v := 0) hx hb dX6_ask_12 (by decide) ?_
      exact W.iret (v := 0) hx hb hr (fun t ht hW => ⟨⟨0, mS M 0 2, rfl, ⟨na, (INVR.iS hI (by decide) (by decide)), fun _ _ _ _ => rfl, rfl, rfl⟩, by rw [ht]; exact hP, va_K.moved hW.alike hK, hD⟩, hS.F ht⟩) hS.2.2 dX6_ask_13
    · rw [hq_1.1.trans hqa]
      rw [hq_1.2, if_neg (show ¬ qAsk p1 p2 p3 = 0 by rw [hqa]; decide)] at hP hD
      obtain ⟨uu, huu, rfl⟩ := qAsk_u hqa
      refine lv_if_ne (tgt := 14) hx hb dX6_ask_9 (by decide) (fun _ => ?_) (fun c_4 => absurd c_4 (by decide))
      refine lv_aload_n hx hb dX6_ask_14 rfl (lv_at hl 0 rfl) ?_
      refine lv_iload_n hx hb dX6_ask_15 rfl (lv_at hl 1 rfl) ?_
      refine lv_iload_n hx hb dX6_ask_16 rfl (lv_at hl 2 rfl) ?_
      refine lv_iload_n hx hb dX6_ask_17 rfl (lv_at hl 3 rfl) ?_
      refine lv_iload hx hb dX6_ask_18 (lv_at hl 4 rfl) ?_
      refine kc_i (va_runV (As := [.int (nI i), .int (nI uu), .int p2, .int p3]) (rest := []) ⟨hx, hb, hml, hown, htT⟩ (m_PO l D cA am r n na ru 7 _ i (mS M 0 0) uu p2 p3 (by omega) (by omega) (by omega) hok) (cwV 4 htT (kg_V m_ml_X6_154 m_im_X6_getsOf m_sl_X6_getsOf m_in_X6 m_cd_X6_getsOf) rfl rfl rfl (by decide +kernel) ⟨Nat.le_of_ble_eq_true rfl, Nat.le_of_ble_eq_true rfl⟩) (kp_V hK hP hD hTB (km_rc hK hP)) rfl rfl hl.1 rfl (lv_room (Nat.le_of_ble_eq_true rfl)) dX6_ask_20 ⟨Nat.le_of_ble_eq_true rfl, Nat.le_of_ble_eq_true rfl⟩) hD hS hA (fun r_5 x_5 H locs hq_5 hP hD hS => ?_)
      obtain ⟨ρ_5, eρ_5⟩ : ∃ ρ, x_5 = mS (mS M 0 0) 28 ρ := ⟨_, hq_5.2⟩
      rw [eρ_5] at hP hD
      refine lv_istore (lv' := [(5, .int r_5), (0, .ref am), (1, .int (nI i)), (2, .int (nI uu)), (3, .int p2), (4, .int p3)]) hx hb dX6_ask_23 hl (by decide) rfl (fun ls hl => ?_)
      refine lv_aload_n hx hb dX6_ask_25 rfl (lv_at hl 1 rfl) ?_
      refine km_getiv (x := ρ_5) hx hb htT hown hK hP 28 (by decide) rfl (htT _ m_fl_X6_165) rfl dX6_ask_26 ?_
      refine lv_bipush (v := 8) hx hb dX6_ask_29 (by decide) ?_
      refine lv_icmp_ne (tgt := 91) hx hb dX6_ask_31 (by decide) (fun c_6 => ?_) (fun c_6 => ?_)
      · refine lv_iload hx hb dX6_ask_91 (lv_at hl 0 rfl) ?_
        exact W.iret (v := r_5) hx hb hr (fun t ht hW => ⟨⟨r_5, mS (mS M 0 0) 28 ρ_5, rfl, ⟨na, (INVR.iS (INVR.iS hI (by decide) (by decide)) (by decide) (by decide)), fun _ _ _ _ => rfl, rfl, rfl⟩, by rw [ht]; exact hP, va_K.moved hW.alike hK, hD⟩, hS.F ht⟩) hS.2.2 dX6_ask_93
      · refine lv_aload_n hx hb dX6_ask_34 rfl (lv_at hl 1 rfl) ?_
        refine km_getiv (x := nI na) hx hb htT hown hK hP 22 (by decide) rfl (htT _ m_fl_X6_151) hI.h22 dX6_ask_35 ?_
        refine lv_bipush (v := 100) hx hb dX6_ask_38 (by decide) ?_
        refine lv_icmp_ge (tgt := 91) hx hb dX6_ask_40 (by decide) (fun c_7 => ?_) (fun c_7 => ?_)
        · replace c_7 := (nI_leI (a := 100) (b := na) (by omega) (by omega)).mp c_7
          refine lv_iload hx hb dX6_ask_91 (lv_at hl 0 rfl) ?_
          exact W.iret (v := r_5) hx hb hr (fun t ht hW => ⟨⟨r_5, mS (mS M 0 0) 28 ρ_5, rfl, ⟨na, (INVR.iS (INVR.iS hI (by decide) (by decide)) (by decide) (by decide)), fun _ _ _ _ => rfl, rfl, rfl⟩, by rw [ht]; exact hP, va_K.moved hW.alike hK, hD⟩, hS.F ht⟩) hS.2.2 dX6_ask_93
        · replace c_7 : ¬ (100 ≤ na) := fun h9 => c_7 ((nI_leI (a := 100) (b := na) (by omega) (by omega)).mpr h9)
          refine lv_aload_n hx hb dX6_ask_43 rfl (lv_at hl 1 rfl) ?_
          refine lv_iload_n hx hb dX6_ask_44 rfl (lv_at hl 2 rfl) ?_
          refine lv_iload_n hx hb dX6_ask_45 rfl (lv_at hl 3 rfl) ?_
          refine kc_i (va_runV (As := [.int (nI i), .int (nI uu)]) (rest := []) ⟨hx, hb, hml, hown, htT⟩ (m_armAt l D cA _ am r (mS (mS M 0 0) 28 ρ_5) na hI.na hI.h22 (nI i) (nI uu)) (cwV 2 htT (kg_V m_ml_X6_158 m_im_X6_armAt m_sl_X6_armAt m_in_X6 m_cd_X6_armAt) rfl rfl rfl (by decide +kernel) ⟨Nat.le_of_ble_eq_true rfl, Nat.le_of_ble_eq_true rfl⟩) (kp_V hK hP hD hTB (km_rc hK hP)) rfl rfl hl.1 rfl (lv_room (Nat.le_of_ble_eq_true rfl)) dX6_ask_46 ⟨Nat.le_of_ble_eq_true rfl, Nat.le_of_ble_eq_true rfl⟩) hD hS hA (fun r_8 x_8 H locs hq_8 hP hD hS => ?_)
          rw [hq_8.2] at hP hD
          refine lv_iconst (v := (-1)) hx hb dX6_ask_49 (by decide) ?_
          refine lv_icmp_ne (tgt := 91) hx hb dX6_ask_50 (by decide) (fun c_9 => ?_) (fun c_9 => ?_)
          · refine lv_iload hx hb dX6_ask_91 (lv_at hl 0 rfl) ?_
            exact W.iret (v := r_5) hx hb hr (fun t ht hW => ⟨⟨r_5, mS (mS M 0 0) 28 ρ_5, rfl, ⟨na, (INVR.iS (INVR.iS hI (by decide) (by decide)) (by decide) (by decide)), fun _ _ _ _ => rfl, rfl, rfl⟩, by rw [ht]; exact hP, va_K.moved hW.alike hK, hD⟩, hS.F ht⟩) hS.2.2 dX6_ask_93
          · refine lv_aload_n hx hb dX6_ask_53 rfl (lv_at hl 1 rfl) ?_
            refine km_getr hx hb htT hown hK hP 23 (by decide) rfl (htT _ m_fl_X6_65) dX6_ask_54 ?_
            refine lv_aload_n hx hb dX6_ask_57 rfl (lv_at hl 1 rfl) ?_
            refine km_getiv (x := nI na) hx hb htT hown hK hP 22 (by decide) rfl (htT _ m_fl_X6_151) hI.h22 dX6_ask_58 ?_
            refine lv_iload_n hx hb dX6_ask_61 rfl (lv_at hl 2 rfl) ?_
            refine km_iast hx hb hK hP hD hS 23 rfl rfl (show vp_in (nI (na)) 100 from ki_in (by omega) (by decide)) dX6_ask_62 (fun H locs hP hD hS => ?_)
            rw [ki_cl (n := na) (by omega)] at hP hD
            refine lv_aload_n hx hb dX6_ask_63 rfl (lv_at hl 1 rfl) ?_
            refine km_getr hx hb htT hown hK hP 24 (by decide) rfl (htT _ m_fl_X6_68) dX6_ask_64 ?_
            refine lv_aload_n hx hb dX6_ask_67 rfl (lv_at hl 1 rfl) ?_
            refine km_getiv (x := nI na) hx hb htT hown hK hP 22 (by decide) rfl (htT _ m_fl_X6_151) hI.h22 dX6_ask_68 ?_
            refine lv_iload_n hx hb dX6_ask_71 rfl (lv_at hl 3 rfl) ?_
            refine km_iast hx hb hK hP hD hS 24 rfl rfl (show vp_in (nI (na)) 100 from ki_in (by omega) (by decide)) dX6_ask_72 (fun H locs hP hD hS => ?_)
            rw [ki_cl (n := na) (by omega)] at hP hD
            refine lv_aload_n hx hb dX6_ask_73 rfl (lv_at hl 1 rfl) ?_
            refine km_getr hx hb htT hown hK hP 25 (by decide) rfl (htT _ m_fl_X6_71) dX6_ask_74 ?_
            refine lv_aload_n hx hb dX6_ask_77 rfl (lv_at hl 1 rfl) ?_
            refine lv_dup hx hb dX6_ask_78 rfl ?_
            refine km_getiv (x := nI na) hx hb htT hown hK hP 22 (by decide) rfl (htT _ m_fl_X6_151) hI.h22 dX6_ask_79 ?_
            refine lv_dup_x1 hx hb dX6_ask_82 rfl rfl ?_
            refine lv_iconst (v := 1) hx hb dX6_ask_83 (by decide) ?_
            refine lv_iadd hx hb dX6_ask_84 ?_
            rw [show ((nI na) + 1 : Int32) = nI (na + 1) from nI_add na 1]
            refine km_puti hx hb htT hown hK hP hD hS 22 (by decide) rfl (htT _ m_fl_X6_151) rfl (by decide +kernel) dX6_ask_85 (fun H locs hP hD hS => ?_)
            refine lv_iload hx hb dX6_ask_88 (lv_at hl 0 rfl) ?_
            refine km_iast hx hb hK hP hD hS 25 rfl rfl (show vp_in (nI (na)) 100 from ki_in (by omega) (by decide)) dX6_ask_90 (fun H locs hP hD hS => ?_)
            rw [ki_cl (n := na) (by omega)] at hP hD
            refine lv_iload hx hb dX6_ask_91 (lv_at hl 0 rfl) ?_
            exact W.iret (v := r_5) hx hb hr (fun t ht hW => ⟨⟨r_5, mR (mS (mR (mR (mS (mS M 0 0) 28 ρ_5) 23 na (nI i)) 24 na (nI uu)) 22 (nI (na + 1))) 25 na r_5, rfl, ⟨na + 1, (INVR.iR (INVR.arm (INVR.iR (INVR.iR (INVR.iS (INVR.iS hI (by decide) (by decide)) (by decide) (by decide)) (by decide)) (by decide)) (by omega)) (by decide)), fun k a1 a2 a3 => (up_o a3).trans ((up_o a2).trans (up_o a1)), rfl, rfl⟩, by rw [ht]; exact hP, va_K.moved hW.alike hK, hD⟩, hS.F ht⟩) hS.2.2 dX6_ask_93

set_option maxRecDepth 100000 in
set_option maxHeartbeats 4000000 in
theorem t_hold (l : Launch) (D : va_G) (cA : Nat → ClassId) (sz : Nat) (am : Nat) (r : Nat → Nat) (M : MSt) (n na : Nat) (hI : INVR n na M) (p0 : Int32) : Met l yX6_hold (Cond.code yX6_hold cX6_hold 3 (some .int) :: TT) ({ frames := 1, cells := 0, slots := 0, locals := 22 }) (va_Pc [.ref am, .int p0] (kPre D cA (wM cA am r M) sz)) (va_Qi (fun (r_ : Int32) (x_ : MSt) => INVR n na x_ ∧ x_.2 = M.2 ∧ x_.1 1 = M.1 1 ∧ x_.1 2 = (if kIn p0 0 1000 = 0 then M.1 2 else p0)) (fun x_ => kB D cA (va_A (wM cA am r M) sz) (wM cA am r x_)) (va_A (wM cA am r M) sz)) 0 0 (va_A (wM cA am r M) sz) := by
  refine Met.ofW (cc := cX6_hold) (maxL := 3) (ret := (some .int)) (by decide) rfl ?_
  intro p e s m args below meth c s₁ B hml hv
  obtain ⟨rfl, hsz, hP, hK, hD0, hTB⟩ := hv
  have hx := B.exec
  have hb := B.bytes
  have hr := B.returns
  have hts := atoms_spec (ws := Cond.code yX6_hold cX6_hold 3 (some .int) :: TT) B.pre
  have htT : ∀ w ∈ TT, w.before _ s = true := fun w h => hts w (List.mem_cons_of_mem _ h)
  have hown : s.vm.findClass RX6 = some m.cls := findClass_of_methodNamed B.named
  have hlocks := B.notSynchronized
  subst hsz
  have hD := hD0.self (sz := s.heap.size)
  generalize hAe : va_A (wM cA am r M) s.heap.size = A at hD ⊢
  have hA : ∀ q : Nat, s.heap.size ≤ q → A q := fun q h => by rw [← hAe]; exact Or.inr h
  have hS : va_S A s.heap s.heap [] := va_S.rf
  have hl := lv_entry ([.ref am, .int p0]) (n := 3) (Nat.le_of_ble_eq_true rfl)
  rw [lg_entry_eq]
  generalize (lg_sl ([.ref am, .int p0]) ++ List.replicate (3 - (lg_sl ([.ref am, .int p0])).length) Slot.unset).toArray = ls at hl ⊢
  have hl : lv_has ls 3 [(0, .ref am), (1, .int p0)] := hl
  have hn8 := hI.n8
  refine lv_aload_n hx hb dX6_hold_0 rfl (lv_at hl 0 rfl) ?_
  refine lv_iconst (v := 0) hx hb dX6_hold_1 (by decide) ?_
  refine km_puti hx hb htT hown hK hP hD hS 0 (by decide) rfl (htT _ m_fl_X6_80) rfl (by decide +kernel) dX6_hold_2 (fun H locs hP hD hS => ?_)
  refine lv_iload_n hx hb dX6_hold_5 rfl (lv_at hl 1 rfl) ?_
  refine lv_iconst (v := 0) hx hb dX6_hold_6 (by decide) ?_
  refine lv_sipush (v := 1000) hx hb dX6_hold_7 (by decide) ?_
  refine kc_i (va_runS (As := [.int p0, .int 0, .int 1000]) (rest := []) ⟨hx, hb, hml, hown, htT⟩ (m_isIn l D cA _ am r (mS M 0 0) p0 0 1000) (cwS 3 htT (kg_S m_ml_X6_87 m_st_X6_isIn m_in_X6 m_cd_X6_isIn) rfl rfl rfl (by decide +kernel) ⟨Nat.le_of_ble_eq_true rfl, Nat.le_of_ble_eq_true rfl⟩) (kp_S hK hP hD hTB) rfl rfl hl.1 rfl (lv_room (Nat.le_of_ble_eq_true rfl)) dX6_hold_10 ⟨Nat.le_of_ble_eq_true rfl, Nat.le_of_ble_eq_true rfl⟩) hD hS hA (fun r_1 x_1 H locs hq_1 hP hD hS => ?_)
  rw [hq_1.1]
  rw [hq_1.2] at hP hD
  refine lv_if_ne (tgt := 22) hx hb dX6_hold_13 (by decide) (fun c_2 => ?_) (fun c_2 => ?_)
  · refine lv_aload_n hx hb dX6_hold_22 rfl (lv_at hl 0 rfl) ?_
    refine km_getiv (x := M.1 2) hx hb htT hown hK hP 2 (by decide) rfl (htT _ m_fl_X6_136) rfl dX6_hold_23 ?_
    refine lv_istore_n (lv' := [(2, .int (M.1 2)), (0, .ref am), (1, .int p0)]) hx hb dX6_hold_26 rfl hl (by decide) rfl (fun ls hl => ?_)
    refine lv_aload_n hx hb dX6_hold_27 rfl (lv_at hl 1 rfl) ?_
    refine lv_iload_n hx hb dX6_hold_28 rfl (lv_at hl 2 rfl) ?_
    refine km_puti hx hb htT hown hK hP hD hS 2 (by decide) rfl (htT _ m_fl_X6_136) rfl (by decide +kernel) dX6_hold_29 (fun H locs hP hD hS => ?_)
    refine lv_iload_n hx hb dX6_hold_32 rfl (lv_at hl 0 rfl) ?_
    exact W.iret (v := M.1 2) hx hb hr (fun t ht hW => ⟨⟨M.1 2, mS (mS M 0 0) 2 p0, rfl, ⟨(INVR.iS (INVR.iS hI (by decide) (by decide)) (by decide) (by decide)), rfl, rfl, by simp [c_2, va_up]⟩, by rw [ht]; exact hP, va_K.moved hW.alike hK, hD⟩, hS.F ht⟩) hS.2.2 dX6_hold_33
  · refine lv_aload_n hx hb dX6_hold_16 rfl (lv_at hl 0 rfl) ?_
    refine lv_iconst (v := 1) hx hb dX6_hold_17 (by decide) ?_
    refine kc_i (va_runV (As := [.int 1]) (rest := []) ⟨hx, hb, hml, hown, htT⟩ (m_no l D cA _ am r (mS M 0 0) 1) (cwV 1 htT (kg_V m_ml_X6_95 m_im_X6_no m_sl_X6_no m_in_X6 m_cd_X6_no) rfl rfl rfl (by decide +kernel) ⟨Nat.le_of_ble_eq_true rfl, Nat.le_of_ble_eq_true rfl⟩) (kp_V hK hP hD hTB (km_rc hK hP)) rfl rfl hl.1 rfl (lv_room (Nat.le_of_ble_eq_true rfl)) dX6_hold_18 ⟨Nat.le_of_ble_eq_true rfl, Nat.le_of_ble_eq_true rfl⟩) hD hS hA (fun r_3 x_3 H locs hq_3 hP hD hS => ?_)
    rw [hq_3.1]
    rw [hq_3.2] at hP hD
    exact W.iret (v := 0) hx hb hr (fun t ht hW => ⟨⟨0, mS (mS M 0 0) 0 1, rfl, ⟨(INVR.iS (INVR.iS hI (by decide) (by decide)) (by decide) (by decide)), rfl, rfl, by simp [c_2, va_up]⟩, by rw [ht]; exact hP, va_K.moved hW.alike hK, hD⟩, hS.F ht⟩) hS.2.2 dX6_hold_21

set_option maxRecDepth 100000 in
set_option maxHeartbeats 4000000 in
theorem t_goOn (l : Launch) (D : va_G) (cA : Nat → ClassId) (sz : Nat) (am : Nat) (r : Nat → Nat) (M : MSt) (n na : Nat) (hI : INVR n na M) (p0 : Int32) : Met l yX6_goOn (Cond.code yX6_goOn cX6_goOn 2 (some .int) :: TT) ({ frames := 1, cells := 0, slots := 0, locals := 22 }) (va_Pc [.ref am, .int p0] (kPre D cA (wM cA am r M) sz)) (va_Qi (fun (r_ : Int32) (x_ : MSt) => INVR n na x_ ∧ x_.2 = M.2 ∧ x_.1 1 = (if kIn p0 1 100 = 0 then M.1 1 else M.1 1 + p0) ∧ x_.1 2 = M.1 2) (fun x_ => kB D cA (va_A (wM cA am r M) sz) (wM cA am r x_)) (va_A (wM cA am r M) sz)) 0 0 (va_A (wM cA am r M) sz) := by
  refine Met.ofW (cc := cX6_goOn) (maxL := 2) (ret := (some .int)) (by decide) rfl ?_
  intro p e s m args below meth c s₁ B hml hv
  obtain ⟨rfl, hsz, hP, hK, hD0, hTB⟩ := hv
  have hx := B.exec
  have hb := B.bytes
  have hr := B.returns
  have hts := atoms_spec (ws := Cond.code yX6_goOn cX6_goOn 2 (some .int) :: TT) B.pre
  have htT : ∀ w ∈ TT, w.before _ s = true := fun w h => hts w (List.mem_cons_of_mem _ h)
  have hown : s.vm.findClass RX6 = some m.cls := findClass_of_methodNamed B.named
  have hlocks := B.notSynchronized
  subst hsz
  have hD := hD0.self (sz := s.heap.size)
  generalize hAe : va_A (wM cA am r M) s.heap.size = A at hD ⊢
  have hA : ∀ q : Nat, s.heap.size ≤ q → A q := fun q h => by rw [← hAe]; exact Or.inr h
  have hS : va_S A s.heap s.heap [] := va_S.rf
  have hl := lv_entry ([.ref am, .int p0]) (n := 2) (Nat.le_of_ble_eq_true rfl)
  rw [lg_entry_eq]
  generalize (lg_sl ([.ref am, .int p0]) ++ List.replicate (2 - (lg_sl ([.ref am, .int p0])).length) Slot.unset).toArray = ls at hl ⊢
  have hl : lv_has ls 2 [(0, .ref am), (1, .int p0)] := hl
  have hn8 := hI.n8
  refine lv_aload_n hx hb dX6_goOn_0 rfl (lv_at hl 0 rfl) ?_
  refine lv_iconst (v := 0) hx hb dX6_goOn_1 (by decide) ?_
  refine km_puti hx hb htT hown hK hP hD hS 0 (by decide) rfl (htT _ m_fl_X6_80) rfl (by decide +kernel) dX6_goOn_2 (fun H locs hP hD hS => ?_)
  refine lv_iload_n hx hb dX6_goOn_5 rfl (lv_at hl 1 rfl) ?_
  refine lv_iconst (v := 1) hx hb dX6_goOn_6 (by decide) ?_
  refine lv_bipush (v := 100) hx hb dX6_goOn_7 (by decide) ?_
  refine kc_i (va_runS (As := [.int p0, .int 1, .int 100]) (rest := []) ⟨hx, hb, hml, hown, htT⟩ (m_isIn l D cA _ am r (mS M 0 0) p0 1 100) (cwS 3 htT (kg_S m_ml_X6_87 m_st_X6_isIn m_in_X6 m_cd_X6_isIn) rfl rfl rfl (by decide +kernel) ⟨Nat.le_of_ble_eq_true rfl, Nat.le_of_ble_eq_true rfl⟩) (kp_S hK hP hD hTB) rfl rfl hl.1 rfl (lv_room (Nat.le_of_ble_eq_true rfl)) dX6_goOn_9 ⟨Nat.le_of_ble_eq_true rfl, Nat.le_of_ble_eq_true rfl⟩) hD hS hA (fun r_1 x_1 H locs hq_1 hP hD hS => ?_)
  rw [hq_1.1]
  rw [hq_1.2] at hP hD
  refine lv_if_ne (tgt := 21) hx hb dX6_goOn_12 (by decide) (fun c_2 => ?_) (fun c_2 => ?_)
  · refine lv_aload_n hx hb dX6_goOn_21 rfl (lv_at hl 0 rfl) ?_
    refine lv_dup hx hb dX6_goOn_22 rfl ?_
    refine km_getiv (x := M.1 1) hx hb htT hown hK hP 1 (by decide) rfl (htT _ m_fl_X6_99) rfl dX6_goOn_23 ?_
    refine lv_iload_n hx hb dX6_goOn_26 rfl (lv_at hl 1 rfl) ?_
    refine lv_iadd hx hb dX6_goOn_27 ?_
    refine km_puti hx hb htT hown hK hP hD hS 1 (by decide) rfl (htT _ m_fl_X6_99) rfl (by decide +kernel) dX6_goOn_28 (fun H locs hP hD hS => ?_)
    refine lv_aload_n hx hb dX6_goOn_31 rfl (lv_at hl 0 rfl) ?_
    refine km_getiv (x := (M.1 1) + p0) hx hb htT hown hK hP 1 (by decide) rfl (htT _ m_fl_X6_99) rfl dX6_goOn_32 ?_
    exact W.iret (v := (M.1 1) + p0) hx hb hr (fun t ht hW => ⟨⟨(M.1 1) + p0, mS (mS M 0 0) 1 ((M.1 1) + p0), rfl, ⟨(INVR.iS (INVR.iS hI (by decide) (by decide)) (by decide) (by decide)), rfl, by simp [c_2, va_up], rfl⟩, by rw [ht]; exact hP, va_K.moved hW.alike hK, hD⟩, hS.F ht⟩) hS.2.2 dX6_goOn_35
  · refine lv_aload_n hx hb dX6_goOn_15 rfl (lv_at hl 0 rfl) ?_
    refine lv_iconst (v := 1) hx hb dX6_goOn_16 (by decide) ?_
    refine kc_i (va_runV (As := [.int 1]) (rest := []) ⟨hx, hb, hml, hown, htT⟩ (m_no l D cA _ am r (mS M 0 0) 1) (cwV 1 htT (kg_V m_ml_X6_95 m_im_X6_no m_sl_X6_no m_in_X6 m_cd_X6_no) rfl rfl rfl (by decide +kernel) ⟨Nat.le_of_ble_eq_true rfl, Nat.le_of_ble_eq_true rfl⟩) (kp_V hK hP hD hTB (km_rc hK hP)) rfl rfl hl.1 rfl (lv_room (Nat.le_of_ble_eq_true rfl)) dX6_goOn_17 ⟨Nat.le_of_ble_eq_true rfl, Nat.le_of_ble_eq_true rfl⟩) hD hS hA (fun r_3 x_3 H locs hq_3 hP hD hS => ?_)
    rw [hq_3.1]
    rw [hq_3.2] at hP hD
    exact W.iret (v := 0) hx hb hr (fun t ht hW => ⟨⟨0, mS (mS M 0 0) 0 1, rfl, ⟨(INVR.iS (INVR.iS hI (by decide) (by decide)) (by decide) (by decide)), rfl, by simp [c_2, va_up], rfl⟩, by rw [ht]; exact hP, va_K.moved hW.alike hK, hD⟩, hS.F ht⟩) hS.2.2 dX6_goOn_20

