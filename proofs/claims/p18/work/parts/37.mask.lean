set_option maxRecDepth 100000 in
set_option maxHeartbeats 4000000 in
theorem m_ask_no (l : Launch) (D : va_G) (cA : Nat → ClassId) (sz : Nat) (am : Nat) (r : Nat → Nat) (M : MSt) (n i : Nat) (hi : i < n) (hn8 : n ≤ 8) (h3 : M.1 3 = nI n) (na : Nat) (ru : Nat → Nat) (hok : okG M n na ru) (uu : Nat) (f g : Int32) (huu : uu ≤ 9999) (hq : qAsk (nI uu) f g = 1) (hna : na ≤ 100) (h22 : M.1 22 = nI na) (hno : ¬ ((rG M.2 (M.1 2) (M.2 11) (fun k => rFar M.2 k (M.1 1)) (nI uu) f g na ru 8 i).2 = 8 ∧ na < 100 ∧ rArm M.2 (nI i) (nI uu) na 0 = -1)) : Met l yX6_ask (Cond.code yX6_ask cX6_ask 6 (some .int) :: TT) ({ frames := 18, cells := 0, slots := 0, locals := 964 }) (va_Pc [.ref am, .int (nI i), .int (nI uu), .int f, .int g] (kPre D cA (wM cA am r M) sz)) (va_Qi (fun (r_ : Int32) (x_ : MSt) => r_ = (rG M.2 (M.1 2) (M.2 11) (fun k => rFar M.2 k (M.1 1)) (nI uu) f g na ru 8 i).1 ∧ x_ = mS (mS M 0 0) 28 (rG M.2 (M.1 2) (M.2 11) (fun k => rFar M.2 k (M.1 1)) (nI uu) f g na ru 8 i).2) (fun x_ => kB D cA (va_A (wM cA am r M) sz) (wM cA am r x_)) (va_A (wM cA am r M) sz)) 0 0 (va_A (wM cA am r M) sz) := by
  refine Met.ofW (cc := cX6_ask) (maxL := 6) (ret := (some .int)) (by decide) rfl ?_
  intro p e s m args below meth c s₁ B hml hv
  obtain ⟨rfl, hsz, hP, hK, hD0, hTB⟩ := hv
  have hx := B.exec
  have hb := B.bytes
  have hr := B.returns
  have hts := atoms_spec (ws := Cond.code yX6_ask cX6_ask 6 (some .int) :: TT) B.pre
  have htT : ∀ w ∈ TT, w.before _ s = true := fun w h => hts w (List.mem_cons_of_mem _ h)
  have hown : s.vm.findClass RX6 = some m.cls := findClass_of_methodNamed B.named
  have hlocks := B.notSynchronized
  subst hsz
  have hD := hD0.self (sz := s.heap.size)
  generalize hAe : va_A (wM cA am r M) s.heap.size = A at hD ⊢
  have hA : ∀ q : Nat, s.heap.size ≤ q → A q := fun q h => by rw [← hAe]; exact Or.inr h
  have hS : va_S A s.heap s.heap [] := va_S.rf
  have hl := lv_entry ([.ref am, .int (nI i), .int (nI uu), .int f, .int g]) (n := 6) (Nat.le_of_ble_eq_true rfl)
  rw [lg_entry_eq]
  generalize (lg_sl ([.ref am, .int (nI i), .int (nI uu), .int f, .int g]) ++ List.replicate (6 - (lg_sl ([.ref am, .int (nI i), .int (nI uu), .int f, .int g])).length) Slot.unset).toArray = ls at hl ⊢
  have hl : lv_has ls 6 [(0, .ref am), (1, .int (nI i)), (2, .int (nI uu)), (3, .int f), (4, .int g)] := hl
  have hsw1 := kIn_sw hi hn8 h3
  refine lv_aload_n hx hb dX6_ask_0 rfl (lv_at hl 0 rfl) ?_
  refine lv_iload_n hx hb dX6_ask_1 rfl (lv_at hl 1 rfl) ?_
  refine lv_iload_n hx hb dX6_ask_2 rfl (lv_at hl 2 rfl) ?_
  refine lv_iload_n hx hb dX6_ask_3 rfl (lv_at hl 3 rfl) ?_
  refine lv_iload hx hb dX6_ask_4 (lv_at hl 4 rfl) ?_
  refine kc_i (va_runV (As := [.int (nI i), .int (nI uu), .int f, .int g]) (rest := []) ⟨hx, hb, hml, hown, htT⟩ (m_isAsked_1 l D cA _ am r M n i hi hn8 h3 (nI uu) f g) (cwV 4 htT (kg_V m_ml_X6_175 m_im_X6_isAsked m_sl_X6_isAsked m_in_X6 m_cd_X6_isAsked) rfl rfl rfl (by decide +kernel) ⟨Nat.le_of_ble_eq_true rfl, Nat.le_of_ble_eq_true rfl⟩) (kp_V hK hP hD hTB (km_rc hK hP)) rfl rfl hl.1 rfl (lv_room (Nat.le_of_ble_eq_true rfl)) dX6_ask_6 ⟨Nat.le_of_ble_eq_true rfl, Nat.le_of_ble_eq_true rfl⟩) hD hS hA (fun r_1 x_1 H locs hq_1 hP hD hS => ?_)
  rw [hq_1.1.trans hq]
  rw [hq_1.2] at hP hD
  rw [if_neg (show ¬ qAsk (nI uu) f g = 0 by rw [hq]; decide)] at hP hD
  refine lv_if_ne (tgt := 14) hx hb dX6_ask_9 (by decide) (fun _ => ?_) (fun c_2 => absurd c_2 (by decide))
  refine lv_aload_n hx hb dX6_ask_14 rfl (lv_at hl 0 rfl) ?_
  refine lv_iload_n hx hb dX6_ask_15 rfl (lv_at hl 1 rfl) ?_
  refine lv_iload_n hx hb dX6_ask_16 rfl (lv_at hl 2 rfl) ?_
  refine lv_iload_n hx hb dX6_ask_17 rfl (lv_at hl 3 rfl) ?_
  refine lv_iload hx hb dX6_ask_18 (lv_at hl 4 rfl) ?_
  refine kc_i (va_runV (As := [.int (nI i), .int (nI uu), .int f, .int g]) (rest := []) ⟨hx, hb, hml, hown, htT⟩ (m_PO l D cA am r n na ru 7 _ i (mS M 0 0) uu f g hi (by omega) huu hok) (cwV 4 htT (kg_V m_ml_X6_154 m_im_X6_getsOf m_sl_X6_getsOf m_in_X6 m_cd_X6_getsOf) rfl rfl rfl (by decide +kernel) ⟨Nat.le_of_ble_eq_true rfl, Nat.le_of_ble_eq_true rfl⟩) (kp_V hK hP hD hTB (km_rc hK hP)) rfl rfl hl.1 rfl (lv_room (Nat.le_of_ble_eq_true rfl)) dX6_ask_20 ⟨Nat.le_of_ble_eq_true rfl, Nat.le_of_ble_eq_true rfl⟩) hD hS hA (fun r_3 x_3 H locs hq_3 hP hD hS => ?_)
  rw [hq_3.1]
  rw [hq_3.2] at hP hD
  refine lv_istore (lv' := [(5, .int ((rG M.2 (M.1 2) (M.2 11) (fun k => rFar M.2 k (M.1 1)) (nI uu) f g na ru 8 i).1)), (0, .ref am), (1, .int (nI i)), (2, .int (nI uu)), (3, .int f), (4, .int g)]) hx hb dX6_ask_23 hl (by decide) rfl (fun ls hl => ?_)
  refine lv_aload_n hx hb dX6_ask_25 rfl (lv_at hl 1 rfl) ?_
  refine km_getiv (x := (rG M.2 (M.1 2) (M.2 11) (fun k => rFar M.2 k (M.1 1)) (nI uu) f g na ru 8 i).2) hx hb htT hown hK hP 28 (by decide) rfl (htT _ m_fl_X6_165) rfl dX6_ask_26 ?_
  refine lv_bipush (v := 8) hx hb dX6_ask_29 (by decide) ?_
  refine lv_icmp_ne (tgt := 91) hx hb dX6_ask_31 (by decide) (fun c_4 => ?_) (fun c_4 => ?_)
  · refine lv_iload hx hb dX6_ask_91 (lv_at hl 0 rfl) ?_
    exact W.iret (v := (rG M.2 (M.1 2) (M.2 11) (fun k => rFar M.2 k (M.1 1)) (nI uu) f g na ru 8 i).1) hx hb hr (fun t ht hW => ⟨⟨(rG M.2 (M.1 2) (M.2 11) (fun k => rFar M.2 k (M.1 1)) (nI uu) f g na ru 8 i).1, mS (mS M 0 0) 28 (rG M.2 (M.1 2) (M.2 11) (fun k => rFar M.2 k (M.1 1)) (nI uu) f g na ru 8 i).2, rfl, ⟨rfl, rfl⟩, by rw [ht]; exact hP, va_K.moved hW.alike hK, hD⟩, hS.F ht⟩) hS.2.2 dX6_ask_93
  · refine lv_aload_n hx hb dX6_ask_34 rfl (lv_at hl 1 rfl) ?_
    refine km_getiv (x := nI na) hx hb htT hown hK hP 22 (by decide) rfl (htT _ m_fl_X6_151) h22 dX6_ask_35 ?_
    refine lv_bipush (v := 100) hx hb dX6_ask_38 (by decide) ?_
    refine lv_icmp_ge (tgt := 91) hx hb dX6_ask_40 (by decide) (fun c_5 => ?_) (fun c_5 => ?_)
    · replace c_5 := (nI_leI (a := 100) (b := na) (by omega) (by omega)).mp c_5
      refine lv_iload hx hb dX6_ask_91 (lv_at hl 0 rfl) ?_
      exact W.iret (v := (rG M.2 (M.1 2) (M.2 11) (fun k => rFar M.2 k (M.1 1)) (nI uu) f g na ru 8 i).1) hx hb hr (fun t ht hW => ⟨⟨(rG M.2 (M.1 2) (M.2 11) (fun k => rFar M.2 k (M.1 1)) (nI uu) f g na ru 8 i).1, mS (mS M 0 0) 28 (rG M.2 (M.1 2) (M.2 11) (fun k => rFar M.2 k (M.1 1)) (nI uu) f g na ru 8 i).2, rfl, ⟨rfl, rfl⟩, by rw [ht]; exact hP, va_K.moved hW.alike hK, hD⟩, hS.F ht⟩) hS.2.2 dX6_ask_93
    · replace c_5 : ¬ (100 ≤ na) := fun h9 => c_5 ((nI_leI (a := 100) (b := na) (by omega) (by omega)).mpr h9)
      refine lv_aload_n hx hb dX6_ask_43 rfl (lv_at hl 1 rfl) ?_
      refine lv_iload_n hx hb dX6_ask_44 rfl (lv_at hl 2 rfl) ?_
      refine lv_iload_n hx hb dX6_ask_45 rfl (lv_at hl 3 rfl) ?_
      refine kc_i (va_runV (As := [.int (nI i), .int (nI uu)]) (rest := []) ⟨hx, hb, hml, hown, htT⟩ (m_armAt l D cA _ am r (mS (mS M 0 0) 28 (rG M.2 (M.1 2) (M.2 11) (fun k => rFar M.2 k (M.1 1)) (nI uu) f g na ru 8 i).2) na hok.1 h22 (nI i) (nI uu)) (cwV 2 htT (kg_V m_ml_X6_158 m_im_X6_armAt m_sl_X6_armAt m_in_X6 m_cd_X6_armAt) rfl rfl rfl (by decide +kernel) ⟨Nat.le_of_ble_eq_true rfl, Nat.le_of_ble_eq_true rfl⟩) (kp_V hK hP hD hTB (km_rc hK hP)) rfl rfl hl.1 rfl (lv_room (Nat.le_of_ble_eq_true rfl)) dX6_ask_46 ⟨Nat.le_of_ble_eq_true rfl, Nat.le_of_ble_eq_true rfl⟩) hD hS hA (fun r_6 x_6 H locs hq_6 hP hD hS => ?_)
      rw [hq_6.1]
      rw [hq_6.2] at hP hD
      refine lv_iconst (v := (-1)) hx hb dX6_ask_49 (by decide) ?_
      refine lv_icmp_ne (tgt := 91) hx hb dX6_ask_50 (by decide) (fun c_7 => ?_) (fun c_7 => ?_)
      · refine lv_iload hx hb dX6_ask_91 (lv_at hl 0 rfl) ?_
        exact W.iret (v := (rG M.2 (M.1 2) (M.2 11) (fun k => rFar M.2 k (M.1 1)) (nI uu) f g na ru 8 i).1) hx hb hr (fun t ht hW => ⟨⟨(rG M.2 (M.1 2) (M.2 11) (fun k => rFar M.2 k (M.1 1)) (nI uu) f g na ru 8 i).1, mS (mS M 0 0) 28 (rG M.2 (M.1 2) (M.2 11) (fun k => rFar M.2 k (M.1 1)) (nI uu) f g na ru 8 i).2, rfl, ⟨rfl, rfl⟩, by rw [ht]; exact hP, va_K.moved hW.alike hK, hD⟩, hS.F ht⟩) hS.2.2 dX6_ask_93
      · exact absurd ⟨c_4, by omega, c_7⟩ hno

set_option maxRecDepth 100000 in
set_option maxHeartbeats 4000000 in
theorem m_ask_yes (l : Launch) (D : va_G) (cA : Nat → ClassId) (sz : Nat) (am : Nat) (r : Nat → Nat) (M : MSt) (n i : Nat) (hi : i < n) (hn8 : n ≤ 8) (h3 : M.1 3 = nI n) (na : Nat) (ru : Nat → Nat) (hok : okG M n na ru) (uu : Nat) (f g : Int32) (huu : uu ≤ 9999) (hq : qAsk (nI uu) f g = 1) (hna : na ≤ 100) (h22 : M.1 22 = nI na) (h8 : (rG M.2 (M.1 2) (M.2 11) (fun k => rFar M.2 k (M.1 1)) (nI uu) f g na ru 8 i).2 = 8) (hlt : na < 100) (hno : rArm M.2 (nI i) (nI uu) na 0 = -1) : Met l yX6_ask (Cond.code yX6_ask cX6_ask 6 (some .int) :: TT) ({ frames := 18, cells := 0, slots := 0, locals := 964 }) (va_Pc [.ref am, .int (nI i), .int (nI uu), .int f, .int g] (kPre D cA (wM cA am r M) sz)) (va_Qi (fun (r_ : Int32) (x_ : MSt) => r_ = (rG M.2 (M.1 2) (M.2 11) (fun k => rFar M.2 k (M.1 1)) (nI uu) f g na ru 8 i).1 ∧ x_ = mR (mS (mR (mR (mS (mS M 0 0) 28 (rG M.2 (M.1 2) (M.2 11) (fun k => rFar M.2 k (M.1 1)) (nI uu) f g na ru 8 i).2) 23 na (nI i)) 24 na (nI uu)) 22 (nI (na + 1))) 25 na (rG M.2 (M.1 2) (M.2 11) (fun k => rFar M.2 k (M.1 1)) (nI uu) f g na ru 8 i).1) (fun x_ => kB D cA (va_A (wM cA am r M) sz) (wM cA am r x_)) (va_A (wM cA am r M) sz)) 0 0 (va_A (wM cA am r M) sz) := by
  refine Met.ofW (cc := cX6_ask) (maxL := 6) (ret := (some .int)) (by decide) rfl ?_
  intro p e s m args below meth c s₁ B hml hv
  obtain ⟨rfl, hsz, hP, hK, hD0, hTB⟩ := hv
  have hx := B.exec
  have hb := B.bytes
  have hr := B.returns
  have hts := atoms_spec (ws := Cond.code yX6_ask cX6_ask 6 (some .int) :: TT) B.pre
  have htT : ∀ w ∈ TT, w.before _ s = true := fun w h => hts w (List.mem_cons_of_mem _ h)
  have hown : s.vm.findClass RX6 = some m.cls := findClass_of_methodNamed B.named
  have hlocks := B.notSynchronized
  subst hsz
  have hD := hD0.self (sz := s.heap.size)
  generalize hAe : va_A (wM cA am r M) s.heap.size = A at hD ⊢
  have hA : ∀ q : Nat, s.heap.size ≤ q → A q := fun q h => by rw [← hAe]; exact Or.inr h
  have hS : va_S A s.heap s.heap [] := va_S.rf
  have hl := lv_entry ([.ref am, .int (nI i), .int (nI uu), .int f, .int g]) (n := 6) (Nat.le_of_ble_eq_true rfl)
  rw [lg_entry_eq]
  generalize (lg_sl ([.ref am, .int (nI i), .int (nI uu), .int f, .int g]) ++ List.replicate (6 - (lg_sl ([.ref am, .int (nI i), .int (nI uu), .int f, .int g])).length) Slot.unset).toArray = ls at hl ⊢
  have hl : lv_has ls 6 [(0, .ref am), (1, .int (nI i)), (2, .int (nI uu)), (3, .int f), (4, .int g)] := hl
  have hsw1 := kIn_sw hi hn8 h3
  refine lv_aload_n hx hb dX6_ask_0 rfl (lv_at hl 0 rfl) ?_
  refine lv_iload_n hx hb dX6_ask_1 rfl (lv_at hl 1 rfl) ?_
  refine lv_iload_n hx hb dX6_ask_2 rfl (lv_at hl 2 rfl) ?_
  refine lv_iload_n hx hb dX6_ask_3 rfl (lv_at hl 3 rfl) ?_
  refine lv_iload hx hb dX6_ask_4 (lv_at hl 4 rfl) ?_
  refine kc_i (va_runV (As := [.int (nI i), .int (nI uu), .int f, .int g]) (rest := []) ⟨hx, hb, hml, hown, htT⟩ (m_isAsked_1 l D cA _ am r M n i hi hn8 h3 (nI uu) f g) (cwV 4 htT (kg_V m_ml_X6_175 m_im_X6_isAsked m_sl_X6_isAsked m_in_X6 m_cd_X6_isAsked) rfl rfl rfl (by decide +kernel) ⟨Nat.le_of_ble_eq_true rfl, Nat.le_of_ble_eq_true rfl⟩) (kp_V hK hP hD hTB (km_rc hK hP)) rfl rfl hl.1 rfl (lv_room (Nat.le_of_ble_eq_true rfl)) dX6_ask_6 ⟨Nat.le_of_ble_eq_true rfl, Nat.le_of_ble_eq_true rfl⟩) hD hS hA (fun r_1 x_1 H locs hq_1 hP hD hS => ?_)
  rw [hq_1.1.trans hq]
  rw [hq_1.2] at hP hD
  rw [if_neg (show ¬ qAsk (nI uu) f g = 0 by rw [hq]; decide)] at hP hD
  refine lv_if_ne (tgt := 14) hx hb dX6_ask_9 (by decide) (fun _ => ?_) (fun c_2 => absurd c_2 (by decide))
  refine lv_aload_n hx hb dX6_ask_14 rfl (lv_at hl 0 rfl) ?_
  refine lv_iload_n hx hb dX6_ask_15 rfl (lv_at hl 1 rfl) ?_
  refine lv_iload_n hx hb dX6_ask_16 rfl (lv_at hl 2 rfl) ?_
  refine lv_iload_n hx hb dX6_ask_17 rfl (lv_at hl 3 rfl) ?_
  refine lv_iload hx hb dX6_ask_18 (lv_at hl 4 rfl) ?_
  refine kc_i (va_runV (As := [.int (nI i), .int (nI uu), .int f, .int g]) (rest := []) ⟨hx, hb, hml, hown, htT⟩ (m_PO l D cA am r n na ru 7 _ i (mS M 0 0) uu f g hi (by omega) huu hok) (cwV 4 htT (kg_V m_ml_X6_154 m_im_X6_getsOf m_sl_X6_getsOf m_in_X6 m_cd_X6_getsOf) rfl rfl rfl (by decide +kernel) ⟨Nat.le_of_ble_eq_true rfl, Nat.le_of_ble_eq_true rfl⟩) (kp_V hK hP hD hTB (km_rc hK hP)) rfl rfl hl.1 rfl (lv_room (Nat.le_of_ble_eq_true rfl)) dX6_ask_20 ⟨Nat.le_of_ble_eq_true rfl, Nat.le_of_ble_eq_true rfl⟩) hD hS hA (fun r_3 x_3 H locs hq_3 hP hD hS => ?_)
  rw [hq_3.1]
  rw [hq_3.2] at hP hD
  refine lv_istore (lv' := [(5, .int ((rG M.2 (M.1 2) (M.2 11) (fun k => rFar M.2 k (M.1 1)) (nI uu) f g na ru 8 i).1)), (0, .ref am), (1, .int (nI i)), (2, .int (nI uu)), (3, .int f), (4, .int g)]) hx hb dX6_ask_23 hl (by decide) rfl (fun ls hl => ?_)
  refine lv_aload_n hx hb dX6_ask_25 rfl (lv_at hl 1 rfl) ?_
  refine km_getiv (x := 8) hx hb htT hown hK hP 28 (by decide) rfl (htT _ m_fl_X6_165) h8 dX6_ask_26 ?_
  refine lv_bipush (v := 8) hx hb dX6_ask_29 (by decide) ?_
  refine lv_icmp_ne (tgt := 91) hx hb dX6_ask_31 (by decide) (fun c_4 => absurd c_4 (by decide)) (fun _ => ?_)
  refine lv_aload_n hx hb dX6_ask_34 rfl (lv_at hl 1 rfl) ?_
  refine km_getiv (x := nI na) hx hb htT hown hK hP 22 (by decide) rfl (htT _ m_fl_X6_151) h22 dX6_ask_35 ?_
  refine lv_bipush (v := 100) hx hb dX6_ask_38 (by decide) ?_
  refine lv_icmp_ge (tgt := 91) hx hb dX6_ask_40 (by decide) (fun c_5 => ?_) (fun c_5 => ?_)
  · exact absurd ((nI_leI (a := 100) (b := na) (by omega) (by omega)).mp c_5) (by omega)
  · replace c_5 : ¬ (100 ≤ na) := fun h9 => c_5 ((nI_leI (a := 100) (b := na) (by omega) (by omega)).mpr h9)
    refine lv_aload_n hx hb dX6_ask_43 rfl (lv_at hl 1 rfl) ?_
    refine lv_iload_n hx hb dX6_ask_44 rfl (lv_at hl 2 rfl) ?_
    refine lv_iload_n hx hb dX6_ask_45 rfl (lv_at hl 3 rfl) ?_
    refine kc_i (va_runV (As := [.int (nI i), .int (nI uu)]) (rest := []) ⟨hx, hb, hml, hown, htT⟩ (m_armAt l D cA _ am r (mS (mS M 0 0) 28 (rG M.2 (M.1 2) (M.2 11) (fun k => rFar M.2 k (M.1 1)) (nI uu) f g na ru 8 i).2) na hok.1 h22 (nI i) (nI uu)) (cwV 2 htT (kg_V m_ml_X6_158 m_im_X6_armAt m_sl_X6_armAt m_in_X6 m_cd_X6_armAt) rfl rfl rfl (by decide +kernel) ⟨Nat.le_of_ble_eq_true rfl, Nat.le_of_ble_eq_true rfl⟩) (kp_V hK hP hD hTB (km_rc hK hP)) rfl rfl hl.1 rfl (lv_room (Nat.le_of_ble_eq_true rfl)) dX6_ask_46 ⟨Nat.le_of_ble_eq_true rfl, Nat.le_of_ble_eq_true rfl⟩) hD hS hA (fun r_6 x_6 H locs hq_6 hP hD hS => ?_)
    rw [hq_6.1.trans hno]
    rw [hq_6.2] at hP hD
    refine lv_iconst (v := (-1)) hx hb dX6_ask_49 (by decide) ?_
    refine lv_icmp_ne (tgt := 91) hx hb dX6_ask_50 (by decide) (fun c_7 => absurd c_7 (by decide)) (fun _ => ?_)
    refine lv_aload_n hx hb dX6_ask_53 rfl (lv_at hl 1 rfl) ?_
    refine km_getr hx hb htT hown hK hP 23 (by decide) rfl (htT _ m_fl_X6_65) dX6_ask_54 ?_
    refine lv_aload_n hx hb dX6_ask_57 rfl (lv_at hl 1 rfl) ?_
    refine km_getiv (x := nI na) hx hb htT hown hK hP 22 (by decide) rfl (htT _ m_fl_X6_151) h22 dX6_ask_58 ?_
    refine lv_iload_n hx hb dX6_ask_61 rfl (lv_at hl 2 rfl) ?_
    refine km_iast hx hb hK hP hD hS 23 rfl rfl (show vp_in (nI (na)) 100 from ki_in (by omega) (by decide)) dX6_ask_62 (fun H locs hP hD hS => ?_)
    rw [ki_cl (n := na) (by omega)] at hP hD
    refine lv_aload_n hx hb dX6_ask_63 rfl (lv_at hl 1 rfl) ?_
    refine km_getr hx hb htT hown hK hP 24 (by decide) rfl (htT _ m_fl_X6_68) dX6_ask_64 ?_
    refine lv_aload_n hx hb dX6_ask_67 rfl (lv_at hl 1 rfl) ?_
    refine km_getiv (x := nI na) hx hb htT hown hK hP 22 (by decide) rfl (htT _ m_fl_X6_151) h22 dX6_ask_68 ?_
    refine lv_iload_n hx hb dX6_ask_71 rfl (lv_at hl 3 rfl) ?_
    refine km_iast hx hb hK hP hD hS 24 rfl rfl (show vp_in (nI (na)) 100 from ki_in (by omega) (by decide)) dX6_ask_72 (fun H locs hP hD hS => ?_)
    rw [ki_cl (n := na) (by omega)] at hP hD
    refine lv_aload_n hx hb dX6_ask_73 rfl (lv_at hl 1 rfl) ?_
    refine km_getr hx hb htT hown hK hP 25 (by decide) rfl (htT _ m_fl_X6_71) dX6_ask_74 ?_
    refine lv_aload_n hx hb dX6_ask_77 rfl (lv_at hl 1 rfl) ?_
    refine lv_dup hx hb dX6_ask_78 rfl ?_
    refine km_getiv (x := nI na) hx hb htT hown hK hP 22 (by decide) rfl (htT _ m_fl_X6_151) h22 dX6_ask_79 ?_
    refine lv_dup_x1 hx hb dX6_ask_82 rfl rfl ?_
    refine lv_iconst (v := 1) hx hb dX6_ask_83 (by decide) ?_
    refine lv_iadd hx hb dX6_ask_84 ?_
    rw [show ((nI na) + 1 : Int32) = nI (na + 1) from nI_add na 1]
    refine km_puti hx hb htT hown hK hP hD hS 22 (by decide) rfl (htT _ m_fl_X6_151) rfl (by decide +kernel) dX6_ask_85 (fun H locs hP hD hS => ?_)
    refine lv_iload hx hb dX6_ask_88 (lv_at hl 0 rfl) ?_
    refine km_iast hx hb hK hP hD hS 25 rfl rfl (show vp_in (nI (na)) 100 from ki_in (by omega) (by decide)) dX6_ask_90 (fun H locs hP hD hS => ?_)
    rw [ki_cl (n := na) (by omega)] at hP hD
    refine lv_iload hx hb dX6_ask_91 (lv_at hl 0 rfl) ?_
    exact W.iret (v := (rG M.2 (M.1 2) (M.2 11) (fun k => rFar M.2 k (M.1 1)) (nI uu) f g na ru 8 i).1) hx hb hr (fun t ht hW => ⟨⟨(rG M.2 (M.1 2) (M.2 11) (fun k => rFar M.2 k (M.1 1)) (nI uu) f g na ru 8 i).1, mR (mS (mR (mR (mS (mS M 0 0) 28 (rG M.2 (M.1 2) (M.2 11) (fun k => rFar M.2 k (M.1 1)) (nI uu) f g na ru 8 i).2) 23 na (nI i)) 24 na (nI uu)) 22 (nI (na + 1))) 25 na ((rG M.2 (M.1 2) (M.2 11) (fun k => rFar M.2 k (M.1 1)) (nI uu) f g na ru 8 i).1), rfl, ⟨rfl, rfl⟩, by rw [ht]; exact hP, va_K.moved hW.alike hK, hD⟩, hS.F ht⟩) hS.2.2 dX6_ask_93

set_option maxRecDepth 100000 in
set_option maxHeartbeats 4000000 in
/-- is a counted user split -/
theorem m_isSplit (l : Launch) (D : va_G) (cA : Nat → ClassId) (sz : Nat) (am : Nat) (r : Nat → Nat) (M : MSt) (n na : Nat) (ru : Nat → Nat) (hok : okG M n na ru) (i : Nat) (hi : i < n) (uu : Nat) (huu : uu ≤ 9999) : Met l yX6_isSplit (Cond.code yX6_isSplit cX6_isSplit 3 (some .boolean) :: TT) ({ frames := 19, cells := 0, slots := 0, locals := 986 }) (va_Pc [.ref am, .int (nI i), .int (nI uu)] (kPre D cA (wM cA am r M) sz)) (va_Qi (fun (r_ : Int32) (x_ : MSt) => r_ = (if (rBy M na ru i uu).2 = 8 then 1 else 0) ∧ x_ = mS M 28 (rBy M na ru i uu).2) (fun x_ => kB D cA (va_A (wM cA am r M) sz) (wM cA am r x_)) (va_A (wM cA am r M) sz)) 0 0 (va_A (wM cA am r M) sz) := by
  refine Met.ofW (cc := cX6_isSplit) (maxL := 3) (ret := (some .boolean)) (by decide) rfl ?_
  intro p e s m args below meth c s₁ B hml hv
  obtain ⟨rfl, hsz, hP, hK, hD0, hTB⟩ := hv
  have hx := B.exec
  have hb := B.bytes
  have hr := B.returns
  have hts := atoms_spec (ws := Cond.code yX6_isSplit cX6_isSplit 3 (some .boolean) :: TT) B.pre
  have htT : ∀ w ∈ TT, w.before _ s = true := fun w h => hts w (List.mem_cons_of_mem _ h)
  have hown : s.vm.findClass RX6 = some m.cls := findClass_of_methodNamed B.named
  have hlocks := B.notSynchronized
  subst hsz
  have hD := hD0.self (sz := s.heap.size)
  generalize hAe : va_A (wM cA am r M) s.heap.size = A at hD ⊢
  have hA : ∀ q : Nat, s.heap.size ≤ q → A q := fun q h => by rw [← hAe]; exact Or.inr h
  have hS : va_S A s.heap s.heap [] := va_S.rf
  have hl := lv_entry ([.ref am, .int (nI i), .int (nI uu)]) (n := 3) (Nat.le_of_ble_eq_true rfl)
  rw [lg_entry_eq]
  generalize (lg_sl ([.ref am, .int (nI i), .int (nI uu)]) ++ List.replicate (3 - (lg_sl ([.ref am, .int (nI i), .int (nI uu)])).length) Slot.unset).toArray = ls at hl ⊢
  have hl : lv_has ls 3 [(0, .ref am), (1, .int (nI i)), (2, .int (nI uu))] := hl
  refine lv_aload_n hx hb dX6_isSplit_0 rfl (lv_at hl 0 rfl) ?_
  refine lv_iload_n hx hb dX6_isSplit_1 rfl (lv_at hl 1 rfl) ?_
  refine lv_iload_n hx hb dX6_isSplit_2 rfl (lv_at hl 2 rfl) ?_
  refine kc_i (va_runV (As := [.int (nI i), .int (nI uu)]) (rest := []) ⟨hx, hb, hml, hown, htT⟩ (m_getsBy l D cA _ am r M n na ru hok i hi uu huu) (cwV 2 htT (kg_V m_ml_X6_203 m_im_X6_getsBy m_sl_X6_getsBy m_in_X6 m_cd_X6_getsBy) rfl rfl rfl (by decide +kernel) ⟨Nat.le_of_ble_eq_true rfl, Nat.le_of_ble_eq_true rfl⟩) (kp_V hK hP hD hTB (km_rc hK hP)) rfl rfl hl.1 rfl (lv_room (Nat.le_of_ble_eq_true rfl)) dX6_isSplit_3 ⟨Nat.le_of_ble_eq_true rfl, Nat.le_of_ble_eq_true rfl⟩) hD hS hA (fun r_1 x_1 H locs hq_1 hP hD hS => ?_)
  rw [hq_1.1]
  rw [hq_1.2] at hP hD
  refine lv_pop hx hb dX6_isSplit_6 rfl ?_
  refine lv_aload_n hx hb dX6_isSplit_7 rfl (lv_at hl 0 rfl) ?_
  refine km_getiv (x := (rBy M na ru i uu).2) hx hb htT hown hK hP 28 (by decide) rfl (htT _ m_fl_X6_165) rfl dX6_isSplit_8 ?_
  refine lv_bipush (v := 8) hx hb dX6_isSplit_11 (by decide) ?_
  refine lv_icmp_ne (tgt := 20) hx hb dX6_isSplit_13 (by decide) (fun c_2 => ?_) (fun c_2 => ?_)
  · refine lv_iconst (v := 0) hx hb dX6_isSplit_20 (by decide) ?_
    exact W.zret (v := 0) hx hb hr (rfl) (fun t ht hW => ⟨⟨0, mS M 28 (rBy M na ru i uu).2, rfl, ⟨by simp [c_2], rfl⟩, by rw [ht]; exact hP, va_K.moved hW.alike hK, hD⟩, hS.F ht⟩) hS.2.2 dX6_isSplit_21
  · refine lv_iconst (v := 1) hx hb dX6_isSplit_16 (by decide) ?_
    refine lv_goto (tgt := 21) hx hb dX6_isSplit_17 (by decide) ?_
    exact W.zret (v := 1) hx hb hr (rfl) (fun t ht hW => ⟨⟨1, mS M 28 (rBy M na ru i uu).2, rfl, ⟨by simp [c_2], rfl⟩, by rw [ht]; exact hP, va_K.moved hW.alike hK, hD⟩, hS.F ht⟩) hS.2.2 dX6_isSplit_21

set_option maxRecDepth 100000 in
set_option maxHeartbeats 4000000 in
theorem m_need_o (l : Launch) (D : va_G) (cA : Nat → ClassId) (sz : Nat) (am : Nat) (r : Nat → Nat) (M : MSt) (n i : Nat) (hi : i < n) (hn8 : n ≤ 8) (h3 : M.1 3 = nI n) (p1 p2 : Int32) (ho : ¬ p1 = -1) (hsw : kIn p1 0 (M.1 3 - 1) = 0) : Met l yX6_need (Cond.code yX6_need cX6_need 5 (some .int) :: TT) ({ frames := 3, cells := 0, slots := 0, locals := 65 }) (va_Pc [.ref am, .int (nI i), .int p1, .int p2] (kPre D cA (wM cA am r M) sz)) (va_Qi (fun (r_ : Int32) (x_ : MSt) => r_ = 0 ∧ x_ = mS (mS M 0 0) 0 1) (fun x_ => kB D cA (va_A (wM cA am r M) sz) (wM cA am r x_)) (va_A (wM cA am r M) sz)) 0 0 (va_A (wM cA am r M) sz) := by
  refine Met.ofW (cc := cX6_need) (maxL := 5) (ret := (some .int)) (by decide) rfl ?_
  intro p e s m args below meth c s₁ B hml hv
  obtain ⟨rfl, hsz, hP, hK, hD0, hTB⟩ := hv
  have hx := B.exec
  have hb := B.bytes
  have hr := B.returns
  have hts := atoms_spec (ws := Cond.code yX6_need cX6_need 5 (some .int) :: TT) B.pre
  have htT : ∀ w ∈ TT, w.before _ s = true := fun w h => hts w (List.mem_cons_of_mem _ h)
  have hown : s.vm.findClass RX6 = some m.cls := findClass_of_methodNamed B.named
  have hlocks := B.notSynchronized
  subst hsz
  have hD := hD0.self (sz := s.heap.size)
  generalize hAe : va_A (wM cA am r M) s.heap.size = A at hD ⊢
  have hA : ∀ q : Nat, s.heap.size ≤ q → A q := fun q h => by rw [← hAe]; exact Or.inr h
  have hS : va_S A s.heap s.heap [] := va_S.rf
  have hl := lv_entry ([.ref am, .int (nI i), .int p1, .int p2]) (n := 5) (Nat.le_of_ble_eq_true rfl)
  rw [lg_entry_eq]
  generalize (lg_sl ([.ref am, .int (nI i), .int p1, .int p2]) ++ List.replicate (5 - (lg_sl ([.ref am, .int (nI i), .int p1, .int p2])).length) Slot.unset).toArray = ls at hl ⊢
  have hl : lv_has ls 5 [(0, .ref am), (1, .int (nI i)), (2, .int p1), (3, .int p2)] := hl
  have hsw1 := kIn_sw hi hn8 h3
  refine lv_aload_n hx hb dX6_need_0 rfl (lv_at hl 0 rfl) ?_
  refine lv_iconst (v := 0) hx hb dX6_need_1 (by decide) ?_
  refine km_puti hx hb htT hown hK hP hD hS 0 (by decide) rfl (htT _ m_fl_X6_80) rfl (by decide +kernel) dX6_need_2 (fun H locs hP hD hS => ?_)
  refine lv_aload_n hx hb dX6_need_5 rfl (lv_at hl 0 rfl) ?_
  refine lv_iload_n hx hb dX6_need_6 rfl (lv_at hl 1 rfl) ?_
  refine kc_i (va_runV (As := [.int (nI i)]) (rest := []) ⟨hx, hb, hml, hown, htT⟩ (m_isSwitch l D cA _ am r (mS M 0 0) (nI i)) (cwV 1 htT (kg_V m_ml_X6_91 m_im_X6_isSwitch m_sl_X6_isSwitch m_in_X6 m_cd_X6_isSwitch) rfl rfl rfl (by decide +kernel) ⟨Nat.le_of_ble_eq_true rfl, Nat.le_of_ble_eq_true rfl⟩) (kp_V hK hP hD hTB (km_rc hK hP)) rfl rfl hl.1 rfl (lv_room (Nat.le_of_ble_eq_true rfl)) dX6_need_7 ⟨Nat.le_of_ble_eq_true rfl, Nat.le_of_ble_eq_true rfl⟩) hD hS hA (fun r_1 x_1 H locs hq_1 hP hD hS => ?_)
  rw [hq_1.1.trans hsw1]
  rw [hq_1.2] at hP hD
  refine lv_if_eq (tgt := 27) hx hb dX6_need_10 (by decide) (fun c_2 => absurd c_2 (by decide)) (fun _ => ?_)
  refine lv_iload_n hx hb dX6_need_13 rfl (lv_at hl 2 rfl) ?_
  refine lv_iconst (v := (-1)) hx hb dX6_need_14 (by decide) ?_
  refine lv_icmp_eq (tgt := 33) hx hb dX6_need_15 (by decide) (fun c_3 => ?_) (fun c_3 => ?_)
  · exact absurd c_3 ho
  · refine lv_aload_n hx hb dX6_need_18 rfl (lv_at hl 0 rfl) ?_
    refine lv_iload_n hx hb dX6_need_19 rfl (lv_at hl 2 rfl) ?_
    refine lv_iload_n hx hb dX6_need_20 rfl (lv_at hl 3 rfl) ?_
    refine kc_i (va_runV (As := [.int p1, .int p2]) (rest := []) ⟨hx, hb, hml, hown, htT⟩ (m_isVariant_0 l D cA _ am r (mS M 0 0) p1 p2 hsw) (cwV 2 htT (kg_V m_ml_X6_102 m_im_X6_isVariant m_sl_X6_isVariant m_in_X6 m_cd_X6_isVariant) rfl rfl rfl (by decide +kernel) ⟨Nat.le_of_ble_eq_true rfl, Nat.le_of_ble_eq_true rfl⟩) (kp_V hK hP hD hTB (km_rc hK hP)) rfl rfl hl.1 rfl (lv_room (Nat.le_of_ble_eq_true rfl)) dX6_need_21 ⟨Nat.le_of_ble_eq_true rfl, Nat.le_of_ble_eq_true rfl⟩) hD hS hA (fun r_4 x_4 H locs hq_4 hP hD hS => ?_)
    rw [hq_4.1]
    rw [hq_4.2] at hP hD
    refine lv_if_ne (tgt := 33) hx hb dX6_need_24 (by decide) (fun c_5 => absurd c_5 (by decide)) (fun _ => ?_)
    refine lv_aload_n hx hb dX6_need_27 rfl (lv_at hl 0 rfl) ?_
    refine lv_iconst (v := 1) hx hb dX6_need_28 (by decide) ?_
    refine kc_i (va_runV (As := [.int 1]) (rest := []) ⟨hx, hb, hml, hown, htT⟩ (m_no l D cA _ am r (mS M 0 0) 1) (cwV 1 htT (kg_V m_ml_X6_95 m_im_X6_no m_sl_X6_no m_in_X6 m_cd_X6_no) rfl rfl rfl (by decide +kernel) ⟨Nat.le_of_ble_eq_true rfl, Nat.le_of_ble_eq_true rfl⟩) (kp_V hK hP hD hTB (km_rc hK hP)) rfl rfl hl.1 rfl (lv_room (Nat.le_of_ble_eq_true rfl)) dX6_need_29 ⟨Nat.le_of_ble_eq_true rfl, Nat.le_of_ble_eq_true rfl⟩) hD hS hA (fun r_6 x_6 H locs hq_6 hP hD hS => ?_)
    rw [hq_6.1]
    rw [hq_6.2] at hP hD
    exact W.iret (v := 0) hx hb hr (fun t ht hW => ⟨⟨0, mS (mS M 0 0) 0 1, rfl, ⟨rfl, rfl⟩, by rw [ht]; exact hP, va_K.moved hW.alike hK, hD⟩, hS.F ht⟩) hS.2.2 dX6_need_32

set_option maxRecDepth 100000 in
set_option maxHeartbeats 4000000 in
theorem m_need_v (l : Launch) (D : va_G) (cA : Nat → ClassId) (sz : Nat) (am : Nat) (r : Nat → Nat) (M : MSt) (n i : Nat) (hi : i < n) (hn8 : n ≤ 8) (h3 : M.1 3 = nI n) (j : Nat) (hj : j < n) (p2 : Int32) (hv : kIn p2 0 (M.2 5 j - 1) = 0) : Met l yX6_need (Cond.code yX6_need cX6_need 5 (some .int) :: TT) ({ frames := 3, cells := 0, slots := 0, locals := 65 }) (va_Pc [.ref am, .int (nI i), .int (nI j), .int p2] (kPre D cA (wM cA am r M) sz)) (va_Qi (fun (r_ : Int32) (x_ : MSt) => r_ = 0 ∧ x_ = mS (mS M 0 0) 0 1) (fun x_ => kB D cA (va_A (wM cA am r M) sz) (wM cA am r x_)) (va_A (wM cA am r M) sz)) 0 0 (va_A (wM cA am r M) sz) := by
  refine Met.ofW (cc := cX6_need) (maxL := 5) (ret := (some .int)) (by decide) rfl ?_
  intro p e s m args below meth c s₁ B hml hv
  obtain ⟨rfl, hsz, hP, hK, hD0, hTB⟩ := hv
  have hx := B.exec
  have hb := B.bytes
  have hr := B.returns
  have hts := atoms_spec (ws := Cond.code yX6_need cX6_need 5 (some .int) :: TT) B.pre
  have htT : ∀ w ∈ TT, w.before _ s = true := fun w h => hts w (List.mem_cons_of_mem _ h)
  have hown : s.vm.findClass RX6 = some m.cls := findClass_of_methodNamed B.named
  have hlocks := B.notSynchronized
  subst hsz
  have hD := hD0.self (sz := s.heap.size)
  generalize hAe : va_A (wM cA am r M) s.heap.size = A at hD ⊢
  have hA : ∀ q : Nat, s.heap.size ≤ q → A q := fun q h => by rw [← hAe]; exact Or.inr h
  have hS : va_S A s.heap s.heap [] := va_S.rf
  have hl := lv_entry ([.ref am, .int (nI i), .int (nI j), .int p2]) (n := 5) (Nat.le_of_ble_eq_true rfl)
  rw [lg_entry_eq]
  generalize (lg_sl ([.ref am, .int (nI i), .int (nI j), .int p2]) ++ List.replicate (5 - (lg_sl ([.ref am, .int (nI i), .int (nI j), .int p2])).length) Slot.unset).toArray = ls at hl ⊢
  have hl : lv_has ls 5 [(0, .ref am), (1, .int (nI i)), (2, .int (nI j)), (3, .int p2)] := hl
  have hsw1 := kIn_sw hi hn8 h3
  refine lv_aload_n hx hb dX6_need_0 rfl (lv_at hl 0 rfl) ?_
  refine lv_iconst (v := 0) hx hb dX6_need_1 (by decide) ?_
  refine km_puti hx hb htT hown hK hP hD hS 0 (by decide) rfl (htT _ m_fl_X6_80) rfl (by decide +kernel) dX6_need_2 (fun H locs hP hD hS => ?_)
  refine lv_aload_n hx hb dX6_need_5 rfl (lv_at hl 0 rfl) ?_
  refine lv_iload_n hx hb dX6_need_6 rfl (lv_at hl 1 rfl) ?_
  refine kc_i (va_runV (As := [.int (nI i)]) (rest := []) ⟨hx, hb, hml, hown, htT⟩ (m_isSwitch l D cA _ am r (mS M 0 0) (nI i)) (cwV 1 htT (kg_V m_ml_X6_91 m_im_X6_isSwitch m_sl_X6_isSwitch m_in_X6 m_cd_X6_isSwitch) rfl rfl rfl (by decide +kernel) ⟨Nat.le_of_ble_eq_true rfl, Nat.le_of_ble_eq_true rfl⟩) (kp_V hK hP hD hTB (km_rc hK hP)) rfl rfl hl.1 rfl (lv_room (Nat.le_of_ble_eq_true rfl)) dX6_need_7 ⟨Nat.le_of_ble_eq_true rfl, Nat.le_of_ble_eq_true rfl⟩) hD hS hA (fun r_1 x_1 H locs hq_1 hP hD hS => ?_)
  rw [hq_1.1.trans hsw1]
  rw [hq_1.2] at hP hD
  refine lv_if_eq (tgt := 27) hx hb dX6_need_10 (by decide) (fun c_2 => absurd c_2 (by decide)) (fun _ => ?_)
  refine lv_iload_n hx hb dX6_need_13 rfl (lv_at hl 2 rfl) ?_
  refine lv_iconst (v := (-1)) hx hb dX6_need_14 (by decide) ?_
  refine lv_icmp_eq (tgt := 33) hx hb dX6_need_15 (by decide) (fun c_3 => ?_) (fun c_3 => ?_)
  · exact absurd c_3 (nI_m1 (by omega))
  · refine lv_aload_n hx hb dX6_need_18 rfl (lv_at hl 0 rfl) ?_
    refine lv_iload_n hx hb dX6_need_19 rfl (lv_at hl 2 rfl) ?_
    refine lv_iload_n hx hb dX6_need_20 rfl (lv_at hl 3 rfl) ?_
    refine kc_i (va_runV (As := [.int (nI j), .int p2]) (rest := []) ⟨hx, hb, hml, hown, htT⟩ (m_isVariant_1 l D cA _ am r (mS M 0 0) n j hj hn8 h3 p2) (cwV 2 htT (kg_V m_ml_X6_102 m_im_X6_isVariant m_sl_X6_isVariant m_in_X6 m_cd_X6_isVariant) rfl rfl rfl (by decide +kernel) ⟨Nat.le_of_ble_eq_true rfl, Nat.le_of_ble_eq_true rfl⟩) (kp_V hK hP hD hTB (km_rc hK hP)) rfl rfl hl.1 rfl (lv_room (Nat.le_of_ble_eq_true rfl)) dX6_need_21 ⟨Nat.le_of_ble_eq_true rfl, Nat.le_of_ble_eq_true rfl⟩) hD hS hA (fun r_4 x_4 H locs hq_4 hP hD hS => ?_)
    rw [hq_4.1.trans hv]
    rw [hq_4.2] at hP hD
    refine lv_if_ne (tgt := 33) hx hb dX6_need_24 (by decide) (fun c_5 => absurd c_5 (by decide)) (fun _ => ?_)
    refine lv_aload_n hx hb dX6_need_27 rfl (lv_at hl 0 rfl) ?_
    refine lv_iconst (v := 1) hx hb dX6_need_28 (by decide) ?_
    refine kc_i (va_runV (As := [.int 1]) (rest := []) ⟨hx, hb, hml, hown, htT⟩ (m_no l D cA _ am r (mS M 0 0) 1) (cwV 1 htT (kg_V m_ml_X6_95 m_im_X6_no m_sl_X6_no m_in_X6 m_cd_X6_no) rfl rfl rfl (by decide +kernel) ⟨Nat.le_of_ble_eq_true rfl, Nat.le_of_ble_eq_true rfl⟩) (kp_V hK hP hD hTB (km_rc hK hP)) rfl rfl hl.1 rfl (lv_room (Nat.le_of_ble_eq_true rfl)) dX6_need_29 ⟨Nat.le_of_ble_eq_true rfl, Nat.le_of_ble_eq_true rfl⟩) hD hS hA (fun r_6 x_6 H locs hq_6 hP hD hS => ?_)
    rw [hq_6.1]
    rw [hq_6.2] at hP hD
    exact W.iret (v := 0) hx hb hr (fun t ht hW => ⟨⟨0, mS (mS M 0 0) 0 1, rfl, ⟨rfl, rfl⟩, by rw [ht]; exact hP, va_K.moved hW.alike hK, hD⟩, hS.F ht⟩) hS.2.2 dX6_need_32

set_option maxRecDepth 100000 in
set_option maxHeartbeats 4000000 in
theorem m_need_2 (l : Launch) (D : va_G) (cA : Nat → ClassId) (sz : Nat) (am : Nat) (r : Nat → Nat) (M : MSt) (n i : Nat) (hi : i < n) (hn8 : n ≤ 8) (h3 : M.1 3 = nI n) (j : Nat) (hj : j < n) (p2 : Int32) (hv : kIn p2 0 (M.2 5 j - 1) = 1) (hij : i ≤ j) : Met l yX6_need (Cond.code yX6_need cX6_need 5 (some .int) :: TT) ({ frames := 3, cells := 0, slots := 0, locals := 65 }) (va_Pc [.ref am, .int (nI i), .int (nI j), .int p2] (kPre D cA (wM cA am r M) sz)) (va_Qi (fun (r_ : Int32) (x_ : MSt) => r_ = 0 ∧ x_ = mS (mS M 0 0) 0 2) (fun x_ => kB D cA (va_A (wM cA am r M) sz) (wM cA am r x_)) (va_A (wM cA am r M) sz)) 0 0 (va_A (wM cA am r M) sz) := by
  refine Met.ofW (cc := cX6_need) (maxL := 5) (ret := (some .int)) (by decide) rfl ?_
  intro p e s m args below meth c s₁ B hml hv
  obtain ⟨rfl, hsz, hP, hK, hD0, hTB⟩ := hv
  have hx := B.exec
  have hb := B.bytes
  have hr := B.returns
  have hts := atoms_spec (ws := Cond.code yX6_need cX6_need 5 (some .int) :: TT) B.pre
  have htT : ∀ w ∈ TT, w.before _ s = true := fun w h => hts w (List.mem_cons_of_mem _ h)
  have hown : s.vm.findClass RX6 = some m.cls := findClass_of_methodNamed B.named
  have hlocks := B.notSynchronized
  subst hsz
  have hD := hD0.self (sz := s.heap.size)
  generalize hAe : va_A (wM cA am r M) s.heap.size = A at hD ⊢
  have hA : ∀ q : Nat, s.heap.size ≤ q → A q := fun q h => by rw [← hAe]; exact Or.inr h
  have hS : va_S A s.heap s.heap [] := va_S.rf
  have hl := lv_entry ([.ref am, .int (nI i), .int (nI j), .int p2]) (n := 5) (Nat.le_of_ble_eq_true rfl)
  rw [lg_entry_eq]
  generalize (lg_sl ([.ref am, .int (nI i), .int (nI j), .int p2]) ++ List.replicate (5 - (lg_sl ([.ref am, .int (nI i), .int (nI j), .int p2])).length) Slot.unset).toArray = ls at hl ⊢
  have hl : lv_has ls 5 [(0, .ref am), (1, .int (nI i)), (2, .int (nI j)), (3, .int p2)] := hl
  have hsw1 := kIn_sw hi hn8 h3
  refine lv_aload_n hx hb dX6_need_0 rfl (lv_at hl 0 rfl) ?_
  refine lv_iconst (v := 0) hx hb dX6_need_1 (by decide) ?_
  refine km_puti hx hb htT hown hK hP hD hS 0 (by decide) rfl (htT _ m_fl_X6_80) rfl (by decide +kernel) dX6_need_2 (fun H locs hP hD hS => ?_)
  refine lv_aload_n hx hb dX6_need_5 rfl (lv_at hl 0 rfl) ?_
  refine lv_iload_n hx hb dX6_need_6 rfl (lv_at hl 1 rfl) ?_
  refine kc_i (va_runV (As := [.int (nI i)]) (rest := []) ⟨hx, hb, hml, hown, htT⟩ (m_isSwitch l D cA _ am r (mS M 0 0) (nI i)) (cwV 1 htT (kg_V m_ml_X6_91 m_im_X6_isSwitch m_sl_X6_isSwitch m_in_X6 m_cd_X6_isSwitch) rfl rfl rfl (by decide +kernel) ⟨Nat.le_of_ble_eq_true rfl, Nat.le_of_ble_eq_true rfl⟩) (kp_V hK hP hD hTB (km_rc hK hP)) rfl rfl hl.1 rfl (lv_room (Nat.le_of_ble_eq_true rfl)) dX6_need_7 ⟨Nat.le_of_ble_eq_true rfl, Nat.le_of_ble_eq_true rfl⟩) hD hS hA (fun r_1 x_1 H locs hq_1 hP hD hS => ?_)
  rw [hq_1.1.trans hsw1]
  rw [hq_1.2] at hP hD
  refine lv_if_eq (tgt := 27) hx hb dX6_need_10 (by decide) (fun c_2 => absurd c_2 (by decide)) (fun _ => ?_)
  refine lv_iload_n hx hb dX6_need_13 rfl (lv_at hl 2 rfl) ?_
  refine lv_iconst (v := (-1)) hx hb dX6_need_14 (by decide) ?_
  refine lv_icmp_eq (tgt := 33) hx hb dX6_need_15 (by decide) (fun c_3 => ?_) (fun c_3 => ?_)
  · exact absurd c_3 (nI_m1 (by omega))
  · refine lv_aload_n hx hb dX6_need_18 rfl (lv_at hl 0 rfl) ?_
    refine lv_iload_n hx hb dX6_need_19 rfl (lv_at hl 2 rfl) ?_
    refine lv_iload_n hx hb dX6_need_20 rfl (lv_at hl 3 rfl) ?_
    refine kc_i (va_runV (As := [.int (nI j), .int p2]) (rest := []) ⟨hx, hb, hml, hown, htT⟩ (m_isVariant_1 l D cA _ am r (mS M 0 0) n j hj hn8 h3 p2) (cwV 2 htT (kg_V m_ml_X6_102 m_im_X6_isVariant m_sl_X6_isVariant m_in_X6 m_cd_X6_isVariant) rfl rfl rfl (by decide +kernel) ⟨Nat.le_of_ble_eq_true rfl, Nat.le_of_ble_eq_true rfl⟩) (kp_V hK hP hD hTB (km_rc hK hP)) rfl rfl hl.1 rfl (lv_room (Nat.le_of_ble_eq_true rfl)) dX6_need_21 ⟨Nat.le_of_ble_eq_true rfl, Nat.le_of_ble_eq_true rfl⟩) hD hS hA (fun r_4 x_4 H locs hq_4 hP hD hS => ?_)
    rw [hq_4.1.trans hv]
    rw [hq_4.2] at hP hD
    refine lv_if_ne (tgt := 33) hx hb dX6_need_24 (by decide) (fun _ => ?_) (fun c_5 => absurd c_5 (by decide))
    refine lv_iload_n hx hb dX6_need_33 rfl (lv_at hl 2 rfl) ?_
    refine lv_iload_n hx hb dX6_need_34 rfl (lv_at hl 1 rfl) ?_
    refine lv_icmp_lt (tgt := 44) hx hb dX6_need_35 (by decide) (fun c_6 => ?_) (fun c_6 => ?_)
    · exact absurd ((nI_ltI (a := j) (b := i) (by omega) (by omega)).mp c_6) (by omega)
    · replace c_6 : ¬ (j < i) := fun h9 => c_6 ((nI_ltI (a := j) (b := i) (by omega) (by omega)).mpr h9)
      refine lv_aload_n hx hb dX6_need_38 rfl (lv_at hl 0 rfl) ?_
      refine lv_iconst (v := 2) hx hb dX6_need_39 (by decide) ?_
      refine kc_i (va_runV (As := [.int 2]) (rest := []) ⟨hx, hb, hml, hown, htT⟩ (m_no l D cA _ am r (mS M 0 0) 2) (cwV 1 htT (kg_V m_ml_X6_95 m_im_X6_no m_sl_X6_no m_in_X6 m_cd_X6_no) rfl rfl rfl (by decide +kernel) ⟨Nat.le_of_ble_eq_true rfl, Nat.le_of_ble_eq_true rfl⟩) (kp_V hK hP hD hTB (km_rc hK hP)) rfl rfl hl.1 rfl (lv_room (Nat.le_of_ble_eq_true rfl)) dX6_need_40 ⟨Nat.le_of_ble_eq_true rfl, Nat.le_of_ble_eq_true rfl⟩) hD hS hA (fun r_7 x_7 H locs hq_7 hP hD hS => ?_)
      rw [hq_7.1]
      rw [hq_7.2] at hP hD
      exact W.iret (v := 0) hx hb hr (fun t ht hW => ⟨⟨0, mS (mS M 0 0) 0 2, rfl, ⟨rfl, rfl⟩, by rw [ht]; exact hP, va_K.moved hW.alike hK, hD⟩, hS.F ht⟩) hS.2.2 dX6_need_43

set_option maxRecDepth 100000 in
set_option maxHeartbeats 4000000 in
theorem m_need (l : Launch) (D : va_G) (cA : Nat → ClassId) (sz : Nat) (am : Nat) (r : Nat → Nat) (M : MSt) (n i : Nat) (hi : i < n) (hn8 : n ≤ 8) (h3 : M.1 3 = nI n) (j : Nat) (hj : j < n) (p2 : Int32) (hv : kIn p2 0 (M.2 5 j - 1) = 1) (hij : j < i) : Met l yX6_need (Cond.code yX6_need cX6_need 5 (some .int) :: TT) ({ frames := 3, cells := 0, slots := 0, locals := 65 }) (va_Pc [.ref am, .int (nI i), .int (nI j), .int p2] (kPre D cA (wM cA am r M) sz)) (va_Qi (fun (r_ : Int32) (x_ : MSt) => r_ = M.2 15 i ∧ x_ = mR (mR (mS M 0 0) 15 i (nI j)) 16 i p2) (fun x_ => kB D cA (va_A (wM cA am r M) sz) (wM cA am r x_)) (va_A (wM cA am r M) sz)) 0 0 (va_A (wM cA am r M) sz) := by
  refine Met.ofW (cc := cX6_need) (maxL := 5) (ret := (some .int)) (by decide) rfl ?_
  intro p e s m args below meth c s₁ B hml hv
  obtain ⟨rfl, hsz, hP, hK, hD0, hTB⟩ := hv
  have hx := B.exec
  have hb := B.bytes
  have hr := B.returns
  have hts := atoms_spec (ws := Cond.code yX6_need cX6_need 5 (some .int) :: TT) B.pre
  have htT : ∀ w ∈ TT, w.before _ s = true := fun w h => hts w (List.mem_cons_of_mem _ h)
  have hown : s.vm.findClass RX6 = some m.cls := findClass_of_methodNamed B.named
  have hlocks := B.notSynchronized
  subst hsz
  have hD := hD0.self (sz := s.heap.size)
  generalize hAe : va_A (wM cA am r M) s.heap.size = A at hD ⊢
  have hA : ∀ q : Nat, s.heap.size ≤ q → A q := fun q h => by rw [← hAe]; exact Or.inr h
  have hS : va_S A s.heap s.heap [] := va_S.rf
  have hl := lv_entry ([.ref am, .int (nI i), .int (nI j), .int p2]) (n := 5) (Nat.le_of_ble_eq_true rfl)
  rw [lg_entry_eq]
  generalize (lg_sl ([.ref am, .int (nI i), .int (nI j), .int p2]) ++ List.replicate (5 - (lg_sl ([.ref am, .int (nI i), .int (nI j), .int p2])).length) Slot.unset).toArray = ls at hl ⊢
  have hl : lv_has ls 5 [(0, .ref am), (1, .int (nI i)), (2, .int (nI j)), (3, .int p2)] := hl
  have hsw1 := kIn_sw hi hn8 h3
  refine lv_aload_n hx hb dX6_need_0 rfl (lv_at hl 0 rfl) ?_
  refine lv_iconst (v := 0) hx hb dX6_need_1 (by decide) ?_
  refine km_puti hx hb htT hown hK hP hD hS 0 (by decide) rfl (htT _ m_fl_X6_80) rfl (by decide +kernel) dX6_need_2 (fun H locs hP hD hS => ?_)
  refine lv_aload_n hx hb dX6_need_5 rfl (lv_at hl 0 rfl) ?_
  refine lv_iload_n hx hb dX6_need_6 rfl (lv_at hl 1 rfl) ?_
  refine kc_i (va_runV (As := [.int (nI i)]) (rest := []) ⟨hx, hb, hml, hown, htT⟩ (m_isSwitch l D cA _ am r (mS M 0 0) (nI i)) (cwV 1 htT (kg_V m_ml_X6_91 m_im_X6_isSwitch m_sl_X6_isSwitch m_in_X6 m_cd_X6_isSwitch) rfl rfl rfl (by decide +kernel) ⟨Nat.le_of_ble_eq_true rfl, Nat.le_of_ble_eq_true rfl⟩) (kp_V hK hP hD hTB (km_rc hK hP)) rfl rfl hl.1 rfl (lv_room (Nat.le_of_ble_eq_true rfl)) dX6_need_7 ⟨Nat.le_of_ble_eq_true rfl, Nat.le_of_ble_eq_true rfl⟩) hD hS hA (fun r_1 x_1 H locs hq_1 hP hD hS => ?_)
  rw [hq_1.1.trans hsw1]
  rw [hq_1.2] at hP hD
  refine lv_if_eq (tgt := 27) hx hb dX6_need_10 (by decide) (fun c_2 => absurd c_2 (by decide)) (fun _ => ?_)
  refine lv_iload_n hx hb dX6_need_13 rfl (lv_at hl 2 rfl) ?_
  refine lv_iconst (v := (-1)) hx hb dX6_need_14 (by decide) ?_
  refine lv_icmp_eq (tgt := 33) hx hb dX6_need_15 (by decide) (fun c_3 => ?_) (fun c_3 => ?_)
  · exact absurd c_3 (nI_m1 (by omega))
  · refine lv_aload_n hx hb dX6_need_18 rfl (lv_at hl 0 rfl) ?_
    refine lv_iload_n hx hb dX6_need_19 rfl (lv_at hl 2 rfl) ?_
    refine lv_iload_n hx hb dX6_need_20 rfl (lv_at hl 3 rfl) ?_
    refine kc_i (va_runV (As := [.int (nI j), .int p2]) (rest := []) ⟨hx, hb, hml, hown, htT⟩ (m_isVariant_1 l D cA _ am r (mS M 0 0) n j hj hn8 h3 p2) (cwV 2 htT (kg_V m_ml_X6_102 m_im_X6_isVariant m_sl_X6_isVariant m_in_X6 m_cd_X6_isVariant) rfl rfl rfl (by decide +kernel) ⟨Nat.le_of_ble_eq_true rfl, Nat.le_of_ble_eq_true rfl⟩) (kp_V hK hP hD hTB (km_rc hK hP)) rfl rfl hl.1 rfl (lv_room (Nat.le_of_ble_eq_true rfl)) dX6_need_21 ⟨Nat.le_of_ble_eq_true rfl, Nat.le_of_ble_eq_true rfl⟩) hD hS hA (fun r_4 x_4 H locs hq_4 hP hD hS => ?_)
    rw [hq_4.1.trans hv]
    rw [hq_4.2] at hP hD
    refine lv_if_ne (tgt := 33) hx hb dX6_need_24 (by decide) (fun _ => ?_) (fun c_5 => absurd c_5 (by decide))
    refine lv_iload_n hx hb dX6_need_33 rfl (lv_at hl 2 rfl) ?_
    refine lv_iload_n hx hb dX6_need_34 rfl (lv_at hl 1 rfl) ?_
    refine lv_icmp_lt (tgt := 44) hx hb dX6_need_35 (by decide) (fun c_6 => ?_) (fun c_6 => ?_)
    · replace c_6 := (nI_ltI (a := j) (b := i) (by omega) (by omega)).mp c_6
      refine lv_aload_n hx hb dX6_need_44 rfl (lv_at hl 0 rfl) ?_
      refine km_getr hx hb htT hown hK hP 15 (by decide) rfl (htT _ m_fl_X6_44) dX6_need_45 ?_
      refine lv_iload_n hx hb dX6_need_48 rfl (lv_at hl 1 rfl) ?_
      refine km_ialdv (x := (M.2 15) i) hx hb hK hP 15 rfl rfl (show vp_in (nI (i)) 8 from ki_in (by omega) (by decide)) (congrArg _ (ki_cl (by omega))) dX6_need_49 ?_
      refine lv_istore (lv' := [(4, .int ((M.2 15) i)), (0, .ref am), (1, .int (nI i)), (2, .int (nI j)), (3, .int p2)]) hx hb dX6_need_50 hl (by decide) rfl (fun ls hl => ?_)
      refine lv_aload_n hx hb dX6_need_52 rfl (lv_at hl 1 rfl) ?_
      refine km_getr hx hb htT hown hK hP 15 (by decide) rfl (htT _ m_fl_X6_44) dX6_need_53 ?_
      refine lv_iload_n hx hb dX6_need_56 rfl (lv_at hl 2 rfl) ?_
      refine lv_iload_n hx hb dX6_need_57 rfl (lv_at hl 3 rfl) ?_
      refine km_iast hx hb hK hP hD hS 15 rfl rfl (show vp_in (nI (i)) 8 from ki_in (by omega) (by decide)) dX6_need_58 (fun H locs hP hD hS => ?_)
      rw [ki_cl (n := i) (by omega)] at hP hD
      refine lv_aload_n hx hb dX6_need_59 rfl (lv_at hl 1 rfl) ?_
      refine km_getr hx hb htT hown hK hP 16 (by decide) rfl (htT _ m_fl_X6_47) dX6_need_60 ?_
      refine lv_iload_n hx hb dX6_need_63 rfl (lv_at hl 2 rfl) ?_
      refine lv_iload_n hx hb dX6_need_64 rfl (lv_at hl 4 rfl) ?_
      refine km_iast hx hb hK hP hD hS 16 rfl rfl (show vp_in (nI (i)) 8 from ki_in (by omega) (by decide)) dX6_need_65 (fun H locs hP hD hS => ?_)
      rw [ki_cl (n := i) (by omega)] at hP hD
      refine lv_iload hx hb dX6_need_66 (lv_at hl 0 rfl) ?_
      exact W.iret (v := (M.2 15) i) hx hb hr (fun t ht hW => ⟨⟨(M.2 15) i, mR (mR (mS M 0 0) 15 i (nI j)) 16 i p2, rfl, ⟨rfl, rfl⟩, by rw [ht]; exact hP, va_K.moved hW.alike hK, hD⟩, hS.F ht⟩) hS.2.2 dX6_need_68
    · exact absurd ((nI_ltI (a := j) (b := i) (by omega) (by omega)).mpr hij) c_6

theorem m1_lt {i : Nat} (h : i < 2 ^ 31) : (-1 : Int32) < nI i := by
  rw [Int32.lt_iff_toInt_lt, nI_toInt h]
  have h2 : (-1 : Int32).toInt = -1 := rfl
  omega
set_option maxRecDepth 100000 in
set_option maxHeartbeats 4000000 in
theorem m_need_n (l : Launch) (D : va_G) (cA : Nat → ClassId) (sz : Nat) (am : Nat) (r : Nat → Nat) (M : MSt) (n i : Nat) (hi : i < n) (hn8 : n ≤ 8) (h3 : M.1 3 = nI n) (p2 : Int32) : Met l yX6_need (Cond.code yX6_need cX6_need 5 (some .int) :: TT) ({ frames := 2, cells := 0, slots := 0, locals := 43 }) (va_Pc [.ref am, .int (nI i), .int (-1), .int p2] (kPre D cA (wM cA am r M) sz)) (va_Qi (fun (r_ : Int32) (x_ : MSt) => r_ = M.2 15 i ∧ x_ = mR (mR (mS M 0 0) 15 i (-1)) 16 i p2) (fun x_ => kB D cA (va_A (wM cA am r M) sz) (wM cA am r x_)) (va_A (wM cA am r M) sz)) 0 0 (va_A (wM cA am r M) sz) := by
  refine Met.ofW (cc := cX6_need) (maxL := 5) (ret := (some .int)) (by decide) rfl ?_
  intro p e s m args below meth c s₁ B hml hv
  obtain ⟨rfl, hsz, hP, hK, hD0, hTB⟩ := hv
  have hx := B.exec
  have hb := B.bytes
  have hr := B.returns
  have hts := atoms_spec (ws := Cond.code yX6_need cX6_need 5 (some .int) :: TT) B.pre
  have htT : ∀ w ∈ TT, w.before _ s = true := fun w h => hts w (List.mem_cons_of_mem _ h)
  have hown : s.vm.findClass RX6 = some m.cls := findClass_of_methodNamed B.named
  have hlocks := B.notSynchronized
  subst hsz
  have hD := hD0.self (sz := s.heap.size)
  generalize hAe : va_A (wM cA am r M) s.heap.size = A at hD ⊢
  have hA : ∀ q : Nat, s.heap.size ≤ q → A q := fun q h => by rw [← hAe]; exact Or.inr h
  have hS : va_S A s.heap s.heap [] := va_S.rf
  have hl := lv_entry ([.ref am, .int (nI i), .int (-1), .int p2]) (n := 5) (Nat.le_of_ble_eq_true rfl)
  rw [lg_entry_eq]
  generalize (lg_sl ([.ref am, .int (nI i), .int (-1), .int p2]) ++ List.replicate (5 - (lg_sl ([.ref am, .int (nI i), .int (-1), .int p2])).length) Slot.unset).toArray = ls at hl ⊢
  have hl : lv_has ls 5 [(0, .ref am), (1, .int (nI i)), (2, .int (-1)), (3, .int p2)] := hl
  have hsw1 := kIn_sw hi hn8 h3
  refine lv_aload_n hx hb dX6_need_0 rfl (lv_at hl 0 rfl) ?_
  refine lv_iconst (v := 0) hx hb dX6_need_1 (by decide) ?_
  refine km_puti hx hb htT hown hK hP hD hS 0 (by decide) rfl (htT _ m_fl_X6_80) rfl (by decide +kernel) dX6_need_2 (fun H locs hP hD hS => ?_)
  refine lv_aload_n hx hb dX6_need_5 rfl (lv_at hl 0 rfl) ?_
  refine lv_iload_n hx hb dX6_need_6 rfl (lv_at hl 1 rfl) ?_
  refine kc_i (va_runV (As := [.int (nI i)]) (rest := []) ⟨hx, hb, hml, hown, htT⟩ (m_isSwitch l D cA _ am r (mS M 0 0) (nI i)) (cwV 1 htT (kg_V m_ml_X6_91 m_im_X6_isSwitch m_sl_X6_isSwitch m_in_X6 m_cd_X6_isSwitch) rfl rfl rfl (by decide +kernel) ⟨Nat.le_of_ble_eq_true rfl, Nat.le_of_ble_eq_true rfl⟩) (kp_V hK hP hD hTB (km_rc hK hP)) rfl rfl hl.1 rfl (lv_room (Nat.le_of_ble_eq_true rfl)) dX6_need_7 ⟨Nat.le_of_ble_eq_true rfl, Nat.le_of_ble_eq_true rfl⟩) hD hS hA (fun r_1 x_1 H locs hq_1 hP hD hS => ?_)
  rw [hq_1.1.trans hsw1]
  rw [hq_1.2] at hP hD
  refine lv_if_eq (tgt := 27) hx hb dX6_need_10 (by decide) (fun c_2 => absurd c_2 (by decide)) (fun _ => ?_)
  refine lv_iload_n hx hb dX6_need_13 rfl (lv_at hl 2 rfl) ?_
  refine lv_iconst (v := (-1)) hx hb dX6_need_14 (by decide) ?_
  refine lv_icmp_eq (tgt := 33) hx hb dX6_need_15 (by decide) (fun _ => ?_) (fun c_3 => absurd c_3 (by decide))
  refine lv_iload_n hx hb dX6_need_33 rfl (lv_at hl 2 rfl) ?_
  refine lv_iload_n hx hb dX6_need_34 rfl (lv_at hl 1 rfl) ?_
  refine lv_icmp_lt (tgt := 44) hx hb dX6_need_35 (by decide) (fun c_4 => ?_) (fun c_4 => ?_)
  · refine lv_aload_n hx hb dX6_need_44 rfl (lv_at hl 0 rfl) ?_
    refine km_getr hx hb htT hown hK hP 15 (by decide) rfl (htT _ m_fl_X6_44) dX6_need_45 ?_
    refine lv_iload_n hx hb dX6_need_48 rfl (lv_at hl 1 rfl) ?_
    refine km_ialdv (x := (M.2 15) i) hx hb hK hP 15 rfl rfl (show vp_in (nI (i)) 8 from ki_in (by omega) (by decide)) (congrArg _ (ki_cl (by omega))) dX6_need_49 ?_
    refine lv_istore (lv' := [(4, .int ((M.2 15) i)), (0, .ref am), (1, .int (nI i)), (2, .int (-1)), (3, .int p2)]) hx hb dX6_need_50 hl (by decide) rfl (fun ls hl => ?_)
    refine lv_aload_n hx hb dX6_need_52 rfl (lv_at hl 1 rfl) ?_
    refine km_getr hx hb htT hown hK hP 15 (by decide) rfl (htT _ m_fl_X6_44) dX6_need_53 ?_
    refine lv_iload_n hx hb dX6_need_56 rfl (lv_at hl 2 rfl) ?_
    refine lv_iload_n hx hb dX6_need_57 rfl (lv_at hl 3 rfl) ?_
    refine km_iast hx hb hK hP hD hS 15 rfl rfl (show vp_in (nI (i)) 8 from ki_in (by omega) (by decide)) dX6_need_58 (fun H locs hP hD hS => ?_)
    rw [ki_cl (n := i) (by omega)] at hP hD
    refine lv_aload_n hx hb dX6_need_59 rfl (lv_at hl 1 rfl) ?_
    refine km_getr hx hb htT hown hK hP 16 (by decide) rfl (htT _ m_fl_X6_47) dX6_need_60 ?_
    refine lv_iload_n hx hb dX6_need_63 rfl (lv_at hl 2 rfl) ?_
    refine lv_iload_n hx hb dX6_need_64 rfl (lv_at hl 4 rfl) ?_
    refine km_iast hx hb hK hP hD hS 16 rfl rfl (show vp_in (nI (i)) 8 from ki_in (by omega) (by decide)) dX6_need_65 (fun H locs hP hD hS => ?_)
    rw [ki_cl (n := i) (by omega)] at hP hD
    refine lv_iload hx hb dX6_need_66 (lv_at hl 0 rfl) ?_
    exact W.iret (v := (M.2 15) i) hx hb hr (fun t ht hW => ⟨⟨(M.2 15) i, mR (mR (mS M 0 0) 15 i (-1)) 16 i p2, rfl, ⟨rfl, rfl⟩, by rw [ht]; exact hP, va_K.moved hW.alike hK, hD⟩, hS.F ht⟩) hS.2.2 dX6_need_68
  · exact absurd (m1_lt (by omega)) c_4

