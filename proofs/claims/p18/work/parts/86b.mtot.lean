/-! more of what stays -/
abbrev mU (M : MSt) (k : Nat) (f : Nat → Int32) : MSt := (M.1, va_up M.2 k f)
theorem qAsk_u {u f g : Int32} (h : qAsk u f g = 1) : ∃ uu, uu ≤ 9999 ∧ u = nI uu := by
  unfold qAsk at h
  rcases kIn_01 u 0 9999 with h1 | h1
  · rw [if_pos h1] at h; exact absurd h (by decide)
  · obtain ⟨k, -, hk, e⟩ := kIn_nat 0 9999 (by omega) (by omega) h1
    exact ⟨k, hk, e⟩
theorem qAsk_01 (u f g : Int32) : qAsk u f g = 0 ∨ qAsk u f g = 1 := by
  unfold qAsk
  split
  · exact Or.inl rfl
  · split
    · exact Or.inl rfl
    · split
      · exact Or.inl rfl
      · exact Or.inr rfl
theorem m_nt_ac : Cond.native arraycopyName ∈ TT := tt_m5 14 (by decide +kernel) (by decide +kernel)
theorem m_st_ac : Cond.static arraycopyName ∈ TT := tt_m5 13 (by decide +kernel) (by decide +kernel)
theorem m_in_sys : Cond.initialized "java/lang/System" ∈ TT := tt_m1 14 (by decide +kernel) (by decide +kernel)
set_option maxRecDepth 100000 in
set_option maxHeartbeats 4000000 in
theorem t_gets (l : Launch) (D : va_G) (cA : Nat → ClassId) (sz : Nat) (am : Nat) (r : Nat → Nat) (M : MSt) (n na : Nat) (hI : INVR n na M) (p0 p1 p2 p3 : Int32) : Met l yX6_gets (Cond.code yX6_gets cX6_gets 5 (some .int) :: TT) ({ frames := 18, cells := 0, slots := 0, locals := 964 }) (va_Pc [.ref am, .int p0, .int p1, .int p2, .int p3] (kPre D cA (wM cA am r M) sz)) (va_Qi (fun (r_ : Int32) (x_ : MSt) => INVR n na x_ ∧ eqM M x_) (fun x_ => kB D cA (va_A (wM cA am r M) sz) (wM cA am r x_)) (va_A (wM cA am r M) sz)) 0 0 (va_A (wM cA am r M) sz) := by
  refine Met.ofW (cc := cX6_gets) (maxL := 5) (ret := (some .int)) (by decide) rfl ?_
  intro p e s m args below meth c s₁ B hml hv
  obtain ⟨rfl, hsz, hP, hK, hD0, hTB⟩ := hv
  have hx := B.exec
  have hb := B.bytes
  have hr := B.returns
  have hts := atoms_spec (ws := Cond.code yX6_gets cX6_gets 5 (some .int) :: TT) B.pre
  have htT : ∀ w ∈ TT, w.before _ s = true := fun w h => hts w (List.mem_cons_of_mem _ h)
  have hown : s.vm.findClass RX6 = some m.cls := findClass_of_methodNamed B.named
  have hlocks := B.notSynchronized
  subst hsz
  have hD := hD0.self (sz := s.heap.size)
  generalize hAe : va_A (wM cA am r M) s.heap.size = A at hD ⊢
  have hA : ∀ q : Nat, s.heap.size ≤ q → A q := fun q h => by rw [← hAe]; exact Or.inr h
  have hS : va_S A s.heap s.heap [] := va_S.rf
  have hl := lv_entry ([.ref am, .int p0, .int p1, .int p2, .int p3]) (n := 5) (Nat.le_of_ble_eq_true rfl)
  rw [lg_entry_eq]
  generalize (lg_sl ([.ref am, .int p0, .int p1, .int p2, .int p3]) ++ List.replicate (5 - (lg_sl ([.ref am, .int p0, .int p1, .int p2, .int p3])).length) Slot.unset).toArray = ls at hl ⊢
  have hl : lv_has ls 5 [(0, .ref am), (1, .int p0), (2, .int p1), (3, .int p2), (4, .int p3)] := hl
  have hn8 := hI.n8
  have hna9 := hI.na
  obtain ⟨ru, hok⟩ := id hI.1
  refine lv_aload_n hx hb dX6_gets_0 rfl (lv_at hl 0 rfl) ?_
  refine lv_iload_n hx hb dX6_gets_1 rfl (lv_at hl 1 rfl) ?_
  refine lv_iload_n hx hb dX6_gets_2 rfl (lv_at hl 2 rfl) ?_
  refine lv_iload_n hx hb dX6_gets_3 rfl (lv_at hl 3 rfl) ?_
  refine lv_iload hx hb dX6_gets_4 (lv_at hl 4 rfl) ?_
  have h3_1 : M.1 3 = nI n := hI.h3
  rcases kIn_swx (p := p0) hI.n8 h3_1 with hsw | ⟨i, hi, rfl⟩
  · refine kc_i (va_runV (As := [.int p0, .int p1, .int p2, .int p3]) (rest := []) ⟨hx, hb, hml, hown, htT⟩ (m_isAsked_0 l D cA _ am r M p0 p1 p2 p3 hsw) (cwV 4 htT (kg_V m_ml_X6_175 m_im_X6_isAsked m_sl_X6_isAsked m_in_X6 m_cd_X6_isAsked) rfl rfl rfl (by decide +kernel) ⟨Nat.le_of_ble_eq_true rfl, Nat.le_of_ble_eq_true rfl⟩) (kp_V hK hP hD hTB (km_rc hK hP)) rfl rfl hl.1 rfl (lv_room (Nat.le_of_ble_eq_true rfl)) dX6_gets_6 ⟨Nat.le_of_ble_eq_true rfl, Nat.le_of_ble_eq_true rfl⟩) hD hS hA (fun r_1 x_1 H locs hq_1 hP hD hS => ?_)
    rw [hq_1.1]
    rw [hq_1.2] at hP hD
    refine lv_if_eq (tgt := 24) hx hb dX6_gets_9 (by decide) (fun _ => ?_) (fun c_2 => absurd c_2 (by decide))
    refine lv_iconst (v := 0) hx hb dX6_gets_24 (by decide) ?_
    exact W.iret (v := 0) hx hb hr (fun t ht hW => ⟨⟨0, mS M 0 1, rfl, ⟨(INVR.iS hI (by decide) (by decide)), (eqM.rf).s0⟩, by rw [ht]; exact hP, va_K.moved hW.alike hK, hD⟩, hS.F ht⟩) hS.2.2 dX6_gets_25
  · refine kc_i (va_runV (As := [.int (nI i), .int p1, .int p2, .int p3]) (rest := []) ⟨hx, hb, hml, hown, htT⟩ (m_isAsked_1 l D cA _ am r M n i hi hI.n8 h3_1 p1 p2 p3) (cwV 4 htT (kg_V m_ml_X6_175 m_im_X6_isAsked m_sl_X6_isAsked m_in_X6 m_cd_X6_isAsked) rfl rfl rfl (by decide +kernel) ⟨Nat.le_of_ble_eq_true rfl, Nat.le_of_ble_eq_true rfl⟩) (kp_V hK hP hD hTB (km_rc hK hP)) rfl rfl hl.1 rfl (lv_room (Nat.le_of_ble_eq_true rfl)) dX6_gets_6 ⟨Nat.le_of_ble_eq_true rfl, Nat.le_of_ble_eq_true rfl⟩) hD hS hA (fun r_1 x_1 H locs hq_1 hP hD hS => ?_)
    rcases qAsk_01 p1 p2 p3 with hqa | hqa
    · rw [hq_1.1.trans hqa]
      rw [hq_1.2, if_pos hqa] at hP hD
      refine lv_if_eq (tgt := 24) hx hb dX6_gets_9 (by decide) (fun _ => ?_) (fun c_3 => absurd c_3 (by decide))
      refine lv_iconst (v := 0) hx hb dX6_gets_24 (by decide) ?_
      exact W.iret (v := 0) hx hb hr (fun t ht hW => ⟨⟨0, mS M 0 2, rfl, ⟨(INVR.iS hI (by decide) (by decide)), (eqM.rf).s0⟩, by rw [ht]; exact hP, va_K.moved hW.alike hK, hD⟩, hS.F ht⟩) hS.2.2 dX6_gets_25
    · rw [hq_1.1.trans hqa]
      rw [hq_1.2, if_neg (show ¬ qAsk p1 p2 p3 = 0 by rw [hqa]; decide)] at hP hD
      obtain ⟨uu, huu, rfl⟩ := qAsk_u hqa
      refine lv_if_eq (tgt := 24) hx hb dX6_gets_9 (by decide) (fun c_4 => absurd c_4 (by decide)) (fun _ => ?_)
      refine lv_aload_n hx hb dX6_gets_12 rfl (lv_at hl 0 rfl) ?_
      refine lv_iload_n hx hb dX6_gets_13 rfl (lv_at hl 1 rfl) ?_
      refine lv_iload_n hx hb dX6_gets_14 rfl (lv_at hl 2 rfl) ?_
      refine lv_iload_n hx hb dX6_gets_15 rfl (lv_at hl 3 rfl) ?_
      refine lv_iload hx hb dX6_gets_16 (lv_at hl 4 rfl) ?_
      refine kc_i (va_runV (As := [.int (nI i), .int (nI uu), .int p2, .int p3]) (rest := []) ⟨hx, hb, hml, hown, htT⟩ (m_PO l D cA am r n na ru 7 _ i (mS M 0 0) uu p2 p3 (by omega) (by omega) (by omega) hok) (cwV 4 htT (kg_V m_ml_X6_154 m_im_X6_getsOf m_sl_X6_getsOf m_in_X6 m_cd_X6_getsOf) rfl rfl rfl (by decide +kernel) ⟨Nat.le_of_ble_eq_true rfl, Nat.le_of_ble_eq_true rfl⟩) (kp_V hK hP hD hTB (km_rc hK hP)) rfl rfl hl.1 rfl (lv_room (Nat.le_of_ble_eq_true rfl)) dX6_gets_18 ⟨Nat.le_of_ble_eq_true rfl, Nat.le_of_ble_eq_true rfl⟩) hD hS hA (fun r_5 x_5 H locs hq_5 hP hD hS => ?_)
      obtain ⟨ρ_5, eρ_5⟩ : ∃ ρ, x_5 = mS (mS M 0 0) 28 ρ := ⟨_, hq_5.2⟩
      rw [eρ_5] at hP hD
      refine lv_goto (tgt := 25) hx hb dX6_gets_21 (by decide) ?_
      exact W.iret (v := r_5) hx hb hr (fun t ht hW => ⟨⟨r_5, mS (mS M 0 0) 28 ρ_5, rfl, ⟨(INVR.iS (INVR.iS hI (by decide) (by decide)) (by decide) (by decide)), ((eqM.rf).s0).s28⟩, by rw [ht]; exact hP, va_K.moved hW.alike hK, hD⟩, hS.F ht⟩) hS.2.2 dX6_gets_25

set_option maxRecDepth 100000 in
set_option maxHeartbeats 4000000 in
theorem t_why (l : Launch) (D : va_G) (cA : Nat → ClassId) (sz : Nat) (am : Nat) (r : Nat → Nat) (M : MSt) (n na : Nat) (hI : INVR n na M) (p0 p1 p2 p3 : Int32) : Met l yX6_why (Cond.code yX6_why cX6_why 5 (some .int) :: TT) ({ frames := 18, cells := 0, slots := 0, locals := 964 }) (va_Pc [.ref am, .int p0, .int p1, .int p2, .int p3] (kPre D cA (wM cA am r M) sz)) (va_Qi (fun (r_ : Int32) (x_ : MSt) => INVR n na x_ ∧ eqM M x_) (fun x_ => kB D cA (va_A (wM cA am r M) sz) (wM cA am r x_)) (va_A (wM cA am r M) sz)) 0 0 (va_A (wM cA am r M) sz) := by
  refine Met.ofW (cc := cX6_why) (maxL := 5) (ret := (some .int)) (by decide) rfl ?_
  intro p e s m args below meth c s₁ B hml hv
  obtain ⟨rfl, hsz, hP, hK, hD0, hTB⟩ := hv
  have hx := B.exec
  have hb := B.bytes
  have hr := B.returns
  have hts := atoms_spec (ws := Cond.code yX6_why cX6_why 5 (some .int) :: TT) B.pre
  have htT : ∀ w ∈ TT, w.before _ s = true := fun w h => hts w (List.mem_cons_of_mem _ h)
  have hown : s.vm.findClass RX6 = some m.cls := findClass_of_methodNamed B.named
  have hlocks := B.notSynchronized
  subst hsz
  have hD := hD0.self (sz := s.heap.size)
  generalize hAe : va_A (wM cA am r M) s.heap.size = A at hD ⊢
  have hA : ∀ q : Nat, s.heap.size ≤ q → A q := fun q h => by rw [← hAe]; exact Or.inr h
  have hS : va_S A s.heap s.heap [] := va_S.rf
  have hl := lv_entry ([.ref am, .int p0, .int p1, .int p2, .int p3]) (n := 5) (Nat.le_of_ble_eq_true rfl)
  rw [lg_entry_eq]
  generalize (lg_sl ([.ref am, .int p0, .int p1, .int p2, .int p3]) ++ List.replicate (5 - (lg_sl ([.ref am, .int p0, .int p1, .int p2, .int p3])).length) Slot.unset).toArray = ls at hl ⊢
  have hl : lv_has ls 5 [(0, .ref am), (1, .int p0), (2, .int p1), (3, .int p2), (4, .int p3)] := hl
  have hn8 := hI.n8
  have hna9 := hI.na
  obtain ⟨ru, hok⟩ := id hI.1
  refine lv_aload_n hx hb dX6_why_0 rfl (lv_at hl 0 rfl) ?_
  refine lv_iload_n hx hb dX6_why_1 rfl (lv_at hl 1 rfl) ?_
  refine lv_iload_n hx hb dX6_why_2 rfl (lv_at hl 2 rfl) ?_
  refine lv_iload_n hx hb dX6_why_3 rfl (lv_at hl 3 rfl) ?_
  refine lv_iload hx hb dX6_why_4 (lv_at hl 4 rfl) ?_
  have h3_1 : M.1 3 = nI n := hI.h3
  rcases kIn_swx (p := p0) hI.n8 h3_1 with hsw | ⟨i, hi, rfl⟩
  · refine kc_i (va_runV (As := [.int p0, .int p1, .int p2, .int p3]) (rest := []) ⟨hx, hb, hml, hown, htT⟩ (m_isAsked_0 l D cA _ am r M p0 p1 p2 p3 hsw) (cwV 4 htT (kg_V m_ml_X6_175 m_im_X6_isAsked m_sl_X6_isAsked m_in_X6 m_cd_X6_isAsked) rfl rfl rfl (by decide +kernel) ⟨Nat.le_of_ble_eq_true rfl, Nat.le_of_ble_eq_true rfl⟩) (kp_V hK hP hD hTB (km_rc hK hP)) rfl rfl hl.1 rfl (lv_room (Nat.le_of_ble_eq_true rfl)) dX6_why_6 ⟨Nat.le_of_ble_eq_true rfl, Nat.le_of_ble_eq_true rfl⟩) hD hS hA (fun r_1 x_1 H locs hq_1 hP hD hS => ?_)
    rw [hq_1.1]
    rw [hq_1.2] at hP hD
    refine lv_if_ne (tgt := 14) hx hb dX6_why_9 (by decide) (fun c_2 => absurd c_2 (by decide)) (fun _ => ?_)
    refine lv_iconst (v := 0) hx hb dX6_why_12 (by decide) ?_
    exact W.iret (v := 0) hx hb hr (fun t ht hW => ⟨⟨0, mS M 0 1, rfl, ⟨(INVR.iS hI (by decide) (by decide)), (eqM.rf).s0⟩, by rw [ht]; exact hP, va_K.moved hW.alike hK, hD⟩, hS.F ht⟩) hS.2.2 dX6_why_13
  · refine kc_i (va_runV (As := [.int (nI i), .int p1, .int p2, .int p3]) (rest := []) ⟨hx, hb, hml, hown, htT⟩ (m_isAsked_1 l D cA _ am r M n i hi hI.n8 h3_1 p1 p2 p3) (cwV 4 htT (kg_V m_ml_X6_175 m_im_X6_isAsked m_sl_X6_isAsked m_in_X6 m_cd_X6_isAsked) rfl rfl rfl (by decide +kernel) ⟨Nat.le_of_ble_eq_true rfl, Nat.le_of_ble_eq_true rfl⟩) (kp_V hK hP hD hTB (km_rc hK hP)) rfl rfl hl.1 rfl (lv_room (Nat.le_of_ble_eq_true rfl)) dX6_why_6 ⟨Nat.le_of_ble_eq_true rfl, Nat.le_of_ble_eq_true rfl⟩) hD hS hA (fun r_1 x_1 H locs hq_1 hP hD hS => ?_)
    rcases qAsk_01 p1 p2 p3 with hqa | hqa
    · rw [hq_1.1.trans hqa]
      rw [hq_1.2, if_pos hqa] at hP hD
      refine lv_if_ne (tgt := 14) hx hb dX6_why_9 (by decide) (fun c_3 => absurd c_3 (by decide)) (fun _ => ?_)
      refine lv_iconst (v := 0) hx hb dX6_why_12 (by decide) ?_
      exact W.iret (v := 0) hx hb hr (fun t ht hW => ⟨⟨0, mS M 0 2, rfl, ⟨(INVR.iS hI (by decide) (by decide)), (eqM.rf).s0⟩, by rw [ht]; exact hP, va_K.moved hW.alike hK, hD⟩, hS.F ht⟩) hS.2.2 dX6_why_13
    · rw [hq_1.1.trans hqa]
      rw [hq_1.2, if_neg (show ¬ qAsk p1 p2 p3 = 0 by rw [hqa]; decide)] at hP hD
      obtain ⟨uu, huu, rfl⟩ := qAsk_u hqa
      refine lv_if_ne (tgt := 14) hx hb dX6_why_9 (by decide) (fun _ => ?_) (fun c_4 => absurd c_4 (by decide))
      refine lv_aload_n hx hb dX6_why_14 rfl (lv_at hl 0 rfl) ?_
      refine lv_iload_n hx hb dX6_why_15 rfl (lv_at hl 1 rfl) ?_
      refine lv_iload_n hx hb dX6_why_16 rfl (lv_at hl 2 rfl) ?_
      refine lv_iload_n hx hb dX6_why_17 rfl (lv_at hl 3 rfl) ?_
      refine lv_iload hx hb dX6_why_18 (lv_at hl 4 rfl) ?_
      refine kc_i (va_runV (As := [.int (nI i), .int (nI uu), .int p2, .int p3]) (rest := []) ⟨hx, hb, hml, hown, htT⟩ (m_PO l D cA am r n na ru 7 _ i (mS M 0 0) uu p2 p3 (by omega) (by omega) (by omega) hok) (cwV 4 htT (kg_V m_ml_X6_154 m_im_X6_getsOf m_sl_X6_getsOf m_in_X6 m_cd_X6_getsOf) rfl rfl rfl (by decide +kernel) ⟨Nat.le_of_ble_eq_true rfl, Nat.le_of_ble_eq_true rfl⟩) (kp_V hK hP hD hTB (km_rc hK hP)) rfl rfl hl.1 rfl (lv_room (Nat.le_of_ble_eq_true rfl)) dX6_why_20 ⟨Nat.le_of_ble_eq_true rfl, Nat.le_of_ble_eq_true rfl⟩) hD hS hA (fun r_5 x_5 H locs hq_5 hP hD hS => ?_)
      obtain ⟨ρ_5, eρ_5⟩ : ∃ ρ, x_5 = mS (mS M 0 0) 28 ρ := ⟨_, hq_5.2⟩
      rw [eρ_5] at hP hD
      refine lv_pop hx hb dX6_why_23 rfl ?_
      refine lv_aload_n hx hb dX6_why_24 rfl (lv_at hl 0 rfl) ?_
      refine km_getiv (x := ρ_5) hx hb htT hown hK hP 28 (by decide) rfl (htT _ m_fl_X6_165) rfl dX6_why_25 ?_
      exact W.iret (v := ρ_5) hx hb hr (fun t ht hW => ⟨⟨ρ_5, mS (mS M 0 0) 28 ρ_5, rfl, ⟨(INVR.iS (INVR.iS hI (by decide) (by decide)) (by decide) (by decide)), ((eqM.rf).s0).s28⟩, by rw [ht]; exact hP, va_K.moved hW.alike hK, hD⟩, hS.F ht⟩) hS.2.2 dX6_why_28

set_option maxRecDepth 100000 in
set_option maxHeartbeats 4000000 in
theorem t_holds (l : Launch) (D : va_G) (cA : Nat → ClassId) (sz : Nat) (am : Nat) (r : Nat → Nat) (M : MSt) (n na : Nat) (hI : INVR n na M) (p0 p1 p2 p3 : Int32) : Met l yX6_holds (Cond.code yX6_holds cX6_holds 5 (some .int) :: TT) ({ frames := 3, cells := 0, slots := 0, locals := 67 }) (va_Pc [.ref am, .int p0, .int p1, .int p2, .int p3] (kPre D cA (wM cA am r M) sz)) (va_Qi (fun (r_ : Int32) (x_ : MSt) => INVR n na x_ ∧ eqM M x_) (fun x_ => kB D cA (va_A (wM cA am r M) sz) (wM cA am r x_)) (va_A (wM cA am r M) sz)) 0 0 (va_A (wM cA am r M) sz) := by
  refine Met.ofW (cc := cX6_holds) (maxL := 5) (ret := (some .int)) (by decide) rfl ?_
  intro p e s m args below meth c s₁ B hml hv
  obtain ⟨rfl, hsz, hP, hK, hD0, hTB⟩ := hv
  have hx := B.exec
  have hb := B.bytes
  have hr := B.returns
  have hts := atoms_spec (ws := Cond.code yX6_holds cX6_holds 5 (some .int) :: TT) B.pre
  have htT : ∀ w ∈ TT, w.before _ s = true := fun w h => hts w (List.mem_cons_of_mem _ h)
  have hown : s.vm.findClass RX6 = some m.cls := findClass_of_methodNamed B.named
  have hlocks := B.notSynchronized
  subst hsz
  have hD := hD0.self (sz := s.heap.size)
  generalize hAe : va_A (wM cA am r M) s.heap.size = A at hD ⊢
  have hA : ∀ q : Nat, s.heap.size ≤ q → A q := fun q h => by rw [← hAe]; exact Or.inr h
  have hS : va_S A s.heap s.heap [] := va_S.rf
  have hl := lv_entry ([.ref am, .int p0, .int p1, .int p2, .int p3]) (n := 5) (Nat.le_of_ble_eq_true rfl)
  rw [lg_entry_eq]
  generalize (lg_sl ([.ref am, .int p0, .int p1, .int p2, .int p3]) ++ List.replicate (5 - (lg_sl ([.ref am, .int p0, .int p1, .int p2, .int p3])).length) Slot.unset).toArray = ls at hl ⊢
  have hl : lv_has ls 5 [(0, .ref am), (1, .int p0), (2, .int p1), (3, .int p2), (4, .int p3)] := hl
  have hn8 := hI.n8
  have hna9 := hI.na
  obtain ⟨ru, hok⟩ := id hI.1
  refine lv_aload_n hx hb dX6_holds_0 rfl (lv_at hl 0 rfl) ?_
  refine lv_iload_n hx hb dX6_holds_1 rfl (lv_at hl 1 rfl) ?_
  refine lv_iload_n hx hb dX6_holds_2 rfl (lv_at hl 2 rfl) ?_
  refine lv_iload_n hx hb dX6_holds_3 rfl (lv_at hl 3 rfl) ?_
  refine lv_iload hx hb dX6_holds_4 (lv_at hl 4 rfl) ?_
  have h3_1 : M.1 3 = nI n := hI.h3
  rcases kIn_swx (p := p0) hI.n8 h3_1 with hsw | ⟨i, hi, rfl⟩
  · refine kc_i (va_runV (As := [.int p0, .int p1, .int p2, .int p3]) (rest := []) ⟨hx, hb, hml, hown, htT⟩ (m_isAsked_0 l D cA _ am r M p0 p1 p2 p3 hsw) (cwV 4 htT (kg_V m_ml_X6_175 m_im_X6_isAsked m_sl_X6_isAsked m_in_X6 m_cd_X6_isAsked) rfl rfl rfl (by decide +kernel) ⟨Nat.le_of_ble_eq_true rfl, Nat.le_of_ble_eq_true rfl⟩) (kp_V hK hP hD hTB (km_rc hK hP)) rfl rfl hl.1 rfl (lv_room (Nat.le_of_ble_eq_true rfl)) dX6_holds_6 ⟨Nat.le_of_ble_eq_true rfl, Nat.le_of_ble_eq_true rfl⟩) hD hS hA (fun r_1 x_1 H locs hq_1 hP hD hS => ?_)
    rw [hq_1.1]
    rw [hq_1.2] at hP hD
    refine lv_if_eq (tgt := 23) hx hb dX6_holds_9 (by decide) (fun _ => ?_) (fun c_2 => absurd c_2 (by decide))
    refine lv_iconst (v := 0) hx hb dX6_holds_23 (by decide) ?_
    exact W.iret (v := 0) hx hb hr (fun t ht hW => ⟨⟨0, mS M 0 1, rfl, ⟨(INVR.iS hI (by decide) (by decide)), (eqM.rf).s0⟩, by rw [ht]; exact hP, va_K.moved hW.alike hK, hD⟩, hS.F ht⟩) hS.2.2 dX6_holds_24
  · refine kc_i (va_runV (As := [.int (nI i), .int p1, .int p2, .int p3]) (rest := []) ⟨hx, hb, hml, hown, htT⟩ (m_isAsked_1 l D cA _ am r M n i hi hI.n8 h3_1 p1 p2 p3) (cwV 4 htT (kg_V m_ml_X6_175 m_im_X6_isAsked m_sl_X6_isAsked m_in_X6 m_cd_X6_isAsked) rfl rfl rfl (by decide +kernel) ⟨Nat.le_of_ble_eq_true rfl, Nat.le_of_ble_eq_true rfl⟩) (kp_V hK hP hD hTB (km_rc hK hP)) rfl rfl hl.1 rfl (lv_room (Nat.le_of_ble_eq_true rfl)) dX6_holds_6 ⟨Nat.le_of_ble_eq_true rfl, Nat.le_of_ble_eq_true rfl⟩) hD hS hA (fun r_1 x_1 H locs hq_1 hP hD hS => ?_)
    rcases qAsk_01 p1 p2 p3 with hqa | hqa
    · rw [hq_1.1.trans hqa]
      rw [hq_1.2, if_pos hqa] at hP hD
      refine lv_if_eq (tgt := 23) hx hb dX6_holds_9 (by decide) (fun _ => ?_) (fun c_3 => absurd c_3 (by decide))
      refine lv_iconst (v := 0) hx hb dX6_holds_23 (by decide) ?_
      exact W.iret (v := 0) hx hb hr (fun t ht hW => ⟨⟨0, mS M 0 2, rfl, ⟨(INVR.iS hI (by decide) (by decide)), (eqM.rf).s0⟩, by rw [ht]; exact hP, va_K.moved hW.alike hK, hD⟩, hS.F ht⟩) hS.2.2 dX6_holds_24
    · rw [hq_1.1.trans hqa]
      rw [hq_1.2, if_neg (show ¬ qAsk p1 p2 p3 = 0 by rw [hqa]; decide)] at hP hD
      obtain ⟨uu, huu, rfl⟩ := qAsk_u hqa
      refine lv_if_eq (tgt := 23) hx hb dX6_holds_9 (by decide) (fun c_4 => absurd c_4 (by decide)) (fun _ => ?_)
      refine lv_aload_n hx hb dX6_holds_12 rfl (lv_at hl 0 rfl) ?_
      refine lv_iload_n hx hb dX6_holds_13 rfl (lv_at hl 1 rfl) ?_
      refine lv_iload_n hx hb dX6_holds_14 rfl (lv_at hl 3 rfl) ?_
      refine lv_iload hx hb dX6_holds_15 (lv_at hl 4 rfl) ?_
      refine kc_i (va_runV (As := [.int (nI i), .int p2, .int p3]) (rest := []) ⟨hx, hb, hml, hown, htT⟩ (m_holdsNow l D cA _ am r (mS M 0 0) i (by omega) (ru i) (hok.2.2.2.2 i hi).1 (hok.2.2.2.2 i hi).2.1 p2 p3) (cwV 3 htT (kg_V m_ml_X6_161 m_im_X6_holdsNow m_sl_X6_holdsNow m_in_X6 m_cd_X6_holdsNow) rfl rfl rfl (by decide +kernel) ⟨Nat.le_of_ble_eq_true rfl, Nat.le_of_ble_eq_true rfl⟩) (kp_V hK hP hD hTB (km_rc hK hP)) rfl rfl hl.1 rfl (lv_room (Nat.le_of_ble_eq_true rfl)) dX6_holds_17 ⟨Nat.le_of_ble_eq_true rfl, Nat.le_of_ble_eq_true rfl⟩) hD hS hA (fun r_5 x_5 H locs hq_5 hP hD hS => ?_)
      rw [hq_5.1]
      rw [hq_5.2] at hP hD
      refine lv_goto (tgt := 24) hx hb dX6_holds_20 (by decide) ?_
      exact W.iret (v := rHold M.2 i p2 p3 (ru i) 0) hx hb hr (fun t ht hW => ⟨⟨rHold M.2 i p2 p3 (ru i) 0, mS M 0 0, rfl, ⟨(INVR.iS hI (by decide) (by decide)), (eqM.rf).s0⟩, by rw [ht]; exact hP, va_K.moved hW.alike hK, hD⟩, hS.F ht⟩) hS.2.2 dX6_holds_24

set_option maxRecDepth 100000 in
set_option maxHeartbeats 4000000 in
theorem m_moveUp_18 (l : Launch) (D : va_G) (cA : Nat → ClassId) (sz : Nat) (am : Nat) (r : Nat → Nat) (M : MSt) (ta te : Nat) (hte : te ≤ 40) (hat : ta + 1 ≤ te) : Met l yX6_moveUp (Cond.code yX6_moveUp cX6_moveUp 3 none :: TT) ({ frames := 1, cells := 0, slots := 0, locals := 60 }) (va_Pc [.ref (r 18), .int (nI ta), .int (nI te)] (kPre D cA (wM cA am r M) sz)) (va_Qv (fun (x_ : MSt) => ∃ f, x_ = mU M 18 f) (fun x_ => kB D cA (va_A (wM cA am r M) sz) (wM cA am r x_)) (va_A (wM cA am r M) sz)) 0 0 (va_A (wM cA am r M) sz) := by
  refine Met.ofW (cc := cX6_moveUp) (maxL := 3) (ret := none) (by decide) rfl ?_
  intro p e s m args below meth c s₁ B hml hv
  obtain ⟨rfl, hsz, hP, hK, hD0, hTB⟩ := hv
  have hx := B.exec
  have hb := B.bytes
  have hr := B.returns
  have hts := atoms_spec (ws := Cond.code yX6_moveUp cX6_moveUp 3 none :: TT) B.pre
  have htT : ∀ w ∈ TT, w.before _ s = true := fun w h => hts w (List.mem_cons_of_mem _ h)
  have hown : s.vm.findClass RX6 = some m.cls := findClass_of_methodNamed B.named
  have hlocks := B.notSynchronized
  subst hsz
  have hD := hD0.self (sz := s.heap.size)
  generalize hAe : va_A (wM cA am r M) s.heap.size = A at hD ⊢
  have hA : ∀ q : Nat, s.heap.size ≤ q → A q := fun q h => by rw [← hAe]; exact Or.inr h
  have hS : va_S A s.heap s.heap [] := va_S.rf
  have hl := lv_entry ([.ref (r 18), .int (nI ta), .int (nI te)]) (n := 3) (Nat.le_of_ble_eq_true rfl)
  rw [lg_entry_eq]
  generalize (lg_sl ([.ref (r 18), .int (nI ta), .int (nI te)]) ++ List.replicate (3 - (lg_sl ([.ref (r 18), .int (nI ta), .int (nI te)])).length) Slot.unset).toArray = ls at hl ⊢
  have hl : lv_has ls 3 [(0, .ref (r 18)), (1, .int (nI ta)), (2, .int (nI te))] := hl
  refine lv_aload_n hx hb dX6_moveUp_0 rfl (lv_at hl 0 rfl) ?_
  refine lv_iload_n hx hb dX6_moveUp_1 rfl (lv_at hl 1 rfl) ?_
  refine lv_iconst (v := 1) hx hb dX6_moveUp_2 (by decide) ?_
  refine lv_iadd hx hb dX6_moveUp_3 ?_
  rw [show ((nI ta) + 1 : Int32) = nI (ta + 1) from nI_add ta 1]
  refine lv_aload_n hx hb dX6_moveUp_4 rfl (lv_at hl 0 rfl) ?_
  refine lv_iload_n hx hb dX6_moveUp_5 rfl (lv_at hl 1 rfl) ?_
  refine lv_iload_n hx hb dX6_moveUp_6 rfl (lv_at hl 2 rfl) ?_
  refine lv_iload_n hx hb dX6_moveUp_7 rfl (lv_at hl 1 rfl) ?_
  refine lv_isub hx hb dX6_moveUp_8 ?_
  rw [show ((nI te) - (nI ta) : Int32) = nI (te - ta) from pk_sub (a := te) (b := ta) (by omega)]
  refine lv_iconst (v := 1) hx hb dX6_moveUp_9 (by decide) ?_
  refine lv_isub hx hb dX6_moveUp_10 ?_
  rw [show ((nI (te - ta)) - 1 : Int32) = nI ((te - ta) - 1) from pk_sub (a := te - ta) (b := 1) (by omega)]
  refine va_copyi hx hb (hml.trans hl.1.symm) hown (htT _ m_ml_X6_126) (htT _ m_nt_ac) (htT _ m_st_ac) (htT _ m_in_sys) hK hP hD hS (mPos 18) (mPos 18) 0 0 (wM_k rfl) (wM_k rfl) rfl rfl rfl (fun h9 => by have := (nI_ltI (a := ta + 1) (b := 0) (by omega) (by omega)).mp h9; omega) (fun h9 => by have := (nI_ltI (a := ta) (b := 0) (by omega) (by omega)).mp h9; omega) (fun h9 => by have := (nI_ltI (a := te - ta - 1) (b := 0) (by omega) (by omega)).mp h9; omega) (by rw [ki_cl (by omega), ki_cl (by omega)]; show _ ≤ 40; omega) (by rw [ki_cl (by omega), ki_cl (by omega)]; show _ ≤ 40; omega) (fun _ _ => rfl) (Nat.le_of_ble_eq_true rfl) (Nat.le_of_ble_eq_true rfl) dX6_moveUp_11 (fun H locs hP hD hS => ?_)
  have eW := wM_setk (cA := cA) (am := am) (r := r) (M := M) (k := 18) (f := va_cpy (M.2 18) (M.2 18) (nI (ta + 1)).toNatClampNeg (nI ta).toNatClampNeg (nI (te - ta - 1)).toNatClampNeg) rfl
  have hP : va_P D vwCl (wM cA am r (mU M 18 (va_cpy (M.2 18) (M.2 18) (nI (ta + 1)).toNatClampNeg (nI ta).toNatClampNeg (nI (te - ta - 1)).toNatClampNeg))) H := by rw [show wM cA am r (mU M 18 (va_cpy (M.2 18) (M.2 18) (nI (ta + 1)).toNatClampNeg (nI ta).toNatClampNeg (nI (te - ta - 1)).toNatClampNeg)) = _ from eW.symm]; exact hP
  have hD : va_D A (wM cA am r (mU M 18 (va_cpy (M.2 18) (M.2 18) (nI (ta + 1)).toNatClampNeg (nI ta).toNatClampNeg (nI (te - ta - 1)).toNatClampNeg))) := by rw [show wM cA am r (mU M 18 (va_cpy (M.2 18) (M.2 18) (nI (ta + 1)).toNatClampNeg (nI ta).toNatClampNeg (nI (te - ta - 1)).toNatClampNeg)) = _ from eW.symm]; exact hD
  exact W.vret hx hb hr (fun t ht hW => ⟨⟨mU M 18 (va_cpy (M.2 18) (M.2 18) (nI (ta + 1)).toNatClampNeg (nI ta).toNatClampNeg (nI (te - ta - 1)).toNatClampNeg), rfl, ⟨_, rfl⟩, by rw [ht]; exact hP, va_K.moved hW.alike hK, hD⟩, hS.F ht⟩) hS.2.2 dX6_moveUp_14

set_option maxRecDepth 100000 in
set_option maxHeartbeats 4000000 in
theorem m_moveUp_19 (l : Launch) (D : va_G) (cA : Nat → ClassId) (sz : Nat) (am : Nat) (r : Nat → Nat) (M : MSt) (ta te : Nat) (hte : te ≤ 40) (hat : ta + 1 ≤ te) : Met l yX6_moveUp (Cond.code yX6_moveUp cX6_moveUp 3 none :: TT) ({ frames := 1, cells := 0, slots := 0, locals := 60 }) (va_Pc [.ref (r 19), .int (nI ta), .int (nI te)] (kPre D cA (wM cA am r M) sz)) (va_Qv (fun (x_ : MSt) => ∃ f, x_ = mU M 19 f) (fun x_ => kB D cA (va_A (wM cA am r M) sz) (wM cA am r x_)) (va_A (wM cA am r M) sz)) 0 0 (va_A (wM cA am r M) sz) := by
  refine Met.ofW (cc := cX6_moveUp) (maxL := 3) (ret := none) (by decide) rfl ?_
  intro p e s m args below meth c s₁ B hml hv
  obtain ⟨rfl, hsz, hP, hK, hD0, hTB⟩ := hv
  have hx := B.exec
  have hb := B.bytes
  have hr := B.returns
  have hts := atoms_spec (ws := Cond.code yX6_moveUp cX6_moveUp 3 none :: TT) B.pre
  have htT : ∀ w ∈ TT, w.before _ s = true := fun w h => hts w (List.mem_cons_of_mem _ h)
  have hown : s.vm.findClass RX6 = some m.cls := findClass_of_methodNamed B.named
  have hlocks := B.notSynchronized
  subst hsz
  have hD := hD0.self (sz := s.heap.size)
  generalize hAe : va_A (wM cA am r M) s.heap.size = A at hD ⊢
  have hA : ∀ q : Nat, s.heap.size ≤ q → A q := fun q h => by rw [← hAe]; exact Or.inr h
  have hS : va_S A s.heap s.heap [] := va_S.rf
  have hl := lv_entry ([.ref (r 19), .int (nI ta), .int (nI te)]) (n := 3) (Nat.le_of_ble_eq_true rfl)
  rw [lg_entry_eq]
  generalize (lg_sl ([.ref (r 19), .int (nI ta), .int (nI te)]) ++ List.replicate (3 - (lg_sl ([.ref (r 19), .int (nI ta), .int (nI te)])).length) Slot.unset).toArray = ls at hl ⊢
  have hl : lv_has ls 3 [(0, .ref (r 19)), (1, .int (nI ta)), (2, .int (nI te))] := hl
  refine lv_aload_n hx hb dX6_moveUp_0 rfl (lv_at hl 0 rfl) ?_
  refine lv_iload_n hx hb dX6_moveUp_1 rfl (lv_at hl 1 rfl) ?_
  refine lv_iconst (v := 1) hx hb dX6_moveUp_2 (by decide) ?_
  refine lv_iadd hx hb dX6_moveUp_3 ?_
  rw [show ((nI ta) + 1 : Int32) = nI (ta + 1) from nI_add ta 1]
  refine lv_aload_n hx hb dX6_moveUp_4 rfl (lv_at hl 0 rfl) ?_
  refine lv_iload_n hx hb dX6_moveUp_5 rfl (lv_at hl 1 rfl) ?_
  refine lv_iload_n hx hb dX6_moveUp_6 rfl (lv_at hl 2 rfl) ?_
  refine lv_iload_n hx hb dX6_moveUp_7 rfl (lv_at hl 1 rfl) ?_
  refine lv_isub hx hb dX6_moveUp_8 ?_
  rw [show ((nI te) - (nI ta) : Int32) = nI (te - ta) from pk_sub (a := te) (b := ta) (by omega)]
  refine lv_iconst (v := 1) hx hb dX6_moveUp_9 (by decide) ?_
  refine lv_isub hx hb dX6_moveUp_10 ?_
  rw [show ((nI (te - ta)) - 1 : Int32) = nI ((te - ta) - 1) from pk_sub (a := te - ta) (b := 1) (by omega)]
  refine va_copyi hx hb (hml.trans hl.1.symm) hown (htT _ m_ml_X6_126) (htT _ m_nt_ac) (htT _ m_st_ac) (htT _ m_in_sys) hK hP hD hS (mPos 19) (mPos 19) 0 0 (wM_k rfl) (wM_k rfl) rfl rfl rfl (fun h9 => by have := (nI_ltI (a := ta + 1) (b := 0) (by omega) (by omega)).mp h9; omega) (fun h9 => by have := (nI_ltI (a := ta) (b := 0) (by omega) (by omega)).mp h9; omega) (fun h9 => by have := (nI_ltI (a := te - ta - 1) (b := 0) (by omega) (by omega)).mp h9; omega) (by rw [ki_cl (by omega), ki_cl (by omega)]; show _ ≤ 40; omega) (by rw [ki_cl (by omega), ki_cl (by omega)]; show _ ≤ 40; omega) (fun _ _ => rfl) (Nat.le_of_ble_eq_true rfl) (Nat.le_of_ble_eq_true rfl) dX6_moveUp_11 (fun H locs hP hD hS => ?_)
  have eW := wM_setk (cA := cA) (am := am) (r := r) (M := M) (k := 19) (f := va_cpy (M.2 19) (M.2 19) (nI (ta + 1)).toNatClampNeg (nI ta).toNatClampNeg (nI (te - ta - 1)).toNatClampNeg) rfl
  have hP : va_P D vwCl (wM cA am r (mU M 19 (va_cpy (M.2 19) (M.2 19) (nI (ta + 1)).toNatClampNeg (nI ta).toNatClampNeg (nI (te - ta - 1)).toNatClampNeg))) H := by rw [show wM cA am r (mU M 19 (va_cpy (M.2 19) (M.2 19) (nI (ta + 1)).toNatClampNeg (nI ta).toNatClampNeg (nI (te - ta - 1)).toNatClampNeg)) = _ from eW.symm]; exact hP
  have hD : va_D A (wM cA am r (mU M 19 (va_cpy (M.2 19) (M.2 19) (nI (ta + 1)).toNatClampNeg (nI ta).toNatClampNeg (nI (te - ta - 1)).toNatClampNeg))) := by rw [show wM cA am r (mU M 19 (va_cpy (M.2 19) (M.2 19) (nI (ta + 1)).toNatClampNeg (nI ta).toNatClampNeg (nI (te - ta - 1)).toNatClampNeg)) = _ from eW.symm]; exact hD
  exact W.vret hx hb hr (fun t ht hW => ⟨⟨mU M 19 (va_cpy (M.2 19) (M.2 19) (nI (ta + 1)).toNatClampNeg (nI ta).toNatClampNeg (nI (te - ta - 1)).toNatClampNeg), rfl, ⟨_, rfl⟩, by rw [ht]; exact hP, va_K.moved hW.alike hK, hD⟩, hS.F ht⟩) hS.2.2 dX6_moveUp_14

set_option maxRecDepth 100000 in
set_option maxHeartbeats 4000000 in
theorem m_moveUp_20 (l : Launch) (D : va_G) (cA : Nat → ClassId) (sz : Nat) (am : Nat) (r : Nat → Nat) (M : MSt) (ta te : Nat) (hte : te ≤ 40) (hat : ta + 1 ≤ te) : Met l yX6_moveUp (Cond.code yX6_moveUp cX6_moveUp 3 none :: TT) ({ frames := 1, cells := 0, slots := 0, locals := 60 }) (va_Pc [.ref (r 20), .int (nI ta), .int (nI te)] (kPre D cA (wM cA am r M) sz)) (va_Qv (fun (x_ : MSt) => ∃ f, x_ = mU M 20 f) (fun x_ => kB D cA (va_A (wM cA am r M) sz) (wM cA am r x_)) (va_A (wM cA am r M) sz)) 0 0 (va_A (wM cA am r M) sz) := by
  refine Met.ofW (cc := cX6_moveUp) (maxL := 3) (ret := none) (by decide) rfl ?_
  intro p e s m args below meth c s₁ B hml hv
  obtain ⟨rfl, hsz, hP, hK, hD0, hTB⟩ := hv
  have hx := B.exec
  have hb := B.bytes
  have hr := B.returns
  have hts := atoms_spec (ws := Cond.code yX6_moveUp cX6_moveUp 3 none :: TT) B.pre
  have htT : ∀ w ∈ TT, w.before _ s = true := fun w h => hts w (List.mem_cons_of_mem _ h)
  have hown : s.vm.findClass RX6 = some m.cls := findClass_of_methodNamed B.named
  have hlocks := B.notSynchronized
  subst hsz
  have hD := hD0.self (sz := s.heap.size)
  generalize hAe : va_A (wM cA am r M) s.heap.size = A at hD ⊢
  have hA : ∀ q : Nat, s.heap.size ≤ q → A q := fun q h => by rw [← hAe]; exact Or.inr h
  have hS : va_S A s.heap s.heap [] := va_S.rf
  have hl := lv_entry ([.ref (r 20), .int (nI ta), .int (nI te)]) (n := 3) (Nat.le_of_ble_eq_true rfl)
  rw [lg_entry_eq]
  generalize (lg_sl ([.ref (r 20), .int (nI ta), .int (nI te)]) ++ List.replicate (3 - (lg_sl ([.ref (r 20), .int (nI ta), .int (nI te)])).length) Slot.unset).toArray = ls at hl ⊢
  have hl : lv_has ls 3 [(0, .ref (r 20)), (1, .int (nI ta)), (2, .int (nI te))] := hl
  refine lv_aload_n hx hb dX6_moveUp_0 rfl (lv_at hl 0 rfl) ?_
  refine lv_iload_n hx hb dX6_moveUp_1 rfl (lv_at hl 1 rfl) ?_
  refine lv_iconst (v := 1) hx hb dX6_moveUp_2 (by decide) ?_
  refine lv_iadd hx hb dX6_moveUp_3 ?_
  rw [show ((nI ta) + 1 : Int32) = nI (ta + 1) from nI_add ta 1]
  refine lv_aload_n hx hb dX6_moveUp_4 rfl (lv_at hl 0 rfl) ?_
  refine lv_iload_n hx hb dX6_moveUp_5 rfl (lv_at hl 1 rfl) ?_
  refine lv_iload_n hx hb dX6_moveUp_6 rfl (lv_at hl 2 rfl) ?_
  refine lv_iload_n hx hb dX6_moveUp_7 rfl (lv_at hl 1 rfl) ?_
  refine lv_isub hx hb dX6_moveUp_8 ?_
  rw [show ((nI te) - (nI ta) : Int32) = nI (te - ta) from pk_sub (a := te) (b := ta) (by omega)]
  refine lv_iconst (v := 1) hx hb dX6_moveUp_9 (by decide) ?_
  refine lv_isub hx hb dX6_moveUp_10 ?_
  rw [show ((nI (te - ta)) - 1 : Int32) = nI ((te - ta) - 1) from pk_sub (a := te - ta) (b := 1) (by omega)]
  refine va_copyi hx hb (hml.trans hl.1.symm) hown (htT _ m_ml_X6_126) (htT _ m_nt_ac) (htT _ m_st_ac) (htT _ m_in_sys) hK hP hD hS (mPos 20) (mPos 20) 0 0 (wM_k rfl) (wM_k rfl) rfl rfl rfl (fun h9 => by have := (nI_ltI (a := ta + 1) (b := 0) (by omega) (by omega)).mp h9; omega) (fun h9 => by have := (nI_ltI (a := ta) (b := 0) (by omega) (by omega)).mp h9; omega) (fun h9 => by have := (nI_ltI (a := te - ta - 1) (b := 0) (by omega) (by omega)).mp h9; omega) (by rw [ki_cl (by omega), ki_cl (by omega)]; show _ ≤ 40; omega) (by rw [ki_cl (by omega), ki_cl (by omega)]; show _ ≤ 40; omega) (fun _ _ => rfl) (Nat.le_of_ble_eq_true rfl) (Nat.le_of_ble_eq_true rfl) dX6_moveUp_11 (fun H locs hP hD hS => ?_)
  have eW := wM_setk (cA := cA) (am := am) (r := r) (M := M) (k := 20) (f := va_cpy (M.2 20) (M.2 20) (nI (ta + 1)).toNatClampNeg (nI ta).toNatClampNeg (nI (te - ta - 1)).toNatClampNeg) rfl
  have hP : va_P D vwCl (wM cA am r (mU M 20 (va_cpy (M.2 20) (M.2 20) (nI (ta + 1)).toNatClampNeg (nI ta).toNatClampNeg (nI (te - ta - 1)).toNatClampNeg))) H := by rw [show wM cA am r (mU M 20 (va_cpy (M.2 20) (M.2 20) (nI (ta + 1)).toNatClampNeg (nI ta).toNatClampNeg (nI (te - ta - 1)).toNatClampNeg)) = _ from eW.symm]; exact hP
  have hD : va_D A (wM cA am r (mU M 20 (va_cpy (M.2 20) (M.2 20) (nI (ta + 1)).toNatClampNeg (nI ta).toNatClampNeg (nI (te - ta - 1)).toNatClampNeg))) := by rw [show wM cA am r (mU M 20 (va_cpy (M.2 20) (M.2 20) (nI (ta + 1)).toNatClampNeg (nI ta).toNatClampNeg (nI (te - ta - 1)).toNatClampNeg)) = _ from eW.symm]; exact hD
  exact W.vret hx hb hr (fun t ht hW => ⟨⟨mU M 20 (va_cpy (M.2 20) (M.2 20) (nI (ta + 1)).toNatClampNeg (nI ta).toNatClampNeg (nI (te - ta - 1)).toNatClampNeg), rfl, ⟨_, rfl⟩, by rw [ht]; exact hP, va_K.moved hW.alike hK, hD⟩, hS.F ht⟩) hS.2.2 dX6_moveUp_14

set_option maxRecDepth 100000 in
set_option maxHeartbeats 4000000 in
theorem m_moveUp_21 (l : Launch) (D : va_G) (cA : Nat → ClassId) (sz : Nat) (am : Nat) (r : Nat → Nat) (M : MSt) (ta te : Nat) (hte : te ≤ 40) (hat : ta + 1 ≤ te) : Met l yX6_moveUp (Cond.code yX6_moveUp cX6_moveUp 3 none :: TT) ({ frames := 1, cells := 0, slots := 0, locals := 60 }) (va_Pc [.ref (r 21), .int (nI ta), .int (nI te)] (kPre D cA (wM cA am r M) sz)) (va_Qv (fun (x_ : MSt) => ∃ f, x_ = mU M 21 f) (fun x_ => kB D cA (va_A (wM cA am r M) sz) (wM cA am r x_)) (va_A (wM cA am r M) sz)) 0 0 (va_A (wM cA am r M) sz) := by
  refine Met.ofW (cc := cX6_moveUp) (maxL := 3) (ret := none) (by decide) rfl ?_
  intro p e s m args below meth c s₁ B hml hv
  obtain ⟨rfl, hsz, hP, hK, hD0, hTB⟩ := hv
  have hx := B.exec
  have hb := B.bytes
  have hr := B.returns
  have hts := atoms_spec (ws := Cond.code yX6_moveUp cX6_moveUp 3 none :: TT) B.pre
  have htT : ∀ w ∈ TT, w.before _ s = true := fun w h => hts w (List.mem_cons_of_mem _ h)
  have hown : s.vm.findClass RX6 = some m.cls := findClass_of_methodNamed B.named
  have hlocks := B.notSynchronized
  subst hsz
  have hD := hD0.self (sz := s.heap.size)
  generalize hAe : va_A (wM cA am r M) s.heap.size = A at hD ⊢
  have hA : ∀ q : Nat, s.heap.size ≤ q → A q := fun q h => by rw [← hAe]; exact Or.inr h
  have hS : va_S A s.heap s.heap [] := va_S.rf
  have hl := lv_entry ([.ref (r 21), .int (nI ta), .int (nI te)]) (n := 3) (Nat.le_of_ble_eq_true rfl)
  rw [lg_entry_eq]
  generalize (lg_sl ([.ref (r 21), .int (nI ta), .int (nI te)]) ++ List.replicate (3 - (lg_sl ([.ref (r 21), .int (nI ta), .int (nI te)])).length) Slot.unset).toArray = ls at hl ⊢
  have hl : lv_has ls 3 [(0, .ref (r 21)), (1, .int (nI ta)), (2, .int (nI te))] := hl
  refine lv_aload_n hx hb dX6_moveUp_0 rfl (lv_at hl 0 rfl) ?_
  refine lv_iload_n hx hb dX6_moveUp_1 rfl (lv_at hl 1 rfl) ?_
  refine lv_iconst (v := 1) hx hb dX6_moveUp_2 (by decide) ?_
  refine lv_iadd hx hb dX6_moveUp_3 ?_
  rw [show ((nI ta) + 1 : Int32) = nI (ta + 1) from nI_add ta 1]
  refine lv_aload_n hx hb dX6_moveUp_4 rfl (lv_at hl 0 rfl) ?_
  refine lv_iload_n hx hb dX6_moveUp_5 rfl (lv_at hl 1 rfl) ?_
  refine lv_iload_n hx hb dX6_moveUp_6 rfl (lv_at hl 2 rfl) ?_
  refine lv_iload_n hx hb dX6_moveUp_7 rfl (lv_at hl 1 rfl) ?_
  refine lv_isub hx hb dX6_moveUp_8 ?_
  rw [show ((nI te) - (nI ta) : Int32) = nI (te - ta) from pk_sub (a := te) (b := ta) (by omega)]
  refine lv_iconst (v := 1) hx hb dX6_moveUp_9 (by decide) ?_
  refine lv_isub hx hb dX6_moveUp_10 ?_
  rw [show ((nI (te - ta)) - 1 : Int32) = nI ((te - ta) - 1) from pk_sub (a := te - ta) (b := 1) (by omega)]
  refine va_copyi hx hb (hml.trans hl.1.symm) hown (htT _ m_ml_X6_126) (htT _ m_nt_ac) (htT _ m_st_ac) (htT _ m_in_sys) hK hP hD hS (mPos 21) (mPos 21) 0 0 (wM_k rfl) (wM_k rfl) rfl rfl rfl (fun h9 => by have := (nI_ltI (a := ta + 1) (b := 0) (by omega) (by omega)).mp h9; omega) (fun h9 => by have := (nI_ltI (a := ta) (b := 0) (by omega) (by omega)).mp h9; omega) (fun h9 => by have := (nI_ltI (a := te - ta - 1) (b := 0) (by omega) (by omega)).mp h9; omega) (by rw [ki_cl (by omega), ki_cl (by omega)]; show _ ≤ 40; omega) (by rw [ki_cl (by omega), ki_cl (by omega)]; show _ ≤ 40; omega) (fun _ _ => rfl) (Nat.le_of_ble_eq_true rfl) (Nat.le_of_ble_eq_true rfl) dX6_moveUp_11 (fun H locs hP hD hS => ?_)
  have eW := wM_setk (cA := cA) (am := am) (r := r) (M := M) (k := 21) (f := va_cpy (M.2 21) (M.2 21) (nI (ta + 1)).toNatClampNeg (nI ta).toNatClampNeg (nI (te - ta - 1)).toNatClampNeg) rfl
  have hP : va_P D vwCl (wM cA am r (mU M 21 (va_cpy (M.2 21) (M.2 21) (nI (ta + 1)).toNatClampNeg (nI ta).toNatClampNeg (nI (te - ta - 1)).toNatClampNeg))) H := by rw [show wM cA am r (mU M 21 (va_cpy (M.2 21) (M.2 21) (nI (ta + 1)).toNatClampNeg (nI ta).toNatClampNeg (nI (te - ta - 1)).toNatClampNeg)) = _ from eW.symm]; exact hP
  have hD : va_D A (wM cA am r (mU M 21 (va_cpy (M.2 21) (M.2 21) (nI (ta + 1)).toNatClampNeg (nI ta).toNatClampNeg (nI (te - ta - 1)).toNatClampNeg))) := by rw [show wM cA am r (mU M 21 (va_cpy (M.2 21) (M.2 21) (nI (ta + 1)).toNatClampNeg (nI ta).toNatClampNeg (nI (te - ta - 1)).toNatClampNeg)) = _ from eW.symm]; exact hD
  exact W.vret hx hb hr (fun t ht hW => ⟨⟨mU M 21 (va_cpy (M.2 21) (M.2 21) (nI (ta + 1)).toNatClampNeg (nI ta).toNatClampNeg (nI (te - ta - 1)).toNatClampNeg), rfl, ⟨_, rfl⟩, by rw [ht]; exact hP, va_K.moved hW.alike hK, hD⟩, hS.F ht⟩) hS.2.2 dX6_moveUp_14

