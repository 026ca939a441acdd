/-! more of what stays -/
abbrev mU (M : MSt) (k : Nat) (f : Nat → Int32) : MSt := (M.1, va_up M.2 k f)
theorem qAsk_u {u f g : Int32} (h : qAsk u f g = 1) : ∃ uu, uu ≤ 9999 ∧ u = nI uu := by
  unfold qAsk at h
  rcases kIn_01 u 0 9999 with h1 | h1
  · rw [if_pos h1] at h; exact absurd h (by decide)
  · obtain ⟨k, -, hk, e⟩ := kIn_nat 0 9999 (by omega) (by omega) h1
    exact ⟨k, hk, e⟩
theorem qAsk_01 (u f g : Int32) : qAsk u f g = 0 ∨ qAsk u f g = 1 := by
  unfold qAsk
  split
  · exact Or.inl rfl
  · split
    · exact Or.inl rfl
    · split
      · exact Or.inl rfl
      · exact Or.inr rfl
theorem m_nt_ac : Cond.native arraycopyName ∈ TT := tt_m5 14 (by decide +kernel) (by decide +kernel)
theorem m_st_ac : Cond.static arraycopyName ∈ TT := tt_m5 13 (by decide +kernel) (by decide +kernel)
theorem m_in_sys : Cond.initialized "java/lang/System" ∈ TT := tt_m1 14 (by decide +kernel) (by decide +kernel)
set_option maxRecDepth 100000 in
set_option maxHeartbeats 4000000 in
theorem t_gets (l : Launch) (D : va_G) (cA : Nat → ClassId) (sz : Nat) (am : Nat) (r : Nat → Nat) (M : MSt) (n na : Nat) (hI : INVR n na M) (p0 p1 p2 p3 : Int32) : Met l yX6_gets (Cond.code yX6_gets cX6_gets 5 (some .int) :: TT) ({ frames := 18, cells := 0, slots := 0, locals := 964 }) (va_Pc [.ref am, .int p0, .int p1, .int p2, .int p3] (kPre D cA (wM cA am r M) sz)) (va_Qi (fun (r_ : Int32) (x_ : MSt) => ∃ n2, INVR n n2 x_ ∧ x_.1 1 = M.1 1 ∧ x_.1 2 = M.1 2) (fun x_ => kB D cA (va_A (wM cA am r M) sz) (wM cA am r x_)) (va_A (wM cA am r M) sz)) 0 0 (va_A (wM cA am r M) sz) := by
  refine Met.ofW (cc := cX6_gets) (maxL := 5) (ret := (some .int)) (by decide) rfl ?_
  intro p e s m args below meth c s₁ B hml hv
  obtain ⟨rfl, hsz, hP, hK, hD0, hTB⟩ := hv
  have hx := B.exec
  have hb := B.bytes
  have hr := B.returns
  have hts := atoms_spec (ws := Cond.code yX6_gets cX6_gets 5 (some .int) :: TT) B.pre
  have htT : ∀ w ∈ TT, w.before _ s = true := fun w h => hts w (List.mem_cons_of_mem _ h)
  have hown : s.vm.findClass RX6 = some m.cls := findClass_of_methodNamed B.named
  have hlocks := B.notSynchronized
  subst hsz
  have hD := hD0.self (sz := s.heap.size)
  generalize hAe : va_A (wM cA am r M) s.heap.size = A at hD ⊢
  have hA : ∀ q : Nat, s.heap.size ≤ q → A q := fun q h => by rw [← hAe]; exact Or.inr h
  have hS : va_S A s.heap s.heap [] := va_S.rf
  have hl := lv_entry ([.ref am, .int p0, .int p1, .int p2, .int p3]) (n := 5) (Nat.le_of_ble_eq_true rfl)
  rw [lg_entry_eq]
  generalize (lg_sl ([.ref am, .int p0, .int p1, .int p2, .int p3]) ++ List.replicate (5 - (lg_sl ([.ref am, .int p0, .int p1, .int p2, .int p3])).length) Slot.unset).toArray = ls at hl ⊢
  have hl : lv_has ls 5 [(0, .ref am), (1, .int p0), (2, .int p1), (3, .int p2), (4, .int p3)] := hl
  have hn8 := hI.n8
  have hna9 := hI.na
  obtain ⟨ru, hok⟩ := id hI.1
  refine lv_aload_n hx hb dX6_gets_0 rfl (lv_at hl 0 rfl) ?_
  refine lv_iload_n hx hb dX6_gets_1 rfl (lv_at hl 1 rfl) ?_
  refine lv_iload_n hx hb dX6_gets_2 rfl (lv_at hl 2 rfl) ?_
  refine lv_iload_n hx hb dX6_gets_3 rfl (lv_at hl 3 rfl) ?_
  refine lv_iload hx hb dX6_gets_4 (lv_at hl 4 rfl) ?_
  have h3_1 : M.1 3 = nI n := hI.h3
  rcases kIn_swx (p := p0) hI.n8 h3_1 with hsw | ⟨i, hi, rfl⟩
  · refine kc_i (va_runV (As := [.int p0, .int p1, .int p2, .int p3]) (rest := []) ⟨hx, hb, hml, hown, htT⟩ (m_isAsked_0 l D cA _ am r M p0 p1 p2 p3 hsw) (cwV 4 htT (kg_V m_ml_X6_175 m_im_X6_isAsked m_sl_X6_isAsked m_in_X6 m_cd_X6_isAsked) rfl rfl rfl (by decide +kernel) ⟨Nat.le_of_ble_eq_true rfl, Nat.le_of_ble_eq_true rfl⟩) (kp_V hK hP hD hTB (km_rc hK hP)) rfl rfl hl.1 rfl (lv_room (Nat.le_of_ble_eq_true rfl)) dX6_gets_6 ⟨Nat.le_of_ble_eq_true rfl, Nat.le_of_ble_eq_true rfl⟩) hD hS hA (fun r_1 x_1 H locs hq_1 hP hD hS => ?_)
    rw [hq_1.1]
    rw [hq_1.2] at hP hD
    refine lv_if_eq (tgt := 24) hx hb dX6_gets_9 (by decide) (fun _ => ?_) (fun c_2 => absurd c_2 (by decide))
    refine lv_iconst (v := 0) hx hb dX6_gets_24 (by decide) ?_
    exact W.iret (v := 0) hx hb hr (fun t ht hW => ⟨⟨0, mS M 0 1, rfl, ⟨na, (INVR.iS hI (by decide) (by decide)), rfl, rfl⟩, by rw [ht]; exact hP, va_K.moved hW.alike hK, hD⟩, hS.F ht⟩) hS.2.2 dX6_gets_25
  · refine kc_i (va_runV (As := [.int (nI i), .int p1, .int p2, .int p3]) (rest := []) ⟨hx, hb, hml, hown, htT⟩ (m_isAsked_1 l D cA _ am r M n i hi hI.n8 h3_1 p1 p2 p3) (cwV 4 htT (kg_V m_ml_X6_175 m_im_X6_isAsked m_sl_X6_isAsked m_in_X6 m_cd_X6_isAsked) rfl rfl rfl (by decide +kernel) ⟨Nat.le_of_ble_eq_true rfl, Nat.le_of_ble_eq_true rfl⟩) (kp_V hK hP hD hTB (km_rc hK hP)) rfl rfl hl.1 rfl (lv_room (Nat.le_of_ble_eq_true rfl)) dX6_gets_6 ⟨Nat.le_of_ble_eq_true rfl, Nat.le_of_ble_eq_true rfl⟩) hD hS hA (fun r_1 x_1 H locs hq_1 hP hD hS => ?_)
    rcases qAsk_01 p1 p2 p3 with hqa | hqa
    · rw [hq_1.1.trans hqa]
      rw [hq_1.2, if_pos hqa] at hP hD
      refine lv_if_eq (tgt := 24) hx hb dX6_gets_9 (by decide) (fun _ => ?_) (fun c_3 => absurd c_3 (by decide))
      refine lv_iconst (v := 0) hx hb dX6_gets_24 (by decide) ?_
      exact W.iret (v := 0) hx hb hr (fun t ht hW => ⟨⟨0, mS M 0 2, rfl, ⟨na, (INVR.iS hI (by decide) (by decide)), rfl, rfl⟩, by rw [ht]; exact hP, va_K.moved hW.alike hK, hD⟩, hS.F ht⟩) hS.2.2 dX6_gets_25
    · rw [hq_1.1.trans hqa]
      rw [hq_1.2, if_neg (show ¬ qAsk p1 p2 p3 = 0 by rw [hqa]; decide)] at hP hD
      obtain ⟨uu, huu, rfl⟩ := qAsk_u hqa
      refine lv_if_eq (tgt := 24) hx hb dX6_gets_9 (by decide) (fun c_4 => absurd c_4 (by decide)) (fun _ => ?_)
      refine lv_aload_n hx hb dX6_gets_12 rfl (lv_at hl 0 rfl) ?_
      refine lv_iload_n hx hb dX6_gets_13 rfl (lv_at hl 1 rfl) ?_
      refine lv_iload_n hx hb dX6_gets_14 rfl (lv_at hl 2 rfl) ?_
      refine lv_iload_n hx hb dX6_gets_15 rfl (lv_at hl 3 rfl) ?_
      refine lv_iload hx hb dX6_gets_16 (lv_at hl 4 rfl) ?_
      refine kc_i (va_runV (As := [.int (nI i), .int (nI uu), .int p2, .int p3]) (rest := []) ⟨hx, hb, hml, hown, htT⟩ (m_PO l D cA am r n na ru 7 _ i (mS M 0 0) uu p2 p3 (by omega) (by omega) (by omega) hok) (cwV 4 htT (kg_V m_ml_X6_154 m_im_X6_getsOf m_sl_X6_getsOf m_in_X6 m_cd_X6_getsOf) rfl rfl rfl (by decide +kernel) ⟨Nat.le_of_ble_eq_true rfl, Nat.le_of_ble_eq_true rfl⟩) (kp_V hK hP hD hTB (km_rc hK hP)) rfl rfl hl.1 rfl (lv_room (Nat.le_of_ble_eq_true rfl)) dX6_gets_18 ⟨Nat.le_of_ble_eq_true rfl, Nat.le_of_ble_eq_true rfl⟩) hD hS hA (fun r_5 x_5 H locs hq_5 hP hD hS => ?_)
      obtain ⟨ρ_5, eρ_5⟩ : ∃ ρ, x_5 = mS (mS M 0 0) 28 ρ := ⟨_, hq_5.2⟩
      rw [eρ_5] at hP hD
      refine lv_goto (tgt := 25) hx hb dX6_gets_21 (by decide) ?_
      exact W.iret (v := r_5) hx hb hr (fun t ht hW => ⟨⟨r_5, mS (mS M 0 0) 28 ρ_5, rfl, ⟨na, (INVR.iS (INVR.iS hI (by decide) (by decide)) (by decide) (by decide)), rfl, rfl⟩, by rw [ht]; exact hP, va_K.moved hW.alike hK, hD⟩, hS.F ht⟩) hS.2.2 dX6_gets_25

set_option maxRecDepth 100000 in
set_option maxHeartbeats 4000000 in
theorem t_why (l : Launch) (D : va_G) (cA : Nat → ClassId) (sz : Nat) (am : Nat) (r : Nat → Nat) (M : MSt) (n na : Nat) (hI : INVR n na M) (p0 p1 p2 p3 : Int32) : Met l yX6_why (Cond.code yX6_why cX6_why 5 (some .int) :: TT) ({ frames := 18, cells := 0, slots := 0, locals := 964 }) (va_Pc [.ref am, .int p0, .int p1, .int p2, .int p3] (kPre D cA (wM cA am r M) sz)) (va_Qi (fun (r_ : Int32) (x_ : MSt) => ∃ n2, INVR n n2 x_ ∧ x_.1 1 = M.1 1 ∧ x_.1 2 = M.1 2) (fun x_ => kB D cA (va_A (wM cA am r M) sz) (wM cA am r x_)) (va_A (wM cA am r M) sz)) 0 0 (va_A (wM cA am r M) sz) := by
  refine Met.ofW (cc := cX6_why) (maxL := 5) (ret := (some .int)) (by decide) rfl ?_
  intro p e s m args below meth c s₁ B hml hv
  obtain ⟨rfl, hsz, hP, hK, hD0, hTB⟩ := hv
  have hx := B.exec
  have hb := B.bytes
  have hr := B.returns
  have hts := atoms_spec (ws := Cond.code yX6_why cX6_why 5 (some .int) :: TT) B.pre
  have htT : ∀ w ∈ TT, w.before _ s = true := fun w h => hts w (List.mem_cons_of_mem _ h)
  have hown : s.vm.findClass RX6 = some m.cls := findClass_of_methodNamed B.named
  have hlocks := B.notSynchronized
  subst hsz
  have hD := hD0.self (sz := s.heap.size)
  generalize hAe : va_A (wM cA am r M) s.heap.size = A at hD ⊢
  have hA : ∀ q : Nat, s.heap.size ≤ q → A q := fun q h => by rw [← hAe]; exact Or.inr h
  have hS : va_S A s.heap s.heap [] := va_S.rf
  have hl := lv_entry ([.ref am, .int p0, .int p1, .int p2, .int p3]) (n := 5) (Nat.le_of_ble_eq_true rfl)
  rw [lg_entry_eq]
  generalize (lg_sl ([.ref am, .int p0, .int p1, .int p2, .int p3]) ++ List.replicate (5 - (lg_sl ([.ref am, .int p0, .int p1, .int p2, .int p3])).length) Slot.unset).toArray = ls at hl ⊢
  have hl : lv_has ls 5 [(0, .ref am), (1, .int p0), (2, .int p1), (3, .int p2), (4, .int p3)] := hl
  have hn8 := hI.n8
  have hna9 := hI.na
  obtain ⟨ru, hok⟩ := id hI.1
  refine lv_aload_n hx hb dX6_why_0 rfl (lv_at hl 0 rfl) ?_
  refine lv_iload_n hx hb dX6_why_1 rfl (lv_at hl 1 rfl) ?_
  refine lv_iload_n hx hb dX6_why_2 rfl (lv_at hl 2 rfl) ?_
  refine lv_iload_n hx hb dX6_why_3 rfl (lv_at hl 3 rfl) ?_
  refine lv_iload hx hb dX6_why_4 (lv_at hl 4 rfl) ?_
  have h3_1 : M.1 3 = nI n := hI.h3
  rcases kIn_swx (p := p0) hI.n8 h3_1 with hsw | ⟨i, hi, rfl⟩
  · refine kc_i (va_runV (As := [.int p0, .int p1, .int p2, .int p3]) (rest := []) ⟨hx, hb, hml, hown, htT⟩ (m_isAsked_0 l D cA _ am r M p0 p1 p2 p3 hsw) (cwV 4 htT (kg_V m_ml_X6_175 m_im_X6_isAsked m_sl_X6_isAsked m_in_X6 m_cd_X6_isAsked) rfl rfl rfl (by decide +kernel) ⟨Nat.le_of_ble_eq_true rfl, Nat.le_of_ble_eq_true rfl⟩) (kp_V hK hP hD hTB (km_rc hK hP)) rfl rfl hl.1 rfl (lv_room (Nat.le_of_ble_eq_true rfl)) dX6_why_6 ⟨Nat.le_of_ble_eq_true rfl, Nat.le_of_ble_eq_true rfl⟩) hD hS hA (fun r_1 x_1 H locs hq_1 hP hD hS => ?_)
    rw [hq_1.1]
    rw [hq_1.2] at hP hD
    refine lv_if_ne (tgt := 14) hx hb dX6_why_9 (by decide) (fun c_2 => absurd c_2 (by decide)) (fun _ => ?_)
    refine lv_iconst (v := 0) hx hb dX6_why_12 (by decide) ?_
    exact W.iret (v := 0) hx hb hr (fun t ht hW => ⟨⟨0, mS M 0 1, rfl, ⟨na, (INVR.iS hI (by decide) (by decide)), rfl, rfl⟩, by rw [ht]; exact hP, va_K.moved hW.alike hK, hD⟩, hS.F ht⟩) hS.2.2 dX6_why_13
  · refine kc_i (va_runV (As := [.int (nI i), .int p1, .int p2, .int p3]) (rest := []) ⟨hx, hb, hml, hown, htT⟩ (m_isAsked_1 l D cA _ am r M n i hi hI.n8 h3_1 p1 p2 p3) (cwV 4 htT (kg_V m_ml_X6_175 m_im_X6_isAsked m_sl_X6_isAsked m_in_X6 m_cd_X6_isAsked) rfl rfl rfl (by decide +kernel) ⟨Nat.le_of_ble_eq_true rfl, Nat.le_of_ble_eq_true rfl⟩) (kp_V hK hP hD hTB (km_rc hK hP)) rfl rfl hl.1 rfl (lv_room (Nat.le_of_ble_eq_true rfl)) dX6_why_6 ⟨Nat.le_of_ble_eq_true rfl, Nat.le_of_ble_eq_true rfl⟩) hD hS hA (fun r_1 x_1 H locs hq_1 hP hD hS => ?_)
    rcases qAsk_01 p1 p2 p3 with hqa | hqa
    · rw [hq_1.1.trans hqa]
      rw [hq_1.2, if_pos hqa] at hP hD
      refine lv_if_ne (tgt := 14) hx hb dX6_why_9 (by decide) (fun c_3 => absurd c_3 (by decide)) (fun _ => ?_)
      refine lv_iconst (v := 0) hx hb dX6_why_12 (by decide) ?_
      exact W.iret (v := 0) hx hb hr (fun t ht hW => ⟨⟨0, mS M 0 2, rfl, ⟨na, (INVR.iS hI (by decide) (by decide)), rfl, rfl⟩, by rw [ht]; exact hP, va_K.moved hW.alike hK, hD⟩, hS.F ht⟩) hS.2.2 dX6_why_13
    · rw [hq_1.1.trans hqa]
      rw [hq_1.2, if_neg (show ¬ qAsk p1 p2 p3 = 0 by rw [hqa]; decide)] at hP hD
      obtain ⟨uu, huu, rfl⟩ := qAsk_u hqa
      refine lv_if_ne (tgt := 14) hx hb dX6_why_9 (by decide) (fun _ => ?_) (fun c_4 => absurd c_4 (by decide))
      refine lv_aload_n hx hb dX6_why_14 rfl (lv_at hl 0 rfl) ?_
      refine lv_iload_n hx hb dX6_why_15 rfl (lv_at hl 1 rfl) ?_
      refine lv_iload_n hx hb dX6_why_16 rfl (lv_at hl 2 rfl) ?_
      refine lv_iload_n hx hb dX6_why_17 rfl (lv_at hl 3 rfl) ?_
      refine lv_iload hx hb dX6_why_18 (lv_at hl 4 rfl) ?_
      refine kc_i (va_runV (As := [.int (nI i), .int (nI uu), .int p2, .int p3]) (rest := []) ⟨hx, hb, hml, hown, htT⟩ (m_PO l D cA am r n na ru 7 _ i (mS M 0 0) uu p2 p3 (by omega) (by omega) (by omega) hok) (cwV 4 htT (kg_V m_ml_X6_154 m_im_X6_getsOf m_sl_X6_getsOf m_in_X6 m_cd_X6_getsOf) rfl rfl rfl (by decide +kernel) ⟨Nat.le_of_ble_eq_true rfl, Nat.le_of_ble_eq_true rfl⟩) (kp_V hK hP hD hTB (km_rc hK hP)) rfl rfl hl.1 rfl (lv_room (Nat.le_of_ble_eq_true rfl)) dX6_why_20 ⟨Nat.le_of_ble_eq_true rfl, Nat.le_of_ble_eq_true rfl⟩) hD hS hA (fun r_5 x_5 H locs hq_5 hP hD hS => ?_)
      obtain ⟨ρ_5, eρ_5⟩ : ∃ ρ, x_5 = mS (mS M 0 0) 28 ρ := ⟨_, hq_5.2⟩
      rw [eρ_5] at hP hD
      refine lv_pop hx hb dX6_why_23 rfl ?_
      refine lv_aload_n hx hb dX6_why_24 rfl (lv_at hl 0 rfl) ?_
      refine km_getiv (x := ρ_5) hx hb htT hown hK hP 28 (by decide) rfl (htT _ m_fl_X6_165) rfl dX6_why_25 ?_
      exact W.iret (v := ρ_5) hx hb hr (fun t ht hW => ⟨⟨ρ_5, mS (mS M 0 0) 28 ρ_5, rfl, ⟨na, (INVR.iS (INVR.iS hI (by decide) (by decide)) (by decide) (by decide)), rfl, rfl⟩, by rw [ht]; exact hP, va_K.moved hW.alike hK, hD⟩, hS.F ht⟩) hS.2.2 dX6_why_28

set_option maxRecDepth 100000 in
set_option maxHeartbeats 4000000 in
theorem t_holds (l : Launch) (D : va_G) (cA : Nat → ClassId) (sz : Nat) (am : Nat) (r : Nat → Nat) (M : MSt) (n na : Nat) (hI : INVR n na M) (p0 p1 p2 p3 : Int32) : Met l yX6_holds (Cond.code yX6_holds cX6_holds 5 (some .int) :: TT) ({ frames := 3, cells := 0, slots := 0, locals := 67 }) (va_Pc [.ref am, .int p0, .int p1, .int p2, .int p3] (kPre D cA (wM cA am r M) sz)) (va_Qi (fun (r_ : Int32) (x_ : MSt) => ∃ n2, INVR n n2 x_ ∧ x_.1 1 = M.1 1 ∧ x_.1 2 = M.1 2) (fun x_ => kB D cA (va_A (wM cA am r M) sz) (wM cA am r x_)) (va_A (wM cA am r M) sz)) 0 0 (va_A (wM cA am r M) sz) := by
  refine Met.ofW (cc := cX6_holds) (maxL := 5) (ret := (some .int)) (by decide) rfl ?_
  intro p e s m args below meth c s₁ B hml hv
  obtain ⟨rfl, hsz, hP, hK, hD0, hTB⟩ := hv
  have hx := B.exec
  have hb := B.bytes
  have hr := B.returns
  have hts := atoms_spec (ws := Cond.code yX6_holds cX6_holds 5 (some .int) :: TT) B.pre
  have htT : ∀ w ∈ TT, w.before _ s = true := fun w h => hts w (List.mem_cons_of_mem _ h)
  have hown : s.vm.findClass RX6 = some m.cls := findClass_of_methodNamed B.named
  have hlocks := B.notSynchronized
  subst hsz
  have hD := hD0.self (sz := s.heap.size)
  generalize hAe : va_A (wM cA am r M) s.heap.size = A at hD ⊢
  have hA : ∀ q : Nat, s.heap.size ≤ q → A q := fun q h => by rw [← hAe]; exact Or.inr h
  have hS : va_S A s.heap s.heap [] := va_S.rf
  have hl := lv_entry ([.ref am, .int p0, .int p1, .int p2, .int p3]) (n := 5) (Nat.le_of_ble_eq_true rfl)
  rw [lg_entry_eq]
  generalize (lg_sl ([.ref am, .int p0, .int p1, .int p2, .int p3]) ++ List.replicate (5 - (lg_sl ([.ref am, .int p0, .int p1, .int p2, .int p3])).length) Slot.unset).toArray = ls at hl ⊢
  have hl : lv_has ls 5 [(0, .ref am), (1, .int p0), (2, .int p1), (3, .int p2), (4, .int p3)] := hl
  have hn8 := hI.n8
  have hna9 := hI.na
  obtain ⟨ru, hok⟩ := id hI.1
  refine lv_aload_n hx hb dX6_holds_0 rfl (lv_at hl 0 rfl) ?_
  refine lv_iload_n hx hb dX6_holds_1 rfl (lv_at hl 1 rfl) ?_
  refine lv_iload_n hx hb dX6_holds_2 rfl (lv_at hl 2 rfl) ?_
  refine lv_iload_n hx hb dX6_holds_3 rfl (lv_at hl 3 rfl) ?_
  refine lv_iload hx hb dX6_holds_4 (lv_at hl 4 rfl) ?_
  have h3_1 : M.1 3 = nI n := hI.h3
  rcases kIn_swx (p := p0) hI.n8 h3_1 with hsw | ⟨i, hi, rfl⟩
  · refine kc_i (va_runV (As := [.int p0, .int p1, .int p2, .int p3]) (rest := []) ⟨hx, hb, hml, hown, htT⟩ (m_isAsked_0 l D cA _ am r M p0 p1 p2 p3 hsw) (cwV 4 htT (kg_V m_ml_X6_175 m_im_X6_isAsked m_sl_X6_isAsked m_in_X6 m_cd_X6_isAsked) rfl rfl rfl (by decide +kernel) ⟨Nat.le_of_ble_eq_true rfl, Nat.le_of_ble_eq_true rfl⟩) (kp_V hK hP hD hTB (km_rc hK hP)) rfl rfl hl.1 rfl (lv_room (Nat.le_of_ble_eq_true rfl)) dX6_holds_6 ⟨Nat.le_of_ble_eq_true rfl, Nat.le_of_ble_eq_true rfl⟩) hD hS hA (fun r_1 x_1 H locs hq_1 hP hD hS => ?_)
    rw [hq_1.1]
    rw [hq_1.2] at hP hD
    refine lv_if_eq (tgt := 23) hx hb dX6_holds_9 (by decide) (fun _ => ?_) (fun c_2 => absurd c_2 (by decide))
    refine lv_iconst (v := 0) hx hb dX6_holds_23 (by decide) ?_
    exact W.iret (v := 0) hx hb hr (fun t ht hW => ⟨⟨0, mS M 0 1, rfl, ⟨na, (INVR.iS hI (by decide) (by decide)), rfl, rfl⟩, by rw [ht]; exact hP, va_K.moved hW.alike hK, hD⟩, hS.F ht⟩) hS.2.2 dX6_holds_24
  · refine kc_i (va_runV (As := [.int (nI i), .int p1, .int p2, .int p3]) (rest := []) ⟨hx, hb, hml, hown, htT⟩ (m_isAsked_1 l D cA _ am r M n i hi hI.n8 h3_1 p1 p2 p3) (cwV 4 htT (kg_V m_ml_X6_175 m_im_X6_isAsked m_sl_X6_isAsked m_in_X6 m_cd_X6_isAsked) rfl rfl rfl (by decide +kernel) ⟨Nat.le_of_ble_eq_true rfl, Nat.le_of_ble_eq_true rfl⟩) (kp_V hK hP hD hTB (km_rc hK hP)) rfl rfl hl.1 rfl (lv_room (Nat.le_of_ble_eq_true rfl)) dX6_holds_6 ⟨Nat.le_of_ble_eq_true rfl, Nat.le_of_ble_eq_true rfl⟩) hD hS hA (fun r_1 x_1 H locs hq_1 hP hD hS => ?_)
    rcases qAsk_01 p1 p2 p3 with hqa | hqa
    · rw [hq_1.1.trans hqa]
      rw [hq_1.2, if_pos hqa] at hP hD
      refine lv_if_eq (tgt := 23) hx hb dX6_holds_9 (by decide) (fun _ => ?_) (fun c_3 => absurd c_3 (by decide))
      refine lv_iconst (v := 0) hx hb dX6_holds_23 (by decide) ?_
      exact W.iret (v := 0) hx hb hr (fun t ht hW => ⟨⟨0, mS M 0 2, rfl, ⟨na, (INVR.iS hI (by decide) (by decide)), rfl, rfl⟩, by rw [ht]; exact hP, va_K.moved hW.alike hK, hD⟩, hS.F ht⟩) hS.2.2 dX6_holds_24
    · rw [hq_1.1.trans hqa]
      rw [hq_1.2, if_neg (show ¬ qAsk p1 p2 p3 = 0 by rw [hqa]; decide)] at hP hD
      obtain ⟨uu, huu, rfl⟩ := qAsk_u hqa
      refine lv_if_eq (tgt := 23) hx hb dX6_holds_9 (by decide) (fun c_4 => absurd c_4 (by decide)) (fun _ => ?_)
      refine lv_aload_n hx hb dX6_holds_12 rfl (lv_at hl 0 rfl) ?_
      refine lv_iload_n hx hb dX6_holds_13 rfl (lv_at hl 1 rfl) ?_
      refine lv_iload_n hx hb dX6_holds_14 rfl (lv_at hl 3 rfl) ?_
      refine lv_iload hx hb dX6_holds_15 (lv_at hl 4 rfl) ?_
      refine kc_i (va_runV (As := [.int (nI i), .int p2, .int p3]) (rest := []) ⟨hx, hb, hml, hown, htT⟩ (m_holdsNow l D cA _ am r (mS M 0 0) i (by omega) (ru i) (hok.2.2.2.2 i hi).1 (hok.2.2.2.2 i hi).2.1 p2 p3) (cwV 3 htT (kg_V m_ml_X6_161 m_im_X6_holdsNow m_sl_X6_holdsNow m_in_X6 m_cd_X6_holdsNow) rfl rfl rfl (by decide +kernel) ⟨Nat.le_of_ble_eq_true rfl, Nat.le_of_ble_eq_true rfl⟩) (kp_V hK hP hD hTB (km_rc hK hP)) rfl rfl hl.1 rfl (lv_room (Nat.le_of_ble_eq_true rfl)) dX6_holds_17 ⟨Nat.le_of_ble_eq_true rfl, Nat.le_of_ble_eq_true rfl⟩) hD hS hA (fun r_5 x_5 H locs hq_5 hP hD hS => ?_)
      rw [hq_5.1]
      rw [hq_5.2] at hP hD
      refine lv_goto (tgt := 24) hx hb dX6_holds_20 (by decide) ?_
      exact W.iret (v := rHold M.2 i p2 p3 (ru i) 0) hx hb hr (fun t ht hW => ⟨⟨rHold M.2 i p2 p3 (ru i) 0, mS M 0 0, rfl, ⟨na, (INVR.iS hI (by decide) (by decide)), rfl, rfl⟩, by rw [ht]; exact hP, va_K.moved hW.alike hK, hD⟩, hS.F ht⟩) hS.2.2 dX6_holds_24

set_option maxRecDepth 100000 in
set_option maxHeartbeats 4000000 in
theorem t_ask (l : Launch) (D : va_G) (cA : Nat → ClassId) (sz : Nat) (am : Nat) (r : Nat → Nat) (M : MSt) (n na : Nat) (hI : INVR n na M) (p0 p1 p2 p3 : Int32) : Met l yX6_ask (Cond.code yX6_ask cX6_ask 6 (some .int) :: TT) ({ frames := 18, cells := 0, slots := 0, locals := 964 }) (va_Pc [.ref am, .int p0, .int p1, .int p2, .int p3] (kPre D cA (wM cA am r M) sz)) (va_Qi (fun (r_ : Int32) (x_ : MSt) => ∃ n2, INVR n n2 x_ ∧ x_.1 1 = M.1 1 ∧ x_.1 2 = M.1 2) (fun x_ => kB D cA (va_A (wM cA am r M) sz) (wM cA am r x_)) (va_A (wM cA am r M) sz)) 0 0 (va_A (wM cA am r M) sz) := by
  refine Met.ofW (cc := cX6_ask) (maxL := 6) (ret := (some .int)) (by decide) rfl ?_
  intro p e s m args below meth c s₁ B hml hv
  obtain ⟨rfl, hsz, hP, hK, hD0, hTB⟩ := hv
  have hx := B.exec
  have hb := B.bytes
  have hr := B.returns
  have hts := atoms_spec (ws := Cond.code yX6_ask cX6_ask 6 (some .int) :: TT) B.pre
  have htT : ∀ w ∈ TT, w.before _ s = true := fun w h => hts w (List.mem_cons_of_mem _ h)
  have hown : s.vm.findClass RX6 = some m.cls := findClass_of_methodNamed B.named
  have hlocks := B.notSynchronized
  subst hsz
  have hD := hD0.self (sz := s.heap.size)
  generalize hAe : va_A (wM cA am r M) s.heap.size = A at hD ⊢
  have hA : ∀ q : Nat, s.heap.size ≤ q → A q := fun q h => by rw [← hAe]; exact Or.inr h
  have hS : va_S A s.heap s.heap [] := va_S.rf
  have hl := lv_entry ([.ref am, .int p0, .int p1, .int p2, .int p3]) (n := 6) (Nat.le_of_ble_eq_true rfl)
  rw [lg_entry_eq]
  generalize (lg_sl ([.ref am, .int p0, .int p1, .int p2, .int p3]) ++ List.replicate (6 - (lg_sl ([.ref am, .int p0, .int p1, .int p2, .int p3])).length) Slot.unset).toArray = ls at hl ⊢
  have hl : lv_has ls 6 [(0, .ref am), (1, .int p0), (2, .int p1), (3, .int p2), (4, .int p3)] := hl
  have hn8 := hI.n8
  have hna9 := hI.na
  obtain ⟨ru, hok⟩ := id hI.1
  refine lv_aload_n hx hb dX6_ask_0 rfl (lv_at hl 0 rfl) ?_
  refine lv_iload_n hx hb dX6_ask_1 rfl (lv_at hl 1 rfl) ?_
  refine lv_iload_n hx hb dX6_ask_2 rfl (lv_at hl 2 rfl) ?_
  refine lv_iload_n hx hb dX6_ask_3 rfl (lv_at hl 3 rfl) ?_
  refine lv_iload hx hb dX6_ask_4 (lv_at hl 4 rfl) ?_
  have h3_1 : M.1 3 = nI n := hI.h3
  rcases kIn_swx (p := p0) hI.n8 h3_1 with hsw | ⟨i, hi, rfl⟩
  · refine kc_i (va_runV (As := [.int p0, .int p1, .int p2, .int p3]) (rest := []) ⟨hx, hb, hml, hown, htT⟩ (m_isAsked_0 l D cA _ am r M p0 p1 p2 p3 hsw) (cwV 4 htT (kg_V m_ml_X6_175 m_im_X6_isAsked m_sl_X6_isAsked m_in_X6 m_cd_X6_isAsked) rfl rfl rfl (by decide +kernel) ⟨Nat.le_of_ble_eq_true rfl, Nat.le_of_ble_eq_true rfl⟩) (kp_V hK hP hD hTB (km_rc hK hP)) rfl rfl hl.1 rfl (lv_room (Nat.le_of_ble_eq_true rfl)) dX6_ask_6 ⟨Nat.le_of_ble_eq_true rfl, Nat.le_of_ble_eq_true rfl⟩) hD hS hA (fun r_1 x_1 H locs hq_1 hP hD hS => ?_)
    rw [hq_1.1]
    rw [hq_1.2] at hP hD
    refine lv_if_ne (tgt := 14) hx hb dX6_ask_9 (by decide) (fun c_2 => absurd c_2 (by decide)) (fun _ => ?_)
    refine lv_iconst (v := 0) hx hb dX6_ask_12 (by decide) ?_
    exact W.iret (v := 0) hx hb hr (fun t ht hW => ⟨⟨0, mS M 0 1, rfl, ⟨na, (INVR.iS hI (by decide) (by decide)), rfl, rfl⟩, by rw [ht]; exact hP, va_K.moved hW.alike hK, hD⟩, hS.F ht⟩) hS.2.2 dX6_ask_13
  · refine kc_i (va_runV (As := [.int (nI i), .int p1, .int p2, .int p3]) (rest := []) ⟨hx, hb, hml, hown, htT⟩ (m_isAsked_1 l D cA _ am r M n i hi hI.n8 h3_1 p1 p2 p3) (cwV 4 htT (kg_V m_ml_X6_175 m_im_X6_isAsked m_sl_X6_isAsked m_in_X6 m_cd_X6_isAsked) rfl rfl rfl (by decide +kernel) ⟨Nat.le_of_ble_eq_true rfl, Nat.le_of_ble_eq_true rfl⟩) (kp_V hK hP hD hTB (km_rc hK hP)) rfl rfl hl.1 rfl (lv_room (Nat.le_of_ble_eq_true rfl)) dX6_ask_6 ⟨Nat.le_of_ble_eq_true rfl, Nat.le_of_ble_eq_true rfl⟩) hD hS hA (fun r_1 x_1 H locs hq_1 hP hD hS => ?_)
    rcases qAsk_01 p1 p2 p3 with hqa | hqa
    · rw [hq_1.1.trans hqa]
      rw [hq_1.2, if_pos hqa] at hP hD
      refine lv_if_ne (tgt := 14) hx hb dX6_ask_9 (by decide) (fun c_3 => absurd c_3 (by decide)) (fun _ => ?_)
      refine lv_iconst (v := 0) hx hb dX6_ask_12 (by decide) ?_
      exact W.iret (v := 0) hx hb hr (fun t ht hW => ⟨⟨0, mS M 0 2, rfl, ⟨na, (INVR.iS hI (by decide) (by decide)), rfl, rfl⟩, by rw [ht]; exact hP, va_K.moved hW.alike hK, hD⟩, hS.F ht⟩) hS.2.2 dX6_ask_13
    · rw [hq_1.1.trans hqa]
      rw [hq_1.2, if_neg (show ¬ qAsk p1 p2 p3 = 0 by rw [hqa]; decide)] at hP hD
      obtain ⟨uu, huu, rfl⟩ := qAsk_u hqa
      refine lv_if_ne (tgt := 14) hx hb dX6_ask_9 (by decide) (fun _ => ?_) (fun c_4 => absurd c_4 (by decide))
      refine lv_aload_n hx hb dX6_ask_14 rfl (lv_at hl 0 rfl) ?_
      refine lv_iload_n hx hb dX6_ask_15 rfl (lv_at hl 1 rfl) ?_
      refine lv_iload_n hx hb dX6_ask_16 rfl (lv_at hl 2 rfl) ?_
      refine lv_iload_n hx hb dX6_ask_17 rfl (lv_at hl 3 rfl) ?_
      refine lv_iload hx hb dX6_ask_18 (lv_at hl 4 rfl) ?_
      refine kc_i (va_runV (As := [.int (nI i), .int (nI uu), .int p2, .int p3]) (rest := []) ⟨hx, hb, hml, hown, htT⟩ (m_PO l D cA am r n na ru 7 _ i (mS M 0 0) uu p2 p3 (by omega) (by omega) (by omega) hok) (cwV 4 htT (kg_V m_ml_X6_154 m_im_X6_getsOf m_sl_X6_getsOf m_in_X6 m_cd_X6_getsOf) rfl rfl rfl (by decide +kernel) ⟨Nat.le_of_ble_eq_true rfl, Nat.le_of_ble_eq_true rfl⟩) (kp_V hK hP hD hTB (km_rc hK hP)) rfl rfl hl.1 rfl (lv_room (Nat.le_of_ble_eq_true rfl)) dX6_ask_20 ⟨Nat.le_of_ble_eq_true rfl, Nat.le_of_ble_eq_true rfl⟩) hD hS hA (fun r_5 x_5 H locs hq_5 hP hD hS => ?_)
      obtain ⟨ρ_5, eρ_5⟩ : ∃ ρ, x_5 = mS (mS M 0 0) 28 ρ := ⟨_, hq_5.2⟩
      rw [eρ_5] at hP hD
      refine lv_istore (lv' := [(5, .int r_5), (0, .ref am), (1, .int (nI i)), (2, .int (nI uu)), (3, .int p2), (4, .int p3)]) hx hb dX6_ask_23 hl (by decide) rfl (fun ls hl => ?_)
      refine lv_aload_n hx hb dX6_ask_25 rfl (lv_at hl 1 rfl) ?_
      refine km_getiv (x := ρ_5) hx hb htT hown hK hP 28 (by decide) rfl (htT _ m_fl_X6_165) rfl dX6_ask_26 ?_
      refine lv_bipush (v := 8) hx hb dX6_ask_29 (by decide) ?_
      refine lv_icmp_ne (tgt := 91) hx hb dX6_ask_31 (by decide) (fun c_6 => ?_) (fun c_6 => ?_)
      · refine lv_iload hx hb dX6_ask_91 (lv_at hl 0 rfl) ?_
        exact W.iret (v := r_5) hx hb hr (fun t ht hW => ⟨⟨r_5, mS (mS M 0 0) 28 ρ_5, rfl, ⟨na, (INVR.iS (INVR.iS hI (by decide) (by decide)) (by decide) (by decide)), rfl, rfl⟩, by rw [ht]; exact hP, va_K.moved hW.alike hK, hD⟩, hS.F ht⟩) hS.2.2 dX6_ask_93
      · refine lv_aload_n hx hb dX6_ask_34 rfl (lv_at hl 1 rfl) ?_
        refine km_getiv (x := nI na) hx hb htT hown hK hP 22 (by decide) rfl (htT _ m_fl_X6_151) hI.h22 dX6_ask_35 ?_
        refine lv_bipush (v := 100) hx hb dX6_ask_38 (by decide) ?_
        refine lv_icmp_ge (tgt := 91) hx hb dX6_ask_40 (by decide) (fun c_7 => ?_) (fun c_7 => ?_)
        · replace c_7 := (nI_leI (a := 100) (b := na) (by omega) (by omega)).mp c_7
          refine lv_iload hx hb dX6_ask_91 (lv_at hl 0 rfl) ?_
          exact W.iret (v := r_5) hx hb hr (fun t ht hW => ⟨⟨r_5, mS (mS M 0 0) 28 ρ_5, rfl, ⟨na, (INVR.iS (INVR.iS hI (by decide) (by decide)) (by decide) (by decide)), rfl, rfl⟩, by rw [ht]; exact hP, va_K.moved hW.alike hK, hD⟩, hS.F ht⟩) hS.2.2 dX6_ask_93
        · replace c_7 : ¬ (100 ≤ na) := fun h9 => c_7 ((nI_leI (a := 100) (b := na) (by omega) (by omega)).mpr h9)
          refine lv_aload_n hx hb dX6_ask_43 rfl (lv_at hl 1 rfl) ?_
          refine lv_iload_n hx hb dX6_ask_44 rfl (lv_at hl 2 rfl) ?_
          refine lv_iload_n hx hb dX6_ask_45 rfl (lv_at hl 3 rfl) ?_
          refine kc_i (va_runV (As := [.int (nI i), .int (nI uu)]) (rest := []) ⟨hx, hb, hml, hown, htT⟩ (m_armAt l D cA _ am r (mS (mS M 0 0) 28 ρ_5) na hI.na hI.h22 (nI i) (nI uu)) (cwV 2 htT (kg_V m_ml_X6_158 m_im_X6_armAt m_sl_X6_armAt m_in_X6 m_cd_X6_armAt) rfl rfl rfl (by decide +kernel) ⟨Nat.le_of_ble_eq_true rfl, Nat.le_of_ble_eq_true rfl⟩) (kp_V hK hP hD hTB (km_rc hK hP)) rfl rfl hl.1 rfl (lv_room (Nat.le_of_ble_eq_true rfl)) dX6_ask_46 ⟨Nat.le_of_ble_eq_true rfl, Nat.le_of_ble_eq_true rfl⟩) hD hS hA (fun r_8 x_8 H locs hq_8 hP hD hS => ?_)
          rw [hq_8.2] at hP hD
          refine lv_iconst (v := (-1)) hx hb dX6_ask_49 (by decide) ?_
          refine lv_icmp_ne (tgt := 91) hx hb dX6_ask_50 (by decide) (fun c_9 => ?_) (fun c_9 => ?_)
          · refine lv_iload hx hb dX6_ask_91 (lv_at hl 0 rfl) ?_
            exact W.iret (v := r_5) hx hb hr (fun t ht hW => ⟨⟨r_5, mS (mS M 0 0) 28 ρ_5, rfl, ⟨na, (INVR.iS (INVR.iS hI (by decide) (by decide)) (by decide) (by decide)), rfl, rfl⟩, by rw [ht]; exact hP, va_K.moved hW.alike hK, hD⟩, hS.F ht⟩) hS.2.2 dX6_ask_93
          · refine lv_aload_n hx hb dX6_ask_53 rfl (lv_at hl 1 rfl) ?_
            refine km_getr hx hb htT hown hK hP 23 (by decide) rfl (htT _ m_fl_X6_65) dX6_ask_54 ?_
            refine lv_aload_n hx hb dX6_ask_57 rfl (lv_at hl 1 rfl) ?_
            refine km_getiv (x := nI na) hx hb htT hown hK hP 22 (by decide) rfl (htT _ m_fl_X6_151) hI.h22 dX6_ask_58 ?_
            refine lv_iload_n hx hb dX6_ask_61 rfl (lv_at hl 2 rfl) ?_
            refine km_iast hx hb hK hP hD hS 23 rfl rfl (show vp_in (nI (na)) 100 from ki_in (by omega) (by decide)) dX6_ask_62 (fun H locs hP hD hS => ?_)
            rw [ki_cl (n := na) (by omega)] at hP hD
            refine lv_aload_n hx hb dX6_ask_63 rfl (lv_at hl 1 rfl) ?_
            refine km_getr hx hb htT hown hK hP 24 (by decide) rfl (htT _ m_fl_X6_68) dX6_ask_64 ?_
            refine lv_aload_n hx hb dX6_ask_67 rfl (lv_at hl 1 rfl) ?_
            refine km_getiv (x := nI na) hx hb htT hown hK hP 22 (by decide) rfl (htT _ m_fl_X6_151) hI.h22 dX6_ask_68 ?_
            refine lv_iload_n hx hb dX6_ask_71 rfl (lv_at hl 3 rfl) ?_
            refine km_iast hx hb hK hP hD hS 24 rfl rfl (show vp_in (nI (na)) 100 from ki_in (by omega) (by decide)) dX6_ask_72 (fun H locs hP hD hS => ?_)
            rw [ki_cl (n := na) (by omega)] at hP hD
            refine lv_aload_n hx hb dX6_ask_73 rfl (lv_at hl 1 rfl) ?_
            refine km_getr hx hb htT hown hK hP 25 (by decide) rfl (htT _ m_fl_X6_71) dX6_ask_74 ?_
            refine lv_aload_n hx hb dX6_ask_77 rfl (lv_at hl 1 rfl) ?_
            refine lv_dup hx hb dX6_ask_78 rfl ?_
            refine km_getiv (x := nI na) hx hb htT hown hK hP 22 (by decide) rfl (htT _ m_fl_X6_151) hI.h22 dX6_ask_79 ?_
            refine lv_dup_x1 hx hb dX6_ask_82 rfl rfl ?_
            refine lv_iconst (v := 1) hx hb dX6_ask_83 (by decide) ?_
            refine lv_iadd hx hb dX6_ask_84 ?_
            rw [show ((nI na) + 1 : Int32) = nI (na + 1) from nI_add na 1]
            refine km_puti hx hb htT hown hK hP hD hS 22 (by decide) rfl (htT _ m_fl_X6_151) rfl (by decide +kernel) dX6_ask_85 (fun H locs hP hD hS => ?_)
            refine lv_iload hx hb dX6_ask_88 (lv_at hl 0 rfl) ?_
            refine km_iast hx hb hK hP hD hS 25 rfl rfl (show vp_in (nI (na)) 100 from ki_in (by omega) (by decide)) dX6_ask_90 (fun H locs hP hD hS => ?_)
            rw [ki_cl (n := na) (by omega)] at hP hD
            refine lv_iload hx hb dX6_ask_91 (lv_at hl 0 rfl) ?_
            exact W.iret (v := r_5) hx hb hr (fun t ht hW => ⟨⟨r_5, mR (mS (mR (mR (mS (mS M 0 0) 28 ρ_5) 23 na (nI i)) 24 na (nI uu)) 22 (nI (na + 1))) 25 na r_5, rfl, ⟨na + 1, (INVR.iR (INVR.arm (INVR.iR (INVR.iR (INVR.iS (INVR.iS hI (by decide) (by decide)) (by decide) (by decide)) (by decide)) (by decide)) (by omega)) (by decide)), rfl, rfl⟩, by rw [ht]; exact hP, va_K.moved hW.alike hK, hD⟩, hS.F ht⟩) hS.2.2 dX6_ask_93

set_option maxRecDepth 100000 in
set_option maxHeartbeats 4000000 in
theorem t_hold (l : Launch) (D : va_G) (cA : Nat → ClassId) (sz : Nat) (am : Nat) (r : Nat → Nat) (M : MSt) (n na : Nat) (hI : INVR n na M) (p0 : Int32) : Met l yX6_hold (Cond.code yX6_hold cX6_hold 3 (some .int) :: TT) ({ frames := 1, cells := 0, slots := 0, locals := 22 }) (va_Pc [.ref am, .int p0] (kPre D cA (wM cA am r M) sz)) (va_Qi (fun (r_ : Int32) (x_ : MSt) => ∃ n2, INVR n n2 x_ ∧ x_.1 1 = M.1 1 ∧ x_.1 2 = (if kIn p0 0 1000 = 0 then M.1 2 else p0)) (fun x_ => kB D cA (va_A (wM cA am r M) sz) (wM cA am r x_)) (va_A (wM cA am r M) sz)) 0 0 (va_A (wM cA am r M) sz) := by
  refine Met.ofW (cc := cX6_hold) (maxL := 3) (ret := (some .int)) (by decide) rfl ?_
  intro p e s m args below meth c s₁ B hml hv
  obtain ⟨rfl, hsz, hP, hK, hD0, hTB⟩ := hv
  have hx := B.exec
  have hb := B.bytes
  have hr := B.returns
  have hts := atoms_spec (ws := Cond.code yX6_hold cX6_hold 3 (some .int) :: TT) B.pre
  have htT : ∀ w ∈ TT, w.before _ s = true := fun w h => hts w (List.mem_cons_of_mem _ h)
  have hown : s.vm.findClass RX6 = some m.cls := findClass_of_methodNamed B.named
  have hlocks := B.notSynchronized
  subst hsz
  have hD := hD0.self (sz := s.heap.size)
  generalize hAe : va_A (wM cA am r M) s.heap.size = A at hD ⊢
  have hA : ∀ q : Nat, s.heap.size ≤ q → A q := fun q h => by rw [← hAe]; exact Or.inr h
  have hS : va_S A s.heap s.heap [] := va_S.rf
  have hl := lv_entry ([.ref am, .int p0]) (n := 3) (Nat.le_of_ble_eq_true rfl)
  rw [lg_entry_eq]
  generalize (lg_sl ([.ref am, .int p0]) ++ List.replicate (3 - (lg_sl ([.ref am, .int p0])).length) Slot.unset).toArray = ls at hl ⊢
  have hl : lv_has ls 3 [(0, .ref am), (1, .int p0)] := hl
  have hn8 := hI.n8
  refine lv_aload_n hx hb dX6_hold_0 rfl (lv_at hl 0 rfl) ?_
  refine lv_iconst (v := 0) hx hb dX6_hold_1 (by decide) ?_
  refine km_puti hx hb htT hown hK hP hD hS 0 (by decide) rfl (htT _ m_fl_X6_80) rfl (by decide +kernel) dX6_hold_2 (fun H locs hP hD hS => ?_)
  refine lv_iload_n hx hb dX6_hold_5 rfl (lv_at hl 1 rfl) ?_
  refine lv_iconst (v := 0) hx hb dX6_hold_6 (by decide) ?_
  refine lv_sipush (v := 1000) hx hb dX6_hold_7 (by decide) ?_
  refine kc_i (va_runS (As := [.int p0, .int 0, .int 1000]) (rest := []) ⟨hx, hb, hml, hown, htT⟩ (m_isIn l D cA _ am r (mS M 0 0) p0 0 1000) (cwS 3 htT (kg_S m_ml_X6_87 m_st_X6_isIn m_in_X6 m_cd_X6_isIn) rfl rfl rfl (by decide +kernel) ⟨Nat.le_of_ble_eq_true rfl, Nat.le_of_ble_eq_true rfl⟩) (kp_S hK hP hD hTB) rfl rfl hl.1 rfl (lv_room (Nat.le_of_ble_eq_true rfl)) dX6_hold_10 ⟨Nat.le_of_ble_eq_true rfl, Nat.le_of_ble_eq_true rfl⟩) hD hS hA (fun r_1 x_1 H locs hq_1 hP hD hS => ?_)
  rw [hq_1.1]
  rw [hq_1.2] at hP hD
  refine lv_if_ne (tgt := 22) hx hb dX6_hold_13 (by decide) (fun c_2 => ?_) (fun c_2 => ?_)
  · refine lv_aload_n hx hb dX6_hold_22 rfl (lv_at hl 0 rfl) ?_
    refine km_getiv (x := M.1 2) hx hb htT hown hK hP 2 (by decide) rfl (htT _ m_fl_X6_136) rfl dX6_hold_23 ?_
    refine lv_istore_n (lv' := [(2, .int (M.1 2)), (0, .ref am), (1, .int p0)]) hx hb dX6_hold_26 rfl hl (by decide) rfl (fun ls hl => ?_)
    refine lv_aload_n hx hb dX6_hold_27 rfl (lv_at hl 1 rfl) ?_
    refine lv_iload_n hx hb dX6_hold_28 rfl (lv_at hl 2 rfl) ?_
    refine km_puti hx hb htT hown hK hP hD hS 2 (by decide) rfl (htT _ m_fl_X6_136) rfl (by decide +kernel) dX6_hold_29 (fun H locs hP hD hS => ?_)
    refine lv_iload_n hx hb dX6_hold_32 rfl (lv_at hl 0 rfl) ?_
    exact W.iret (v := M.1 2) hx hb hr (fun t ht hW => ⟨⟨M.1 2, mS (mS M 0 0) 2 p0, rfl, ⟨na, (INVR.iS (INVR.iS hI (by decide) (by decide)) (by decide) (by decide)), rfl, by simp [c_2, va_up]⟩, by rw [ht]; exact hP, va_K.moved hW.alike hK, hD⟩, hS.F ht⟩) hS.2.2 dX6_hold_33
  · refine lv_aload_n hx hb dX6_hold_16 rfl (lv_at hl 0 rfl) ?_
    refine lv_iconst (v := 1) hx hb dX6_hold_17 (by decide) ?_
    refine kc_i (va_runV (As := [.int 1]) (rest := []) ⟨hx, hb, hml, hown, htT⟩ (m_no l D cA _ am r (mS M 0 0) 1) (cwV 1 htT (kg_V m_ml_X6_95 m_im_X6_no m_sl_X6_no m_in_X6 m_cd_X6_no) rfl rfl rfl (by decide +kernel) ⟨Nat.le_of_ble_eq_true rfl, Nat.le_of_ble_eq_true rfl⟩) (kp_V hK hP hD hTB (km_rc hK hP)) rfl rfl hl.1 rfl (lv_room (Nat.le_of_ble_eq_true rfl)) dX6_hold_18 ⟨Nat.le_of_ble_eq_true rfl, Nat.le_of_ble_eq_true rfl⟩) hD hS hA (fun r_3 x_3 H locs hq_3 hP hD hS => ?_)
    rw [hq_3.1]
    rw [hq_3.2] at hP hD
    exact W.iret (v := 0) hx hb hr (fun t ht hW => ⟨⟨0, mS (mS M 0 0) 0 1, rfl, ⟨na, (INVR.iS (INVR.iS hI (by decide) (by decide)) (by decide) (by decide)), rfl, by simp [c_2, va_up]⟩, by rw [ht]; exact hP, va_K.moved hW.alike hK, hD⟩, hS.F ht⟩) hS.2.2 dX6_hold_21

set_option maxRecDepth 100000 in
set_option maxHeartbeats 4000000 in
theorem t_goOn (l : Launch) (D : va_G) (cA : Nat → ClassId) (sz : Nat) (am : Nat) (r : Nat → Nat) (M : MSt) (n na : Nat) (hI : INVR n na M) (p0 : Int32) : Met l yX6_goOn (Cond.code yX6_goOn cX6_goOn 2 (some .int) :: TT) ({ frames := 1, cells := 0, slots := 0, locals := 22 }) (va_Pc [.ref am, .int p0] (kPre D cA (wM cA am r M) sz)) (va_Qi (fun (r_ : Int32) (x_ : MSt) => ∃ n2, INVR n n2 x_ ∧ x_.1 1 = (if kIn p0 1 100 = 0 then M.1 1 else M.1 1 + p0) ∧ x_.1 2 = M.1 2) (fun x_ => kB D cA (va_A (wM cA am r M) sz) (wM cA am r x_)) (va_A (wM cA am r M) sz)) 0 0 (va_A (wM cA am r M) sz) := by
  refine Met.ofW (cc := cX6_goOn) (maxL := 2) (ret := (some .int)) (by decide) rfl ?_
  intro p e s m args below meth c s₁ B hml hv
  obtain ⟨rfl, hsz, hP, hK, hD0, hTB⟩ := hv
  have hx := B.exec
  have hb := B.bytes
  have hr := B.returns
  have hts := atoms_spec (ws := Cond.code yX6_goOn cX6_goOn 2 (some .int) :: TT) B.pre
  have htT : ∀ w ∈ TT, w.before _ s = true := fun w h => hts w (List.mem_cons_of_mem _ h)
  have hown : s.vm.findClass RX6 = some m.cls := findClass_of_methodNamed B.named
  have hlocks := B.notSynchronized
  subst hsz
  have hD := hD0.self (sz := s.heap.size)
  generalize hAe : va_A (wM cA am r M) s.heap.size = A at hD ⊢
  have hA : ∀ q : Nat, s.heap.size ≤ q → A q := fun q h => by rw [← hAe]; exact Or.inr h
  have hS : va_S A s.heap s.heap [] := va_S.rf
  have hl := lv_entry ([.ref am, .int p0]) (n := 2) (Nat.le_of_ble_eq_true rfl)
  rw [lg_entry_eq]
  generalize (lg_sl ([.ref am, .int p0]) ++ List.replicate (2 - (lg_sl ([.ref am, .int p0])).length) Slot.unset).toArray = ls at hl ⊢
  have hl : lv_has ls 2 [(0, .ref am), (1, .int p0)] := hl
  have hn8 := hI.n8
  refine lv_aload_n hx hb dX6_goOn_0 rfl (lv_at hl 0 rfl) ?_
  refine lv_iconst (v := 0) hx hb dX6_goOn_1 (by decide) ?_
  refine km_puti hx hb htT hown hK hP hD hS 0 (by decide) rfl (htT _ m_fl_X6_80) rfl (by decide +kernel) dX6_goOn_2 (fun H locs hP hD hS => ?_)
  refine lv_iload_n hx hb dX6_goOn_5 rfl (lv_at hl 1 rfl) ?_
  refine lv_iconst (v := 1) hx hb dX6_goOn_6 (by decide) ?_
  refine lv_bipush (v := 100) hx hb dX6_goOn_7 (by decide) ?_
  refine kc_i (va_runS (As := [.int p0, .int 1, .int 100]) (rest := []) ⟨hx, hb, hml, hown, htT⟩ (m_isIn l D cA _ am r (mS M 0 0) p0 1 100) (cwS 3 htT (kg_S m_ml_X6_87 m_st_X6_isIn m_in_X6 m_cd_X6_isIn) rfl rfl rfl (by decide +kernel) ⟨Nat.le_of_ble_eq_true rfl, Nat.le_of_ble_eq_true rfl⟩) (kp_S hK hP hD hTB) rfl rfl hl.1 rfl (lv_room (Nat.le_of_ble_eq_true rfl)) dX6_goOn_9 ⟨Nat.le_of_ble_eq_true rfl, Nat.le_of_ble_eq_true rfl⟩) hD hS hA (fun r_1 x_1 H locs hq_1 hP hD hS => ?_)
  rw [hq_1.1]
  rw [hq_1.2] at hP hD
  refine lv_if_ne (tgt := 21) hx hb dX6_goOn_12 (by decide) (fun c_2 => ?_) (fun c_2 => ?_)
  · refine lv_aload_n hx hb dX6_goOn_21 rfl (lv_at hl 0 rfl) ?_
    refine lv_dup hx hb dX6_goOn_22 rfl ?_
    refine km_getiv (x := M.1 1) hx hb htT hown hK hP 1 (by decide) rfl (htT _ m_fl_X6_99) rfl dX6_goOn_23 ?_
    refine lv_iload_n hx hb dX6_goOn_26 rfl (lv_at hl 1 rfl) ?_
    refine lv_iadd hx hb dX6_goOn_27 ?_
    refine km_puti hx hb htT hown hK hP hD hS 1 (by decide) rfl (htT _ m_fl_X6_99) rfl (by decide +kernel) dX6_goOn_28 (fun H locs hP hD hS => ?_)
    refine lv_aload_n hx hb dX6_goOn_31 rfl (lv_at hl 0 rfl) ?_
    refine km_getiv (x := (M.1 1) + p0) hx hb htT hown hK hP 1 (by decide) rfl (htT _ m_fl_X6_99) rfl dX6_goOn_32 ?_
    exact W.iret (v := (M.1 1) + p0) hx hb hr (fun t ht hW => ⟨⟨(M.1 1) + p0, mS (mS M 0 0) 1 ((M.1 1) + p0), rfl, ⟨na, (INVR.iS (INVR.iS hI (by decide) (by decide)) (by decide) (by decide)), by simp [c_2, va_up], rfl⟩, by rw [ht]; exact hP, va_K.moved hW.alike hK, hD⟩, hS.F ht⟩) hS.2.2 dX6_goOn_35
  · refine lv_aload_n hx hb dX6_goOn_15 rfl (lv_at hl 0 rfl) ?_
    refine lv_iconst (v := 1) hx hb dX6_goOn_16 (by decide) ?_
    refine kc_i (va_runV (As := [.int 1]) (rest := []) ⟨hx, hb, hml, hown, htT⟩ (m_no l D cA _ am r (mS M 0 0) 1) (cwV 1 htT (kg_V m_ml_X6_95 m_im_X6_no m_sl_X6_no m_in_X6 m_cd_X6_no) rfl rfl rfl (by decide +kernel) ⟨Nat.le_of_ble_eq_true rfl, Nat.le_of_ble_eq_true rfl⟩) (kp_V hK hP hD hTB (km_rc hK hP)) rfl rfl hl.1 rfl (lv_room (Nat.le_of_ble_eq_true rfl)) dX6_goOn_17 ⟨Nat.le_of_ble_eq_true rfl, Nat.le_of_ble_eq_true rfl⟩) hD hS hA (fun r_3 x_3 H locs hq_3 hP hD hS => ?_)
    rw [hq_3.1]
    rw [hq_3.2] at hP hD
    exact W.iret (v := 0) hx hb hr (fun t ht hW => ⟨⟨0, mS (mS M 0 0) 0 1, rfl, ⟨na, (INVR.iS (INVR.iS hI (by decide) (by decide)) (by decide) (by decide)), by simp [c_2, va_up], rfl⟩, by rw [ht]; exact hP, va_K.moved hW.alike hK, hD⟩, hS.F ht⟩) hS.2.2 dX6_goOn_20

set_option maxRecDepth 100000 in
set_option maxHeartbeats 4000000 in
theorem t_need (l : Launch) (D : va_G) (cA : Nat → ClassId) (sz : Nat) (am : Nat) (r : Nat → Nat) (M : MSt) (n na : Nat) (hI : INVR n na M) (p0 p1 p2 : Int32) : Met l yX6_need (Cond.code yX6_need cX6_need 5 (some .int) :: TT) ({ frames := 3, cells := 0, slots := 0, locals := 65 }) (va_Pc [.ref am, .int p0, .int p1, .int p2] (kPre D cA (wM cA am r M) sz)) (va_Qi (fun (r_ : Int32) (x_ : MSt) => ∃ n2, INVR n n2 x_ ∧ x_.1 1 = M.1 1 ∧ x_.1 2 = M.1 2) (fun x_ => kB D cA (va_A (wM cA am r M) sz) (wM cA am r x_)) (va_A (wM cA am r M) sz)) 0 0 (va_A (wM cA am r M) sz) := by
  refine Met.ofW (cc := cX6_need) (maxL := 5) (ret := (some .int)) (by decide) rfl ?_
  intro p e s m args below meth c s₁ B hml hv
  obtain ⟨rfl, hsz, hP, hK, hD0, hTB⟩ := hv
  have hx := B.exec
  have hb := B.bytes
  have hr := B.returns
  have hts := atoms_spec (ws := Cond.code yX6_need cX6_need 5 (some .int) :: TT) B.pre
  have htT : ∀ w ∈ TT, w.before _ s = true := fun w h => hts w (List.mem_cons_of_mem _ h)
  have hown : s.vm.findClass RX6 = some m.cls := findClass_of_methodNamed B.named
  have hlocks := B.notSynchronized
  subst hsz
  have hD := hD0.self (sz := s.heap.size)
  generalize hAe : va_A (wM cA am r M) s.heap.size = A at hD ⊢
  have hA : ∀ q : Nat, s.heap.size ≤ q → A q := fun q h => by rw [← hAe]; exact Or.inr h
  have hS : va_S A s.heap s.heap [] := va_S.rf
  have hl := lv_entry ([.ref am, .int p0, .int p1, .int p2]) (n := 5) (Nat.le_of_ble_eq_true rfl)
  rw [lg_entry_eq]
  generalize (lg_sl ([.ref am, .int p0, .int p1, .int p2]) ++ List.replicate (5 - (lg_sl ([.ref am, .int p0, .int p1, .int p2])).length) Slot.unset).toArray = ls at hl ⊢
  have hl : lv_has ls 5 [(0, .ref am), (1, .int p0), (2, .int p1), (3, .int p2)] := hl
  have hn8 := hI.n8
  have hna9 := hI.na
  obtain ⟨ru, hok⟩ := id hI.1
  refine lv_aload_n hx hb dX6_need_0 rfl (lv_at hl 0 rfl) ?_
  refine lv_iconst (v := 0) hx hb dX6_need_1 (by decide) ?_
  refine km_puti hx hb htT hown hK hP hD hS 0 (by decide) rfl (htT _ m_fl_X6_80) rfl (by decide +kernel) dX6_need_2 (fun H locs hP hD hS => ?_)
  refine lv_aload_n hx hb dX6_need_5 rfl (lv_at hl 0 rfl) ?_
  refine lv_iload_n hx hb dX6_need_6 rfl (lv_at hl 1 rfl) ?_
  have h3_1 : M.1 3 = nI n := hI.h3
  refine kc_i (va_runV (As := [.int p0]) (rest := []) ⟨hx, hb, hml, hown, htT⟩ (m_isSwitch l D cA _ am r (mS M 0 0) p0) (cwV 1 htT (kg_V m_ml_X6_91 m_im_X6_isSwitch m_sl_X6_isSwitch m_in_X6 m_cd_X6_isSwitch) rfl rfl rfl (by decide +kernel) ⟨Nat.le_of_ble_eq_true rfl, Nat.le_of_ble_eq_true rfl⟩) (kp_V hK hP hD hTB (km_rc hK hP)) rfl rfl hl.1 rfl (lv_room (Nat.le_of_ble_eq_true rfl)) dX6_need_7 ⟨Nat.le_of_ble_eq_true rfl, Nat.le_of_ble_eq_true rfl⟩) hD hS hA (fun r_1 x_1 H locs hq_1 hP hD hS => ?_)
  rw [hq_1.2] at hP hD
  rcases kIn_swx (p := p0) hI.n8 h3_1 with hsw | ⟨i, hi, rfl⟩
  · rw [hq_1.1.trans hsw]
    refine lv_if_eq (tgt := 27) hx hb dX6_need_10 (by decide) (fun _ => ?_) (fun c_2 => absurd c_2 (by decide))
    refine lv_aload_n hx hb dX6_need_27 rfl (lv_at hl 0 rfl) ?_
    refine lv_iconst (v := 1) hx hb dX6_need_28 (by decide) ?_
    refine kc_i (va_runV (As := [.int 1]) (rest := []) ⟨hx, hb, hml, hown, htT⟩ (m_no l D cA _ am r (mS M 0 0) 1) (cwV 1 htT (kg_V m_ml_X6_95 m_im_X6_no m_sl_X6_no m_in_X6 m_cd_X6_no) rfl rfl rfl (by decide +kernel) ⟨Nat.le_of_ble_eq_true rfl, Nat.le_of_ble_eq_true rfl⟩) (kp_V hK hP hD hTB (km_rc hK hP)) rfl rfl hl.1 rfl (lv_room (Nat.le_of_ble_eq_true rfl)) dX6_need_29 ⟨Nat.le_of_ble_eq_true rfl, Nat.le_of_ble_eq_true rfl⟩) hD hS hA (fun r_3 x_3 H locs hq_3 hP hD hS => ?_)
    rw [hq_3.1]
    rw [hq_3.2] at hP hD
    exact W.iret (v := 0) hx hb hr (fun t ht hW => ⟨⟨0, mS (mS M 0 0) 0 1, rfl, ⟨na, (INVR.iS (INVR.iS hI (by decide) (by decide)) (by decide) (by decide)), rfl, rfl⟩, by rw [ht]; exact hP, va_K.moved hW.alike hK, hD⟩, hS.F ht⟩) hS.2.2 dX6_need_32
  · rw [hq_1.1.trans (kIn_sw hi hI.n8 h3_1)]
    refine lv_if_eq (tgt := 27) hx hb dX6_need_10 (by decide) (fun c_4 => absurd c_4 (by decide)) (fun _ => ?_)
    refine lv_iload_n hx hb dX6_need_13 rfl (lv_at hl 2 rfl) ?_
    refine lv_iconst (v := (-1)) hx hb dX6_need_14 (by decide) ?_
    refine lv_icmp_eq (tgt := 33) hx hb dX6_need_15 (by decide) (fun c_5 => ?_) (fun c_5 => ?_)
    · subst c_5
      refine lv_iload_n hx hb dX6_need_33 rfl (lv_at hl 2 rfl) ?_
      refine lv_iload_n hx hb dX6_need_34 rfl (lv_at hl 1 rfl) ?_
      refine lv_icmp_lt (tgt := 44) hx hb dX6_need_35 (by decide) (fun c_6 => ?_) (fun c_6 => ?_)
      · refine lv_aload_n hx hb dX6_need_44 rfl (lv_at hl 0 rfl) ?_
        refine km_getr hx hb htT hown hK hP 15 (by decide) rfl (htT _ m_fl_X6_44) dX6_need_45 ?_
        refine lv_iload_n hx hb dX6_need_48 rfl (lv_at hl 1 rfl) ?_
        refine km_ialdv (x := (M.2 15) i) hx hb hK hP 15 rfl rfl (show vp_in (nI (i)) 8 from ki_in (by omega) (by decide)) (congrArg _ (ki_cl (by omega))) dX6_need_49 ?_
        refine lv_istore (lv' := [(4, .int ((M.2 15) i)), (0, .ref am), (1, .int (nI i)), (2, .int (-1)), (3, .int p2)]) hx hb dX6_need_50 hl (by decide) rfl (fun ls hl => ?_)
        refine lv_aload_n hx hb dX6_need_52 rfl (lv_at hl 1 rfl) ?_
        refine km_getr hx hb htT hown hK hP 15 (by decide) rfl (htT _ m_fl_X6_44) dX6_need_53 ?_
        refine lv_iload_n hx hb dX6_need_56 rfl (lv_at hl 2 rfl) ?_
        refine lv_iload_n hx hb dX6_need_57 rfl (lv_at hl 3 rfl) ?_
        refine km_iast hx hb hK hP hD hS 15 rfl rfl (show vp_in (nI (i)) 8 from ki_in (by omega) (by decide)) dX6_need_58 (fun H locs hP hD hS => ?_)
        rw [ki_cl (n := i) (by omega)] at hP hD
        refine lv_aload_n hx hb dX6_need_59 rfl (lv_at hl 1 rfl) ?_
        refine km_getr hx hb htT hown hK hP 16 (by decide) rfl (htT _ m_fl_X6_47) dX6_need_60 ?_
        refine lv_iload_n hx hb dX6_need_63 rfl (lv_at hl 2 rfl) ?_
        refine lv_iload_n hx hb dX6_need_64 rfl (lv_at hl 4 rfl) ?_
        refine km_iast hx hb hK hP hD hS 16 rfl rfl (show vp_in (nI (i)) 8 from ki_in (by omega) (by decide)) dX6_need_65 (fun H locs hP hD hS => ?_)
        rw [ki_cl (n := i) (by omega)] at hP hD
        refine lv_iload hx hb dX6_need_66 (lv_at hl 0 rfl) ?_
        exact W.iret (v := (M.2 15) i) hx hb hr (fun t ht hW => ⟨⟨(M.2 15) i, mR (mR (mS M 0 0) 15 i (-1)) 16 i p2, rfl, ⟨na, (INVR.iR (INVR.need (INVR.iS hI (by decide) (by decide)) hi (Or.inl rfl)) (by decide)), rfl, rfl⟩, by rw [ht]; exact hP, va_K.moved hW.alike hK, hD⟩, hS.F ht⟩) hS.2.2 dX6_need_68
      · refine lv_aload_n hx hb dX6_need_38 rfl (lv_at hl 0 rfl) ?_
        refine lv_iconst (v := 2) hx hb dX6_need_39 (by decide) ?_
        refine kc_i (va_runV (As := [.int 2]) (rest := []) ⟨hx, hb, hml, hown, htT⟩ (m_no l D cA _ am r (mS M 0 0) 2) (cwV 1 htT (kg_V m_ml_X6_95 m_im_X6_no m_sl_X6_no m_in_X6 m_cd_X6_no) rfl rfl rfl (by decide +kernel) ⟨Nat.le_of_ble_eq_true rfl, Nat.le_of_ble_eq_true rfl⟩) (kp_V hK hP hD hTB (km_rc hK hP)) rfl rfl hl.1 rfl (lv_room (Nat.le_of_ble_eq_true rfl)) dX6_need_40 ⟨Nat.le_of_ble_eq_true rfl, Nat.le_of_ble_eq_true rfl⟩) hD hS hA (fun r_7 x_7 H locs hq_7 hP hD hS => ?_)
        rw [hq_7.1]
        rw [hq_7.2] at hP hD
        exact W.iret (v := 0) hx hb hr (fun t ht hW => ⟨⟨0, mS (mS M 0 0) 0 2, rfl, ⟨na, (INVR.iS (INVR.iS hI (by decide) (by decide)) (by decide) (by decide)), rfl, rfl⟩, by rw [ht]; exact hP, va_K.moved hW.alike hK, hD⟩, hS.F ht⟩) hS.2.2 dX6_need_43
    · refine lv_aload_n hx hb dX6_need_18 rfl (lv_at hl 0 rfl) ?_
      refine lv_iload_n hx hb dX6_need_19 rfl (lv_at hl 2 rfl) ?_
      refine lv_iload_n hx hb dX6_need_20 rfl (lv_at hl 3 rfl) ?_
      have h3_8 : M.1 3 = nI n := hI.h3
      rcases kIn_swx (p := p1) hI.n8 h3_8 with hsw | ⟨i2, hi2, rfl⟩
      · refine kc_i (va_runV (As := [.int p1, .int p2]) (rest := []) ⟨hx, hb, hml, hown, htT⟩ (m_isVariant_0 l D cA _ am r (mS M 0 0) p1 p2 hsw) (cwV 2 htT (kg_V m_ml_X6_102 m_im_X6_isVariant m_sl_X6_isVariant m_in_X6 m_cd_X6_isVariant) rfl rfl rfl (by decide +kernel) ⟨Nat.le_of_ble_eq_true rfl, Nat.le_of_ble_eq_true rfl⟩) (kp_V hK hP hD hTB (km_rc hK hP)) rfl rfl hl.1 rfl (lv_room (Nat.le_of_ble_eq_true rfl)) dX6_need_21 ⟨Nat.le_of_ble_eq_true rfl, Nat.le_of_ble_eq_true rfl⟩) hD hS hA (fun r_8 x_8 H locs hq_8 hP hD hS => ?_)
        rw [hq_8.1]
        rw [hq_8.2] at hP hD
        refine lv_if_ne (tgt := 33) hx hb dX6_need_24 (by decide) (fun c_9 => absurd c_9 (by decide)) (fun _ => ?_)
        refine lv_aload_n hx hb dX6_need_27 rfl (lv_at hl 0 rfl) ?_
        refine lv_iconst (v := 1) hx hb dX6_need_28 (by decide) ?_
        refine kc_i (va_runV (As := [.int 1]) (rest := []) ⟨hx, hb, hml, hown, htT⟩ (m_no l D cA _ am r (mS M 0 0) 1) (cwV 1 htT (kg_V m_ml_X6_95 m_im_X6_no m_sl_X6_no m_in_X6 m_cd_X6_no) rfl rfl rfl (by decide +kernel) ⟨Nat.le_of_ble_eq_true rfl, Nat.le_of_ble_eq_true rfl⟩) (kp_V hK hP hD hTB (km_rc hK hP)) rfl rfl hl.1 rfl (lv_room (Nat.le_of_ble_eq_true rfl)) dX6_need_29 ⟨Nat.le_of_ble_eq_true rfl, Nat.le_of_ble_eq_true rfl⟩) hD hS hA (fun r_10 x_10 H locs hq_10 hP hD hS => ?_)
        rw [hq_10.1]
        rw [hq_10.2] at hP hD
        exact W.iret (v := 0) hx hb hr (fun t ht hW => ⟨⟨0, mS (mS M 0 0) 0 1, rfl, ⟨na, (INVR.iS (INVR.iS hI (by decide) (by decide)) (by decide) (by decide)), rfl, rfl⟩, by rw [ht]; exact hP, va_K.moved hW.alike hK, hD⟩, hS.F ht⟩) hS.2.2 dX6_need_32
      · refine kc_i (va_runV (As := [.int (nI i2), .int p2]) (rest := []) ⟨hx, hb, hml, hown, htT⟩ (m_isVariant_1 l D cA _ am r (mS M 0 0) n i2 hi2 hI.n8 h3_8 p2) (cwV 2 htT (kg_V m_ml_X6_102 m_im_X6_isVariant m_sl_X6_isVariant m_in_X6 m_cd_X6_isVariant) rfl rfl rfl (by decide +kernel) ⟨Nat.le_of_ble_eq_true rfl, Nat.le_of_ble_eq_true rfl⟩) (kp_V hK hP hD hTB (km_rc hK hP)) rfl rfl hl.1 rfl (lv_room (Nat.le_of_ble_eq_true rfl)) dX6_need_21 ⟨Nat.le_of_ble_eq_true rfl, Nat.le_of_ble_eq_true rfl⟩) hD hS hA (fun r_8 x_8 H locs hq_8 hP hD hS => ?_)
        rw [hq_8.2] at hP hD
        obtain ⟨vc_8, hvc_8, evc_8⟩ := (hI.2.1 i2 hi2).1
        rcases kIn_swx (n := vc_8) (p := p2) (by omega) evc_8 with hv_8 | ⟨v_8, hv_8, rfl⟩
        · rw [hq_8.1.trans hv_8]
          refine lv_if_ne (tgt := 33) hx hb dX6_need_24 (by decide) (fun c_11 => absurd c_11 (by decide)) (fun _ => ?_)
          refine lv_aload_n hx hb dX6_need_27 rfl (lv_at hl 0 rfl) ?_
          refine lv_iconst (v := 1) hx hb dX6_need_28 (by decide) ?_
          refine kc_i (va_runV (As := [.int 1]) (rest := []) ⟨hx, hb, hml, hown, htT⟩ (m_no l D cA _ am r (mS M 0 0) 1) (cwV 1 htT (kg_V m_ml_X6_95 m_im_X6_no m_sl_X6_no m_in_X6 m_cd_X6_no) rfl rfl rfl (by decide +kernel) ⟨Nat.le_of_ble_eq_true rfl, Nat.le_of_ble_eq_true rfl⟩) (kp_V hK hP hD hTB (km_rc hK hP)) rfl rfl hl.1 rfl (lv_room (Nat.le_of_ble_eq_true rfl)) dX6_need_29 ⟨Nat.le_of_ble_eq_true rfl, Nat.le_of_ble_eq_true rfl⟩) hD hS hA (fun r_12 x_12 H locs hq_12 hP hD hS => ?_)
          rw [hq_12.1]
          rw [hq_12.2] at hP hD
          exact W.iret (v := 0) hx hb hr (fun t ht hW => ⟨⟨0, mS (mS M 0 0) 0 1, rfl, ⟨na, (INVR.iS (INVR.iS hI (by decide) (by decide)) (by decide) (by decide)), rfl, rfl⟩, by rw [ht]; exact hP, va_K.moved hW.alike hK, hD⟩, hS.F ht⟩) hS.2.2 dX6_need_32
        · have hv4_8 : v_8 < 4 := by omega
          have hvk_8 := kIn_sw (i := v_8) (n := vc_8) hv_8 (by omega) evc_8
          rw [hq_8.1.trans hvk_8]
          refine lv_if_ne (tgt := 33) hx hb dX6_need_24 (by decide) (fun _ => ?_) (fun c_13 => absurd c_13 (by decide))
          refine lv_iload_n hx hb dX6_need_33 rfl (lv_at hl 2 rfl) ?_
          refine lv_iload_n hx hb dX6_need_34 rfl (lv_at hl 1 rfl) ?_
          refine lv_icmp_lt (tgt := 44) hx hb dX6_need_35 (by decide) (fun c_14 => ?_) (fun c_14 => ?_)
          · replace c_14 := (nI_ltI (a := i2) (b := i) (by omega) (by omega)).mp c_14
            refine lv_aload_n hx hb dX6_need_44 rfl (lv_at hl 0 rfl) ?_
            refine km_getr hx hb htT hown hK hP 15 (by decide) rfl (htT _ m_fl_X6_44) dX6_need_45 ?_
            refine lv_iload_n hx hb dX6_need_48 rfl (lv_at hl 1 rfl) ?_
            refine km_ialdv (x := (M.2 15) i) hx hb hK hP 15 rfl rfl (show vp_in (nI (i)) 8 from ki_in (by omega) (by decide)) (congrArg _ (ki_cl (by omega))) dX6_need_49 ?_
            refine lv_istore (lv' := [(4, .int ((M.2 15) i)), (0, .ref am), (1, .int (nI i)), (2, .int (nI i2)), (3, .int (nI v_8))]) hx hb dX6_need_50 hl (by decide) rfl (fun ls hl => ?_)
            refine lv_aload_n hx hb dX6_need_52 rfl (lv_at hl 1 rfl) ?_
            refine km_getr hx hb htT hown hK hP 15 (by decide) rfl (htT _ m_fl_X6_44) dX6_need_53 ?_
            refine lv_iload_n hx hb dX6_need_56 rfl (lv_at hl 2 rfl) ?_
            refine lv_iload_n hx hb dX6_need_57 rfl (lv_at hl 3 rfl) ?_
            refine km_iast hx hb hK hP hD hS 15 rfl rfl (show vp_in (nI (i)) 8 from ki_in (by omega) (by decide)) dX6_need_58 (fun H locs hP hD hS => ?_)
            rw [ki_cl (n := i) (by omega)] at hP hD
            refine lv_aload_n hx hb dX6_need_59 rfl (lv_at hl 1 rfl) ?_
            refine km_getr hx hb htT hown hK hP 16 (by decide) rfl (htT _ m_fl_X6_47) dX6_need_60 ?_
            refine lv_iload_n hx hb dX6_need_63 rfl (lv_at hl 2 rfl) ?_
            refine lv_iload_n hx hb dX6_need_64 rfl (lv_at hl 4 rfl) ?_
            refine km_iast hx hb hK hP hD hS 16 rfl rfl (show vp_in (nI (i)) 8 from ki_in (by omega) (by decide)) dX6_need_65 (fun H locs hP hD hS => ?_)
            rw [ki_cl (n := i) (by omega)] at hP hD
            refine lv_iload hx hb dX6_need_66 (lv_at hl 0 rfl) ?_
            exact W.iret (v := (M.2 15) i) hx hb hr (fun t ht hW => ⟨⟨(M.2 15) i, mR (mR (mS M 0 0) 15 i (nI i2)) 16 i (nI v_8), rfl, ⟨na, (INVR.iR (INVR.need (INVR.iS hI (by decide) (by decide)) hi (Or.inr ⟨_, by omega, rfl⟩)) (by decide)), rfl, rfl⟩, by rw [ht]; exact hP, va_K.moved hW.alike hK, hD⟩, hS.F ht⟩) hS.2.2 dX6_need_68
          · replace c_14 : ¬ (i2 < i) := fun h9 => c_14 ((nI_ltI (a := i2) (b := i) (by omega) (by omega)).mpr h9)
            refine lv_aload_n hx hb dX6_need_38 rfl (lv_at hl 0 rfl) ?_
            refine lv_iconst (v := 2) hx hb dX6_need_39 (by decide) ?_
            refine kc_i (va_runV (As := [.int 2]) (rest := []) ⟨hx, hb, hml, hown, htT⟩ (m_no l D cA _ am r (mS M 0 0) 2) (cwV 1 htT (kg_V m_ml_X6_95 m_im_X6_no m_sl_X6_no m_in_X6 m_cd_X6_no) rfl rfl rfl (by decide +kernel) ⟨Nat.le_of_ble_eq_true rfl, Nat.le_of_ble_eq_true rfl⟩) (kp_V hK hP hD hTB (km_rc hK hP)) rfl rfl hl.1 rfl (lv_room (Nat.le_of_ble_eq_true rfl)) dX6_need_40 ⟨Nat.le_of_ble_eq_true rfl, Nat.le_of_ble_eq_true rfl⟩) hD hS hA (fun r_15 x_15 H locs hq_15 hP hD hS => ?_)
            rw [hq_15.1]
            rw [hq_15.2] at hP hD
            exact W.iret (v := 0) hx hb hr (fun t ht hW => ⟨⟨0, mS (mS M 0 0) 0 2, rfl, ⟨na, (INVR.iS (INVR.iS hI (by decide) (by decide)) (by decide) (by decide)), rfl, rfl⟩, by rw [ht]; exact hP, va_K.moved hW.alike hK, hD⟩, hS.F ht⟩) hS.2.2 dX6_need_43

set_option maxRecDepth 100000 in
set_option maxHeartbeats 4000000 in
theorem t_rule (l : Launch) (D : va_G) (cA : Nat → ClassId) (sz : Nat) (am : Nat) (r : Nat → Nat) (M : MSt) (n na : Nat) (hI : INVR n na M) (p0 p1 p2 p3 p4 : Int32) : Met l yX6_rule (Cond.code yX6_rule cX6_rule 7 (some .int) :: TT) ({ frames := 3, cells := 0, slots := 0, locals := 65 }) (va_Pc [.ref am, .int p0, .int p1, .int p2, .int p3, .int p4] (kPre D cA (wM cA am r M) sz)) (va_Qi (fun (r_ : Int32) (x_ : MSt) => ∃ n2, INVR n n2 x_ ∧ x_.1 1 = M.1 1 ∧ x_.1 2 = M.1 2) (fun x_ => kB D cA (va_A (wM cA am r M) sz) (wM cA am r x_)) (va_A (wM cA am r M) sz)) 0 0 (va_A (wM cA am r M) sz) := by
  refine Met.ofW (cc := cX6_rule) (maxL := 7) (ret := (some .int)) (by decide) rfl ?_
  intro p e s m args below meth c s₁ B hml hv
  obtain ⟨rfl, hsz, hP, hK, hD0, hTB⟩ := hv
  have hx := B.exec
  have hb := B.bytes
  have hr := B.returns
  have hts := atoms_spec (ws := Cond.code yX6_rule cX6_rule 7 (some .int) :: TT) B.pre
  have htT : ∀ w ∈ TT, w.before _ s = true := fun w h => hts w (List.mem_cons_of_mem _ h)
  have hown : s.vm.findClass RX6 = some m.cls := findClass_of_methodNamed B.named
  have hlocks := B.notSynchronized
  subst hsz
  have hD := hD0.self (sz := s.heap.size)
  generalize hAe : va_A (wM cA am r M) s.heap.size = A at hD ⊢
  have hA : ∀ q : Nat, s.heap.size ≤ q → A q := fun q h => by rw [← hAe]; exact Or.inr h
  have hS : va_S A s.heap s.heap [] := va_S.rf
  have hl := lv_entry ([.ref am, .int p0, .int p1, .int p2, .int p3, .int p4]) (n := 7) (Nat.le_of_ble_eq_true rfl)
  rw [lg_entry_eq]
  generalize (lg_sl ([.ref am, .int p0, .int p1, .int p2, .int p3, .int p4]) ++ List.replicate (7 - (lg_sl ([.ref am, .int p0, .int p1, .int p2, .int p3, .int p4])).length) Slot.unset).toArray = ls at hl ⊢
  have hl : lv_has ls 7 [(0, .ref am), (1, .int p0), (2, .int p1), (3, .int p2), (4, .int p3), (5, .int p4)] := hl
  have hn8 := hI.n8
  have hna9 := hI.na
  obtain ⟨ru, hok⟩ := id hI.1
  refine lv_aload_n hx hb dX6_rule_0 rfl (lv_at hl 0 rfl) ?_
  refine lv_iconst (v := 0) hx hb dX6_rule_1 (by decide) ?_
  refine km_puti hx hb htT hown hK hP hD hS 0 (by decide) rfl (htT _ m_fl_X6_80) rfl (by decide +kernel) dX6_rule_2 (fun H locs hP hD hS => ?_)
  refine lv_aload_n hx hb dX6_rule_5 rfl (lv_at hl 0 rfl) ?_
  refine lv_iload_n hx hb dX6_rule_6 rfl (lv_at hl 1 rfl) ?_
  have h3_1 : M.1 3 = nI n := hI.h3
  refine kc_i (va_runV (As := [.int p0]) (rest := []) ⟨hx, hb, hml, hown, htT⟩ (m_isSwitch l D cA _ am r (mS M 0 0) p0) (cwV 1 htT (kg_V m_ml_X6_91 m_im_X6_isSwitch m_sl_X6_isSwitch m_in_X6 m_cd_X6_isSwitch) rfl rfl rfl (by decide +kernel) ⟨Nat.le_of_ble_eq_true rfl, Nat.le_of_ble_eq_true rfl⟩) (kp_V hK hP hD hTB (km_rc hK hP)) rfl rfl hl.1 rfl (lv_room (Nat.le_of_ble_eq_true rfl)) dX6_rule_7 ⟨Nat.le_of_ble_eq_true rfl, Nat.le_of_ble_eq_true rfl⟩) hD hS hA (fun r_1 x_1 H locs hq_1 hP hD hS => ?_)
  rw [hq_1.2] at hP hD
  rcases kIn_swx (p := p0) hI.n8 h3_1 with hsw | ⟨i, hi, rfl⟩
  · rw [hq_1.1.trans hsw]
    refine lv_if_eq (tgt := 29) hx hb dX6_rule_10 (by decide) (fun _ => ?_) (fun c_2 => absurd c_2 (by decide))
    refine lv_aload_n hx hb dX6_rule_29 rfl (lv_at hl 0 rfl) ?_
    refine lv_iconst (v := 1) hx hb dX6_rule_30 (by decide) ?_
    refine kc_i (va_runV (As := [.int 1]) (rest := []) ⟨hx, hb, hml, hown, htT⟩ (m_no l D cA _ am r (mS M 0 0) 1) (cwV 1 htT (kg_V m_ml_X6_95 m_im_X6_no m_sl_X6_no m_in_X6 m_cd_X6_no) rfl rfl rfl (by decide +kernel) ⟨Nat.le_of_ble_eq_true rfl, Nat.le_of_ble_eq_true rfl⟩) (kp_V hK hP hD hTB (km_rc hK hP)) rfl rfl hl.1 rfl (lv_room (Nat.le_of_ble_eq_true rfl)) dX6_rule_31 ⟨Nat.le_of_ble_eq_true rfl, Nat.le_of_ble_eq_true rfl⟩) hD hS hA (fun r_3 x_3 H locs hq_3 hP hD hS => ?_)
    rw [hq_3.1]
    rw [hq_3.2] at hP hD
    exact W.iret (v := 0) hx hb hr (fun t ht hW => ⟨⟨0, mS (mS M 0 0) 0 1, rfl, ⟨na, (INVR.iS (INVR.iS hI (by decide) (by decide)) (by decide) (by decide)), rfl, rfl⟩, by rw [ht]; exact hP, va_K.moved hW.alike hK, hD⟩, hS.F ht⟩) hS.2.2 dX6_rule_34
  · rw [hq_1.1.trans (kIn_sw hi hI.n8 h3_1)]
    refine lv_if_eq (tgt := 29) hx hb dX6_rule_10 (by decide) (fun c_4 => absurd c_4 (by decide)) (fun _ => ?_)
    refine lv_iload hx hb dX6_rule_13 (lv_at hl 5 rfl) ?_
    refine lv_iconst (v := (-1)) hx hb dX6_rule_15 (by decide) ?_
    refine lv_icmp_eq (tgt := 35) hx hb dX6_rule_16 (by decide) (fun c_5 => ?_) (fun c_5 => ?_)
    · refine lv_iload_n hx hb dX6_rule_35 rfl (lv_at hl 2 rfl) ?_
      refine lv_iconst (v := 0) hx hb dX6_rule_36 (by decide) ?_
      refine lv_iconst (v := 1) hx hb dX6_rule_37 (by decide) ?_
      refine kc_i (va_runS (As := [.int p1, .int 0, .int 1]) (rest := []) ⟨hx, hb, hml, hown, htT⟩ (m_isIn l D cA _ am r (mS M 0 0) p1 0 1) (cwS 3 htT (kg_S m_ml_X6_87 m_st_X6_isIn m_in_X6 m_cd_X6_isIn) rfl rfl rfl (by decide +kernel) ⟨Nat.le_of_ble_eq_true rfl, Nat.le_of_ble_eq_true rfl⟩) (kp_S hK hP hD hTB) rfl rfl hl.1 rfl (lv_room (Nat.le_of_ble_eq_true rfl)) dX6_rule_38 ⟨Nat.le_of_ble_eq_true rfl, Nat.le_of_ble_eq_true rfl⟩) hD hS hA (fun r_6 x_6 H locs hq_6 hP hD hS => ?_)
      rw [hq_6.1]
      rw [hq_6.2] at hP hD
      refine lv_if_eq (tgt := 64) hx hb dX6_rule_41 (by decide) (fun c_7 => ?_) (fun c_7 => ?_)
      · refine lv_aload_n hx hb dX6_rule_64 rfl (lv_at hl 0 rfl) ?_
        refine lv_iconst (v := 2) hx hb dX6_rule_65 (by decide) ?_
        refine kc_i (va_runV (As := [.int 2]) (rest := []) ⟨hx, hb, hml, hown, htT⟩ (m_no l D cA _ am r (mS M 0 0) 2) (cwV 1 htT (kg_V m_ml_X6_95 m_im_X6_no m_sl_X6_no m_in_X6 m_cd_X6_no) rfl rfl rfl (by decide +kernel) ⟨Nat.le_of_ble_eq_true rfl, Nat.le_of_ble_eq_true rfl⟩) (kp_V hK hP hD hTB (km_rc hK hP)) rfl rfl hl.1 rfl (lv_room (Nat.le_of_ble_eq_true rfl)) dX6_rule_66 ⟨Nat.le_of_ble_eq_true rfl, Nat.le_of_ble_eq_true rfl⟩) hD hS hA (fun r_8 x_8 H locs hq_8 hP hD hS => ?_)
        rw [hq_8.1]
        rw [hq_8.2] at hP hD
        exact W.iret (v := 0) hx hb hr (fun t ht hW => ⟨⟨0, mS (mS M 0 0) 0 2, rfl, ⟨na, (INVR.iS (INVR.iS hI (by decide) (by decide)) (by decide) (by decide)), rfl, rfl⟩, by rw [ht]; exact hP, va_K.moved hW.alike hK, hD⟩, hS.F ht⟩) hS.2.2 dX6_rule_69
      · refine lv_iload_n hx hb dX6_rule_44 rfl (lv_at hl 3 rfl) ?_
        refine lv_iconst (v := 1) hx hb dX6_rule_45 (by decide) ?_
        refine lv_iconst (v := 3) hx hb dX6_rule_46 (by decide) ?_
        refine kc_i (va_runS (As := [.int p2, .int 1, .int 3]) (rest := []) ⟨hx, hb, hml, hown, htT⟩ (m_isIn l D cA _ am r (mS M 0 0) p2 1 3) (cwS 3 htT (kg_S m_ml_X6_87 m_st_X6_isIn m_in_X6 m_cd_X6_isIn) rfl rfl rfl (by decide +kernel) ⟨Nat.le_of_ble_eq_true rfl, Nat.le_of_ble_eq_true rfl⟩) (kp_S hK hP hD hTB) rfl rfl hl.1 rfl (lv_room (Nat.le_of_ble_eq_true rfl)) dX6_rule_47 ⟨Nat.le_of_ble_eq_true rfl, Nat.le_of_ble_eq_true rfl⟩) hD hS hA (fun r_9 x_9 H locs hq_9 hP hD hS => ?_)
        rw [hq_9.1]
        rw [hq_9.2] at hP hD
        refine lv_if_eq (tgt := 64) hx hb dX6_rule_50 (by decide) (fun c_10 => ?_) (fun c_10 => ?_)
        · refine lv_aload_n hx hb dX6_rule_64 rfl (lv_at hl 0 rfl) ?_
          refine lv_iconst (v := 2) hx hb dX6_rule_65 (by decide) ?_
          refine kc_i (va_runV (As := [.int 2]) (rest := []) ⟨hx, hb, hml, hown, htT⟩ (m_no l D cA _ am r (mS M 0 0) 2) (cwV 1 htT (kg_V m_ml_X6_95 m_im_X6_no m_sl_X6_no m_in_X6 m_cd_X6_no) rfl rfl rfl (by decide +kernel) ⟨Nat.le_of_ble_eq_true rfl, Nat.le_of_ble_eq_true rfl⟩) (kp_V hK hP hD hTB (km_rc hK hP)) rfl rfl hl.1 rfl (lv_room (Nat.le_of_ble_eq_true rfl)) dX6_rule_66 ⟨Nat.le_of_ble_eq_true rfl, Nat.le_of_ble_eq_true rfl⟩) hD hS hA (fun r_11 x_11 H locs hq_11 hP hD hS => ?_)
          rw [hq_11.1]
          rw [hq_11.2] at hP hD
          exact W.iret (v := 0) hx hb hr (fun t ht hW => ⟨⟨0, mS (mS M 0 0) 0 2, rfl, ⟨na, (INVR.iS (INVR.iS hI (by decide) (by decide)) (by decide) (by decide)), rfl, rfl⟩, by rw [ht]; exact hP, va_K.moved hW.alike hK, hD⟩, hS.F ht⟩) hS.2.2 dX6_rule_69
        · refine lv_iload hx hb dX6_rule_53 (lv_at hl 4 rfl) ?_
          refine lv_iconst (v := 0) hx hb dX6_rule_55 (by decide) ?_
          refine lv_bipush (v := 9) hx hb dX6_rule_56 (by decide) ?_
          refine kc_i (va_runS (As := [.int p3, .int 0, .int 9]) (rest := []) ⟨hx, hb, hml, hown, htT⟩ (m_isIn l D cA _ am r (mS M 0 0) p3 0 9) (cwS 3 htT (kg_S m_ml_X6_87 m_st_X6_isIn m_in_X6 m_cd_X6_isIn) rfl rfl rfl (by decide +kernel) ⟨Nat.le_of_ble_eq_true rfl, Nat.le_of_ble_eq_true rfl⟩) (kp_S hK hP hD hTB) rfl rfl hl.1 rfl (lv_room (Nat.le_of_ble_eq_true rfl)) dX6_rule_58 ⟨Nat.le_of_ble_eq_true rfl, Nat.le_of_ble_eq_true rfl⟩) hD hS hA (fun r_12 x_12 H locs hq_12 hP hD hS => ?_)
          rw [hq_12.1]
          rw [hq_12.2] at hP hD
          refine lv_if_ne (tgt := 70) hx hb dX6_rule_61 (by decide) (fun c_13 => ?_) (fun c_13 => ?_)
          · have hru_14 := (hok.2.2.2.2 i hi).1
            refine lv_aload_n hx hb dX6_rule_70 rfl (lv_at hl 0 rfl) ?_
            refine km_getr hx hb htT hown hK hP 17 (by decide) rfl (htT _ m_fl_X6_50) dX6_rule_71 ?_
            refine lv_iload_n hx hb dX6_rule_74 rfl (lv_at hl 1 rfl) ?_
            refine km_ialdv (x := nI (ru i)) hx hb hK hP 17 rfl rfl (show vp_in (nI (i)) 8 from ki_in (by omega) (by decide)) ((congrArg _ (ki_cl (by omega))).trans (hok.2.2.2.2 i hi).2.1) dX6_rule_75 ?_
            refine lv_iconst (v := 5) hx hb dX6_rule_76 (by decide) ?_
            refine lv_icmp_ne (tgt := 86) hx hb dX6_rule_77 (by decide) (fun c_15 => ?_) (fun c_15 => ?_)
            · replace c_15 : ¬ (ru i = 5) := fun h9 => c_15 ((nI_eq (a := ru i) (b := 5) (by omega) (by omega)).mpr h9)
              refine lv_iload_n hx hb dX6_rule_86 rfl (lv_at hl 1 rfl) ?_
              refine lv_iconst (v := 5) hx hb dX6_rule_87 (by decide) ?_
              refine lv_imul hx hb dX6_rule_88 ?_
              rw [show ((nI i) * 5 : Int32) = nI (5 * i) from (pk_mul i 5).trans (congrArg nI (by omega))]
              refine lv_aload_n hx hb dX6_rule_89 rfl (lv_at hl 0 rfl) ?_
              refine km_getr hx hb htT hown hK hP 17 (by decide) rfl (htT _ m_fl_X6_50) dX6_rule_90 ?_
              refine lv_iload_n hx hb dX6_rule_93 rfl (lv_at hl 1 rfl) ?_
              refine km_ialdv (x := nI (ru i)) hx hb hK hP 17 rfl rfl (show vp_in (nI (i)) 8 from ki_in (by omega) (by decide)) ((congrArg _ (ki_cl (by omega))).trans (hok.2.2.2.2 i hi).2.1) dX6_rule_94 ?_
              refine lv_iadd hx hb dX6_rule_95 ?_
              rw [show ((nI (5 * i)) + (nI (ru i)) : Int32) = nI (5 * i + ru i) from (nI_add (5 * i) (ru i)).trans (congrArg nI (by omega))]
              refine lv_istore (lv' := [(6, .int (nI (5 * i + ru i))), (0, .ref am), (1, .int (nI i)), (2, .int p1), (3, .int p2), (4, .int p3), (5, .int p4)]) hx hb dX6_rule_96 hl (by decide) rfl (fun ls hl => ?_)
              refine lv_aload_n hx hb dX6_rule_98 rfl (lv_at hl 1 rfl) ?_
              refine km_getr hx hb htT hown hK hP 18 (by decide) rfl (htT _ m_fl_X6_53) dX6_rule_99 ?_
              refine lv_iload hx hb dX6_rule_102 (lv_at hl 0 rfl) ?_
              refine lv_iload_n hx hb dX6_rule_104 rfl (lv_at hl 3 rfl) ?_
              refine km_iast hx hb hK hP hD hS 18 rfl rfl (show vp_in (nI (5 * i + ru i)) 40 from ki_in (by omega) (by decide)) dX6_rule_105 (fun H locs hP hD hS => ?_)
              rw [ki_cl (n := 5 * i + ru i) (by omega)] at hP hD
              refine lv_aload_n hx hb dX6_rule_106 rfl (lv_at hl 1 rfl) ?_
              refine km_getr hx hb htT hown hK hP 19 (by decide) rfl (htT _ m_fl_X6_56) dX6_rule_107 ?_
              refine lv_iload hx hb dX6_rule_110 (lv_at hl 0 rfl) ?_
              refine lv_iload_n hx hb dX6_rule_112 rfl (lv_at hl 4 rfl) ?_
              refine km_iast hx hb hK hP hD hS 19 rfl rfl (show vp_in (nI (5 * i + ru i)) 40 from ki_in (by omega) (by decide)) dX6_rule_113 (fun H locs hP hD hS => ?_)
              rw [ki_cl (n := 5 * i + ru i) (by omega)] at hP hD
              refine lv_aload_n hx hb dX6_rule_114 rfl (lv_at hl 1 rfl) ?_
              refine km_getr hx hb htT hown hK hP 20 (by decide) rfl (htT _ m_fl_X6_59) dX6_rule_115 ?_
              refine lv_iload hx hb dX6_rule_118 (lv_at hl 0 rfl) ?_
              refine lv_iload hx hb dX6_rule_120 (lv_at hl 5 rfl) ?_
              refine km_iast hx hb hK hP hD hS 20 rfl rfl (show vp_in (nI (5 * i + ru i)) 40 from ki_in (by omega) (by decide)) dX6_rule_122 (fun H locs hP hD hS => ?_)
              rw [ki_cl (n := 5 * i + ru i) (by omega)] at hP hD
              refine lv_aload_n hx hb dX6_rule_123 rfl (lv_at hl 1 rfl) ?_
              refine km_getr hx hb htT hown hK hP 21 (by decide) rfl (htT _ m_fl_X6_62) dX6_rule_124 ?_
              refine lv_iload hx hb dX6_rule_127 (lv_at hl 0 rfl) ?_
              refine lv_iload hx hb dX6_rule_129 (lv_at hl 6 rfl) ?_
              refine km_iast hx hb hK hP hD hS 21 rfl rfl (show vp_in (nI (5 * i + ru i)) 40 from ki_in (by omega) (by decide)) dX6_rule_131 (fun H locs hP hD hS => ?_)
              rw [ki_cl (n := 5 * i + ru i) (by omega)] at hP hD
              refine lv_aload_n hx hb dX6_rule_132 rfl (lv_at hl 1 rfl) ?_
              refine km_getr hx hb htT hown hK hP 17 (by decide) rfl (htT _ m_fl_X6_50) dX6_rule_133 ?_
              refine lv_iload_n hx hb dX6_rule_136 rfl (lv_at hl 2 rfl) ?_
              refine lv_dup2_11 hx hb dX6_rule_137 rfl rfl ?_
              refine km_ialdv (x := nI (ru i)) hx hb hK hP 17 rfl rfl (show vp_in (nI (i)) 8 from ki_in (by omega) (by decide)) ((congrArg _ (ki_cl (by omega))).trans (hok.2.2.2.2 i hi).2.1) dX6_rule_138 ?_
              refine lv_iconst (v := 1) hx hb dX6_rule_139 (by decide) ?_
              refine lv_iadd hx hb dX6_rule_140 ?_
              rw [show ((nI (ru i)) + 1 : Int32) = nI ((ru i) + 1) from nI_add (ru i) 1]
              refine lv_dup_x2 hx hb dX6_rule_141 rfl rfl rfl ?_
              refine km_iast hx hb hK hP hD hS 17 rfl rfl (show vp_in (nI (i)) 8 from ki_in (by omega) (by decide)) dX6_rule_142 (fun H locs hP hD hS => ?_)
              rw [ki_cl (n := i) (by omega)] at hP hD
              exact W.iret (v := nI ((ru i) + 1)) hx hb hr (fun t ht hW => ⟨⟨nI ((ru i) + 1), mR (mR (mR (mR (mR (mS M 0 0) 18 (5 * i + ru i) p1) 19 (5 * i + ru i) p2) 20 (5 * i + ru i) p3) 21 (5 * i + ru i) p4) 17 i (nI ((ru i) + 1)), rfl, ⟨na, (INVR.rules (INVR.iR (INVR.iR (INVR.iR (INVR.iR (INVR.iS hI (by decide) (by decide)) (by decide)) (by decide)) (by decide)) (by decide)) hi (by omega)), rfl, rfl⟩, by rw [ht]; exact hP, va_K.moved hW.alike hK, hD⟩, hS.F ht⟩) hS.2.2 dX6_rule_143
            · replace c_15 := (nI_eq (a := ru i) (b := 5) (by omega) (by omega)).mp c_15
              refine lv_aload_n hx hb dX6_rule_80 rfl (lv_at hl 0 rfl) ?_
              refine lv_iconst (v := 3) hx hb dX6_rule_81 (by decide) ?_
              refine kc_i (va_runV (As := [.int 3]) (rest := []) ⟨hx, hb, hml, hown, htT⟩ (m_no l D cA _ am r (mS M 0 0) 3) (cwV 1 htT (kg_V m_ml_X6_95 m_im_X6_no m_sl_X6_no m_in_X6 m_cd_X6_no) rfl rfl rfl (by decide +kernel) ⟨Nat.le_of_ble_eq_true rfl, Nat.le_of_ble_eq_true rfl⟩) (kp_V hK hP hD hTB (km_rc hK hP)) rfl rfl hl.1 rfl (lv_room (Nat.le_of_ble_eq_true rfl)) dX6_rule_82 ⟨Nat.le_of_ble_eq_true rfl, Nat.le_of_ble_eq_true rfl⟩) hD hS hA (fun r_16 x_16 H locs hq_16 hP hD hS => ?_)
              rw [hq_16.1]
              rw [hq_16.2] at hP hD
              exact W.iret (v := 0) hx hb hr (fun t ht hW => ⟨⟨0, mS (mS M 0 0) 0 3, rfl, ⟨na, (INVR.iS (INVR.iS hI (by decide) (by decide)) (by decide) (by decide)), rfl, rfl⟩, by rw [ht]; exact hP, va_K.moved hW.alike hK, hD⟩, hS.F ht⟩) hS.2.2 dX6_rule_85
          · refine lv_aload_n hx hb dX6_rule_64 rfl (lv_at hl 0 rfl) ?_
            refine lv_iconst (v := 2) hx hb dX6_rule_65 (by decide) ?_
            refine kc_i (va_runV (As := [.int 2]) (rest := []) ⟨hx, hb, hml, hown, htT⟩ (m_no l D cA _ am r (mS M 0 0) 2) (cwV 1 htT (kg_V m_ml_X6_95 m_im_X6_no m_sl_X6_no m_in_X6 m_cd_X6_no) rfl rfl rfl (by decide +kernel) ⟨Nat.le_of_ble_eq_true rfl, Nat.le_of_ble_eq_true rfl⟩) (kp_V hK hP hD hTB (km_rc hK hP)) rfl rfl hl.1 rfl (lv_room (Nat.le_of_ble_eq_true rfl)) dX6_rule_66 ⟨Nat.le_of_ble_eq_true rfl, Nat.le_of_ble_eq_true rfl⟩) hD hS hA (fun r_17 x_17 H locs hq_17 hP hD hS => ?_)
            rw [hq_17.1]
            rw [hq_17.2] at hP hD
            exact W.iret (v := 0) hx hb hr (fun t ht hW => ⟨⟨0, mS (mS M 0 0) 0 2, rfl, ⟨na, (INVR.iS (INVR.iS hI (by decide) (by decide)) (by decide) (by decide)), rfl, rfl⟩, by rw [ht]; exact hP, va_K.moved hW.alike hK, hD⟩, hS.F ht⟩) hS.2.2 dX6_rule_69
    · refine lv_aload_n hx hb dX6_rule_19 rfl (lv_at hl 0 rfl) ?_
      refine lv_iload_n hx hb dX6_rule_20 rfl (lv_at hl 1 rfl) ?_
      refine lv_iload hx hb dX6_rule_21 (lv_at hl 5 rfl) ?_
      have h3_18 : M.1 3 = nI n := hI.h3
      refine kc_i (va_runV (As := [.int (nI i), .int p4]) (rest := []) ⟨hx, hb, hml, hown, htT⟩ (m_isVariant_1 l D cA _ am r (mS M 0 0) n i hi hI.n8 h3_18 p4) (cwV 2 htT (kg_V m_ml_X6_102 m_im_X6_isVariant m_sl_X6_isVariant m_in_X6 m_cd_X6_isVariant) rfl rfl rfl (by decide +kernel) ⟨Nat.le_of_ble_eq_true rfl, Nat.le_of_ble_eq_true rfl⟩) (kp_V hK hP hD hTB (km_rc hK hP)) rfl rfl hl.1 rfl (lv_room (Nat.le_of_ble_eq_true rfl)) dX6_rule_23 ⟨Nat.le_of_ble_eq_true rfl, Nat.le_of_ble_eq_true rfl⟩) hD hS hA (fun r_18 x_18 H locs hq_18 hP hD hS => ?_)
      rw [hq_18.2] at hP hD
      obtain ⟨vc_18, hvc_18, evc_18⟩ := (hI.2.1 i hi).1
      rcases kIn_swx (n := vc_18) (p := p4) (by omega) evc_18 with hv_18 | ⟨v_18, hv_18, rfl⟩
      · rw [hq_18.1.trans hv_18]
        refine lv_if_ne (tgt := 35) hx hb dX6_rule_26 (by decide) (fun c_19 => absurd c_19 (by decide)) (fun _ => ?_)
        refine lv_aload_n hx hb dX6_rule_29 rfl (lv_at hl 0 rfl) ?_
        refine lv_iconst (v := 1) hx hb dX6_rule_30 (by decide) ?_
        refine kc_i (va_runV (As := [.int 1]) (rest := []) ⟨hx, hb, hml, hown, htT⟩ (m_no l D cA _ am r (mS M 0 0) 1) (cwV 1 htT (kg_V m_ml_X6_95 m_im_X6_no m_sl_X6_no m_in_X6 m_cd_X6_no) rfl rfl rfl (by decide +kernel) ⟨Nat.le_of_ble_eq_true rfl, Nat.le_of_ble_eq_true rfl⟩) (kp_V hK hP hD hTB (km_rc hK hP)) rfl rfl hl.1 rfl (lv_room (Nat.le_of_ble_eq_true rfl)) dX6_rule_31 ⟨Nat.le_of_ble_eq_true rfl, Nat.le_of_ble_eq_true rfl⟩) hD hS hA (fun r_20 x_20 H locs hq_20 hP hD hS => ?_)
        rw [hq_20.1]
        rw [hq_20.2] at hP hD
        exact W.iret (v := 0) hx hb hr (fun t ht hW => ⟨⟨0, mS (mS M 0 0) 0 1, rfl, ⟨na, (INVR.iS (INVR.iS hI (by decide) (by decide)) (by decide) (by decide)), rfl, rfl⟩, by rw [ht]; exact hP, va_K.moved hW.alike hK, hD⟩, hS.F ht⟩) hS.2.2 dX6_rule_34
      · have hv4_18 : v_18 < 4 := by omega
        have hvk_18 := kIn_sw (i := v_18) (n := vc_18) hv_18 (by omega) evc_18
        rw [hq_18.1.trans hvk_18]
        refine lv_if_ne (tgt := 35) hx hb dX6_rule_26 (by decide) (fun _ => ?_) (fun c_21 => absurd c_21 (by decide))
        refine lv_iload_n hx hb dX6_rule_35 rfl (lv_at hl 2 rfl) ?_
        refine lv_iconst (v := 0) hx hb dX6_rule_36 (by decide) ?_
        refine lv_iconst (v := 1) hx hb dX6_rule_37 (by decide) ?_
        refine kc_i (va_runS (As := [.int p1, .int 0, .int 1]) (rest := []) ⟨hx, hb, hml, hown, htT⟩ (m_isIn l D cA _ am r (mS M 0 0) p1 0 1) (cwS 3 htT (kg_S m_ml_X6_87 m_st_X6_isIn m_in_X6 m_cd_X6_isIn) rfl rfl rfl (by decide +kernel) ⟨Nat.le_of_ble_eq_true rfl, Nat.le_of_ble_eq_true rfl⟩) (kp_S hK hP hD hTB) rfl rfl hl.1 rfl (lv_room (Nat.le_of_ble_eq_true rfl)) dX6_rule_38 ⟨Nat.le_of_ble_eq_true rfl, Nat.le_of_ble_eq_true rfl⟩) hD hS hA (fun r_22 x_22 H locs hq_22 hP hD hS => ?_)
        rw [hq_22.1]
        rw [hq_22.2] at hP hD
        refine lv_if_eq (tgt := 64) hx hb dX6_rule_41 (by decide) (fun c_23 => ?_) (fun c_23 => ?_)
        · refine lv_aload_n hx hb dX6_rule_64 rfl (lv_at hl 0 rfl) ?_
          refine lv_iconst (v := 2) hx hb dX6_rule_65 (by decide) ?_
          refine kc_i (va_runV (As := [.int 2]) (rest := []) ⟨hx, hb, hml, hown, htT⟩ (m_no l D cA _ am r (mS M 0 0) 2) (cwV 1 htT (kg_V m_ml_X6_95 m_im_X6_no m_sl_X6_no m_in_X6 m_cd_X6_no) rfl rfl rfl (by decide +kernel) ⟨Nat.le_of_ble_eq_true rfl, Nat.le_of_ble_eq_true rfl⟩) (kp_V hK hP hD hTB (km_rc hK hP)) rfl rfl hl.1 rfl (lv_room (Nat.le_of_ble_eq_true rfl)) dX6_rule_66 ⟨Nat.le_of_ble_eq_true rfl, Nat.le_of_ble_eq_true rfl⟩) hD hS hA (fun r_24 x_24 H locs hq_24 hP hD hS => ?_)
          rw [hq_24.1]
          rw [hq_24.2] at hP hD
          exact W.iret (v := 0) hx hb hr (fun t ht hW => ⟨⟨0, mS (mS M 0 0) 0 2, rfl, ⟨na, (INVR.iS (INVR.iS hI (by decide) (by decide)) (by decide) (by decide)), rfl, rfl⟩, by rw [ht]; exact hP, va_K.moved hW.alike hK, hD⟩, hS.F ht⟩) hS.2.2 dX6_rule_69
        · refine lv_iload_n hx hb dX6_rule_44 rfl (lv_at hl 3 rfl) ?_
          refine lv_iconst (v := 1) hx hb dX6_rule_45 (by decide) ?_
          refine lv_iconst (v := 3) hx hb dX6_rule_46 (by decide) ?_
          refine kc_i (va_runS (As := [.int p2, .int 1, .int 3]) (rest := []) ⟨hx, hb, hml, hown, htT⟩ (m_isIn l D cA _ am r (mS M 0 0) p2 1 3) (cwS 3 htT (kg_S m_ml_X6_87 m_st_X6_isIn m_in_X6 m_cd_X6_isIn) rfl rfl rfl (by decide +kernel) ⟨Nat.le_of_ble_eq_true rfl, Nat.le_of_ble_eq_true rfl⟩) (kp_S hK hP hD hTB) rfl rfl hl.1 rfl (lv_room (Nat.le_of_ble_eq_true rfl)) dX6_rule_47 ⟨Nat.le_of_ble_eq_true rfl, Nat.le_of_ble_eq_true rfl⟩) hD hS hA (fun r_25 x_25 H locs hq_25 hP hD hS => ?_)
          rw [hq_25.1]
          rw [hq_25.2] at hP hD
          refine lv_if_eq (tgt := 64) hx hb dX6_rule_50 (by decide) (fun c_26 => ?_) (fun c_26 => ?_)
          · refine lv_aload_n hx hb dX6_rule_64 rfl (lv_at hl 0 rfl) ?_
            refine lv_iconst (v := 2) hx hb dX6_rule_65 (by decide) ?_
            refine kc_i (va_runV (As := [.int 2]) (rest := []) ⟨hx, hb, hml, hown, htT⟩ (m_no l D cA _ am r (mS M 0 0) 2) (cwV 1 htT (kg_V m_ml_X6_95 m_im_X6_no m_sl_X6_no m_in_X6 m_cd_X6_no) rfl rfl rfl (by decide +kernel) ⟨Nat.le_of_ble_eq_true rfl, Nat.le_of_ble_eq_true rfl⟩) (kp_V hK hP hD hTB (km_rc hK hP)) rfl rfl hl.1 rfl (lv_room (Nat.le_of_ble_eq_true rfl)) dX6_rule_66 ⟨Nat.le_of_ble_eq_true rfl, Nat.le_of_ble_eq_true rfl⟩) hD hS hA (fun r_27 x_27 H locs hq_27 hP hD hS => ?_)
            rw [hq_27.1]
            rw [hq_27.2] at hP hD
            exact W.iret (v := 0) hx hb hr (fun t ht hW => ⟨⟨0, mS (mS M 0 0) 0 2, rfl, ⟨na, (INVR.iS (INVR.iS hI (by decide) (by decide)) (by decide) (by decide)), rfl, rfl⟩, by rw [ht]; exact hP, va_K.moved hW.alike hK, hD⟩, hS.F ht⟩) hS.2.2 dX6_rule_69
          · refine lv_iload hx hb dX6_rule_53 (lv_at hl 4 rfl) ?_
            refine lv_iconst (v := 0) hx hb dX6_rule_55 (by decide) ?_
            refine lv_bipush (v := 9) hx hb dX6_rule_56 (by decide) ?_
            refine kc_i (va_runS (As := [.int p3, .int 0, .int 9]) (rest := []) ⟨hx, hb, hml, hown, htT⟩ (m_isIn l D cA _ am r (mS M 0 0) p3 0 9) (cwS 3 htT (kg_S m_ml_X6_87 m_st_X6_isIn m_in_X6 m_cd_X6_isIn) rfl rfl rfl (by decide +kernel) ⟨Nat.le_of_ble_eq_true rfl, Nat.le_of_ble_eq_true rfl⟩) (kp_S hK hP hD hTB) rfl rfl hl.1 rfl (lv_room (Nat.le_of_ble_eq_true rfl)) dX6_rule_58 ⟨Nat.le_of_ble_eq_true rfl, Nat.le_of_ble_eq_true rfl⟩) hD hS hA (fun r_28 x_28 H locs hq_28 hP hD hS => ?_)
            rw [hq_28.1]
            rw [hq_28.2] at hP hD
            refine lv_if_ne (tgt := 70) hx hb dX6_rule_61 (by decide) (fun c_29 => ?_) (fun c_29 => ?_)
            · have hru_30 := (hok.2.2.2.2 i hi).1
              refine lv_aload_n hx hb dX6_rule_70 rfl (lv_at hl 0 rfl) ?_
              refine km_getr hx hb htT hown hK hP 17 (by decide) rfl (htT _ m_fl_X6_50) dX6_rule_71 ?_
              refine lv_iload_n hx hb dX6_rule_74 rfl (lv_at hl 1 rfl) ?_
              refine km_ialdv (x := nI (ru i)) hx hb hK hP 17 rfl rfl (show vp_in (nI (i)) 8 from ki_in (by omega) (by decide)) ((congrArg _ (ki_cl (by omega))).trans (hok.2.2.2.2 i hi).2.1) dX6_rule_75 ?_
              refine lv_iconst (v := 5) hx hb dX6_rule_76 (by decide) ?_
              refine lv_icmp_ne (tgt := 86) hx hb dX6_rule_77 (by decide) (fun c_31 => ?_) (fun c_31 => ?_)
              · replace c_31 : ¬ (ru i = 5) := fun h9 => c_31 ((nI_eq (a := ru i) (b := 5) (by omega) (by omega)).mpr h9)
                refine lv_iload_n hx hb dX6_rule_86 rfl (lv_at hl 1 rfl) ?_
                refine lv_iconst (v := 5) hx hb dX6_rule_87 (by decide) ?_
                refine lv_imul hx hb dX6_rule_88 ?_
                rw [show ((nI i) * 5 : Int32) = nI (5 * i) from (pk_mul i 5).trans (congrArg nI (by omega))]
                refine lv_aload_n hx hb dX6_rule_89 rfl (lv_at hl 0 rfl) ?_
                refine km_getr hx hb htT hown hK hP 17 (by decide) rfl (htT _ m_fl_X6_50) dX6_rule_90 ?_
                refine lv_iload_n hx hb dX6_rule_93 rfl (lv_at hl 1 rfl) ?_
                refine km_ialdv (x := nI (ru i)) hx hb hK hP 17 rfl rfl (show vp_in (nI (i)) 8 from ki_in (by omega) (by decide)) ((congrArg _ (ki_cl (by omega))).trans (hok.2.2.2.2 i hi).2.1) dX6_rule_94 ?_
                refine lv_iadd hx hb dX6_rule_95 ?_
                rw [show ((nI (5 * i)) + (nI (ru i)) : Int32) = nI (5 * i + ru i) from (nI_add (5 * i) (ru i)).trans (congrArg nI (by omega))]
                refine lv_istore (lv' := [(6, .int (nI (5 * i + ru i))), (0, .ref am), (1, .int (nI i)), (2, .int p1), (3, .int p2), (4, .int p3), (5, .int (nI v_18))]) hx hb dX6_rule_96 hl (by decide) rfl (fun ls hl => ?_)
                refine lv_aload_n hx hb dX6_rule_98 rfl (lv_at hl 1 rfl) ?_
                refine km_getr hx hb htT hown hK hP 18 (by decide) rfl (htT _ m_fl_X6_53) dX6_rule_99 ?_
                refine lv_iload hx hb dX6_rule_102 (lv_at hl 0 rfl) ?_
                refine lv_iload_n hx hb dX6_rule_104 rfl (lv_at hl 3 rfl) ?_
                refine km_iast hx hb hK hP hD hS 18 rfl rfl (show vp_in (nI (5 * i + ru i)) 40 from ki_in (by omega) (by decide)) dX6_rule_105 (fun H locs hP hD hS => ?_)
                rw [ki_cl (n := 5 * i + ru i) (by omega)] at hP hD
                refine lv_aload_n hx hb dX6_rule_106 rfl (lv_at hl 1 rfl) ?_
                refine km_getr hx hb htT hown hK hP 19 (by decide) rfl (htT _ m_fl_X6_56) dX6_rule_107 ?_
                refine lv_iload hx hb dX6_rule_110 (lv_at hl 0 rfl) ?_
                refine lv_iload_n hx hb dX6_rule_112 rfl (lv_at hl 4 rfl) ?_
                refine km_iast hx hb hK hP hD hS 19 rfl rfl (show vp_in (nI (5 * i + ru i)) 40 from ki_in (by omega) (by decide)) dX6_rule_113 (fun H locs hP hD hS => ?_)
                rw [ki_cl (n := 5 * i + ru i) (by omega)] at hP hD
                refine lv_aload_n hx hb dX6_rule_114 rfl (lv_at hl 1 rfl) ?_
                refine km_getr hx hb htT hown hK hP 20 (by decide) rfl (htT _ m_fl_X6_59) dX6_rule_115 ?_
                refine lv_iload hx hb dX6_rule_118 (lv_at hl 0 rfl) ?_
                refine lv_iload hx hb dX6_rule_120 (lv_at hl 5 rfl) ?_
                refine km_iast hx hb hK hP hD hS 20 rfl rfl (show vp_in (nI (5 * i + ru i)) 40 from ki_in (by omega) (by decide)) dX6_rule_122 (fun H locs hP hD hS => ?_)
                rw [ki_cl (n := 5 * i + ru i) (by omega)] at hP hD
                refine lv_aload_n hx hb dX6_rule_123 rfl (lv_at hl 1 rfl) ?_
                refine km_getr hx hb htT hown hK hP 21 (by decide) rfl (htT _ m_fl_X6_62) dX6_rule_124 ?_
                refine lv_iload hx hb dX6_rule_127 (lv_at hl 0 rfl) ?_
                refine lv_iload hx hb dX6_rule_129 (lv_at hl 6 rfl) ?_
                refine km_iast hx hb hK hP hD hS 21 rfl rfl (show vp_in (nI (5 * i + ru i)) 40 from ki_in (by omega) (by decide)) dX6_rule_131 (fun H locs hP hD hS => ?_)
                rw [ki_cl (n := 5 * i + ru i) (by omega)] at hP hD
                refine lv_aload_n hx hb dX6_rule_132 rfl (lv_at hl 1 rfl) ?_
                refine km_getr hx hb htT hown hK hP 17 (by decide) rfl (htT _ m_fl_X6_50) dX6_rule_133 ?_
                refine lv_iload_n hx hb dX6_rule_136 rfl (lv_at hl 2 rfl) ?_
                refine lv_dup2_11 hx hb dX6_rule_137 rfl rfl ?_
                refine km_ialdv (x := nI (ru i)) hx hb hK hP 17 rfl rfl (show vp_in (nI (i)) 8 from ki_in (by omega) (by decide)) ((congrArg _ (ki_cl (by omega))).trans (hok.2.2.2.2 i hi).2.1) dX6_rule_138 ?_
                refine lv_iconst (v := 1) hx hb dX6_rule_139 (by decide) ?_
                refine lv_iadd hx hb dX6_rule_140 ?_
                rw [show ((nI (ru i)) + 1 : Int32) = nI ((ru i) + 1) from nI_add (ru i) 1]
                refine lv_dup_x2 hx hb dX6_rule_141 rfl rfl rfl ?_
                refine km_iast hx hb hK hP hD hS 17 rfl rfl (show vp_in (nI (i)) 8 from ki_in (by omega) (by decide)) dX6_rule_142 (fun H locs hP hD hS => ?_)
                rw [ki_cl (n := i) (by omega)] at hP hD
                exact W.iret (v := nI ((ru i) + 1)) hx hb hr (fun t ht hW => ⟨⟨nI ((ru i) + 1), mR (mR (mR (mR (mR (mS M 0 0) 18 (5 * i + ru i) p1) 19 (5 * i + ru i) p2) 20 (5 * i + ru i) p3) 21 (5 * i + ru i) (nI v_18)) 17 i (nI ((ru i) + 1)), rfl, ⟨na, (INVR.rules (INVR.iR (INVR.iR (INVR.iR (INVR.iR (INVR.iS hI (by decide) (by decide)) (by decide)) (by decide)) (by decide)) (by decide)) hi (by omega)), rfl, rfl⟩, by rw [ht]; exact hP, va_K.moved hW.alike hK, hD⟩, hS.F ht⟩) hS.2.2 dX6_rule_143
              · replace c_31 := (nI_eq (a := ru i) (b := 5) (by omega) (by omega)).mp c_31
                refine lv_aload_n hx hb dX6_rule_80 rfl (lv_at hl 0 rfl) ?_
                refine lv_iconst (v := 3) hx hb dX6_rule_81 (by decide) ?_
                refine kc_i (va_runV (As := [.int 3]) (rest := []) ⟨hx, hb, hml, hown, htT⟩ (m_no l D cA _ am r (mS M 0 0) 3) (cwV 1 htT (kg_V m_ml_X6_95 m_im_X6_no m_sl_X6_no m_in_X6 m_cd_X6_no) rfl rfl rfl (by decide +kernel) ⟨Nat.le_of_ble_eq_true rfl, Nat.le_of_ble_eq_true rfl⟩) (kp_V hK hP hD hTB (km_rc hK hP)) rfl rfl hl.1 rfl (lv_room (Nat.le_of_ble_eq_true rfl)) dX6_rule_82 ⟨Nat.le_of_ble_eq_true rfl, Nat.le_of_ble_eq_true rfl⟩) hD hS hA (fun r_32 x_32 H locs hq_32 hP hD hS => ?_)
                rw [hq_32.1]
                rw [hq_32.2] at hP hD
                exact W.iret (v := 0) hx hb hr (fun t ht hW => ⟨⟨0, mS (mS M 0 0) 0 3, rfl, ⟨na, (INVR.iS (INVR.iS hI (by decide) (by decide)) (by decide) (by decide)), rfl, rfl⟩, by rw [ht]; exact hP, va_K.moved hW.alike hK, hD⟩, hS.F ht⟩) hS.2.2 dX6_rule_85
            · refine lv_aload_n hx hb dX6_rule_64 rfl (lv_at hl 0 rfl) ?_
              refine lv_iconst (v := 2) hx hb dX6_rule_65 (by decide) ?_
              refine kc_i (va_runV (As := [.int 2]) (rest := []) ⟨hx, hb, hml, hown, htT⟩ (m_no l D cA _ am r (mS M 0 0) 2) (cwV 1 htT (kg_V m_ml_X6_95 m_im_X6_no m_sl_X6_no m_in_X6 m_cd_X6_no) rfl rfl rfl (by decide +kernel) ⟨Nat.le_of_ble_eq_true rfl, Nat.le_of_ble_eq_true rfl⟩) (kp_V hK hP hD hTB (km_rc hK hP)) rfl rfl hl.1 rfl (lv_room (Nat.le_of_ble_eq_true rfl)) dX6_rule_66 ⟨Nat.le_of_ble_eq_true rfl, Nat.le_of_ble_eq_true rfl⟩) hD hS hA (fun r_33 x_33 H locs hq_33 hP hD hS => ?_)
              rw [hq_33.1]
              rw [hq_33.2] at hP hD
              exact W.iret (v := 0) hx hb hr (fun t ht hW => ⟨⟨0, mS (mS M 0 0) 0 2, rfl, ⟨na, (INVR.iS (INVR.iS hI (by decide) (by decide)) (by decide) (by decide)), rfl, rfl⟩, by rw [ht]; exact hP, va_K.moved hW.alike hK, hD⟩, hS.F ht⟩) hS.2.2 dX6_rule_69

set_option maxRecDepth 100000 in
set_option maxHeartbeats 4000000 in
theorem m_moveUp_18 (l : Launch) (D : va_G) (cA : Nat → ClassId) (sz : Nat) (am : Nat) (r : Nat → Nat) (M : MSt) (ta te : Nat) (hte : te ≤ 40) (hat : ta + 1 ≤ te) : Met l yX6_moveUp (Cond.code yX6_moveUp cX6_moveUp 3 none :: TT) ({ frames := 1, cells := 0, slots := 0, locals := 60 }) (va_Pc [.ref (r 18), .int (nI ta), .int (nI te)] (kPre D cA (wM cA am r M) sz)) (va_Qv (fun (x_ : MSt) => ∃ f, x_ = mU M 18 f) (fun x_ => kB D cA (va_A (wM cA am r M) sz) (wM cA am r x_)) (va_A (wM cA am r M) sz)) 0 0 (va_A (wM cA am r M) sz) := by
  refine Met.ofW (cc := cX6_moveUp) (maxL := 3) (ret := none) (by decide) rfl ?_
  intro p e s m args below meth c s₁ B hml hv
  obtain ⟨rfl, hsz, hP, hK, hD0, hTB⟩ := hv
  have hx := B.exec
  have hb := B.bytes
  have hr := B.returns
  have hts := atoms_spec (ws := Cond.code yX6_moveUp cX6_moveUp 3 none :: TT) B.pre
  have htT : ∀ w ∈ TT, w.before _ s = true := fun w h => hts w (List.mem_cons_of_mem _ h)
  have hown : s.vm.findClass RX6 = some m.cls := findClass_of_methodNamed B.named
  have hlocks := B.notSynchronized
  subst hsz
  have hD := hD0.self (sz := s.heap.size)
  generalize hAe : va_A (wM cA am r M) s.heap.size = A at hD ⊢
  have hA : ∀ q : Nat, s.heap.size ≤ q → A q := fun q h => by rw [← hAe]; exact Or.inr h
  have hS : va_S A s.heap s.heap [] := va_S.rf
  have hl := lv_entry ([.ref (r 18), .int (nI ta), .int (nI te)]) (n := 3) (Nat.le_of_ble_eq_true rfl)
  rw [lg_entry_eq]
  generalize (lg_sl ([.ref (r 18), .int (nI ta), .int (nI te)]) ++ List.replicate (3 - (lg_sl ([.ref (r 18), .int (nI ta), .int (nI te)])).length) Slot.unset).toArray = ls at hl ⊢
  have hl : lv_has ls 3 [(0, .ref (r 18)), (1, .int (nI ta)), (2, .int (nI te))] := hl
  refine lv_aload_n hx hb dX6_moveUp_0 rfl (lv_at hl 0 rfl) ?_
  refine lv_iload_n hx hb dX6_moveUp_1 rfl (lv_at hl 1 rfl) ?_
  refine lv_iconst (v := 1) hx hb dX6_moveUp_2 (by decide) ?_
  refine lv_iadd hx hb dX6_moveUp_3 ?_
  rw [show ((nI ta) + 1 : Int32) = nI (ta + 1) from nI_add ta 1]
  refine lv_aload_n hx hb dX6_moveUp_4 rfl (lv_at hl 0 rfl) ?_
  refine lv_iload_n hx hb dX6_moveUp_5 rfl (lv_at hl 1 rfl) ?_
  refine lv_iload_n hx hb dX6_moveUp_6 rfl (lv_at hl 2 rfl) ?_
  refine lv_iload_n hx hb dX6_moveUp_7 rfl (lv_at hl 1 rfl) ?_
  refine lv_isub hx hb dX6_moveUp_8 ?_
  rw [show ((nI te) - (nI ta) : Int32) = nI (te - ta) from pk_sub (a := te) (b := ta) (by omega)]
  refine lv_iconst (v := 1) hx hb dX6_moveUp_9 (by decide) ?_
  refine lv_isub hx hb dX6_moveUp_10 ?_
  rw [show ((nI (te - ta)) - 1 : Int32) = nI ((te - ta) - 1) from pk_sub (a := te - ta) (b := 1) (by omega)]
  refine va_copyi hx hb (hml.trans hl.1.symm) hown (htT _ m_ml_X6_126) (htT _ m_nt_ac) (htT _ m_st_ac) (htT _ m_in_sys) hK hP hD hS (mPos 18) (mPos 18) 0 0 (wM_k rfl) (wM_k rfl) rfl rfl rfl (fun h9 => by have := (nI_ltI (a := ta + 1) (b := 0) (by omega) (by omega)).mp h9; omega) (fun h9 => by have := (nI_ltI (a := ta) (b := 0) (by omega) (by omega)).mp h9; omega) (fun h9 => by have := (nI_ltI (a := te - ta - 1) (b := 0) (by omega) (by omega)).mp h9; omega) (by rw [ki_cl (by omega), ki_cl (by omega)]; show _ ≤ 40; omega) (by rw [ki_cl (by omega), ki_cl (by omega)]; show _ ≤ 40; omega) (fun _ _ => rfl) (Nat.le_of_ble_eq_true rfl) (Nat.le_of_ble_eq_true rfl) dX6_moveUp_11 (fun H locs hP hD hS => ?_)
  have eW := wM_setk (cA := cA) (am := am) (r := r) (M := M) (k := 18) (f := va_cpy (M.2 18) (M.2 18) (nI (ta + 1)).toNatClampNeg (nI ta).toNatClampNeg (nI (te - ta - 1)).toNatClampNeg) rfl
  have hP : va_P D vwCl (wM cA am r (mU M 18 (va_cpy (M.2 18) (M.2 18) (nI (ta + 1)).toNatClampNeg (nI ta).toNatClampNeg (nI (te - ta - 1)).toNatClampNeg))) H := by rw [show wM cA am r (mU M 18 (va_cpy (M.2 18) (M.2 18) (nI (ta + 1)).toNatClampNeg (nI ta).toNatClampNeg (nI (te - ta - 1)).toNatClampNeg)) = _ from eW.symm]; exact hP
  have hD : va_D A (wM cA am r (mU M 18 (va_cpy (M.2 18) (M.2 18) (nI (ta + 1)).toNatClampNeg (nI ta).toNatClampNeg (nI (te - ta - 1)).toNatClampNeg))) := by rw [show wM cA am r (mU M 18 (va_cpy (M.2 18) (M.2 18) (nI (ta + 1)).toNatClampNeg (nI ta).toNatClampNeg (nI (te - ta - 1)).toNatClampNeg)) = _ from eW.symm]; exact hD
  exact W.vret hx hb hr (fun t ht hW => ⟨⟨mU M 18 (va_cpy (M.2 18) (M.2 18) (nI (ta + 1)).toNatClampNeg (nI ta).toNatClampNeg (nI (te - ta - 1)).toNatClampNeg), rfl, ⟨_, rfl⟩, by rw [ht]; exact hP, va_K.moved hW.alike hK, hD⟩, hS.F ht⟩) hS.2.2 dX6_moveUp_14

set_option maxRecDepth 100000 in
set_option maxHeartbeats 4000000 in
theorem m_moveUp_19 (l : Launch) (D : va_G) (cA : Nat → ClassId) (sz : Nat) (am : Nat) (r : Nat → Nat) (M : MSt) (ta te : Nat) (hte : te ≤ 40) (hat : ta + 1 ≤ te) : Met l yX6_moveUp (Cond.code yX6_moveUp cX6_moveUp 3 none :: TT) ({ frames := 1, cells := 0, slots := 0, locals := 60 }) (va_Pc [.ref (r 19), .int (nI ta), .int (nI te)] (kPre D cA (wM cA am r M) sz)) (va_Qv (fun (x_ : MSt) => ∃ f, x_ = mU M 19 f) (fun x_ => kB D cA (va_A (wM cA am r M) sz) (wM cA am r x_)) (va_A (wM cA am r M) sz)) 0 0 (va_A (wM cA am r M) sz) := by
  refine Met.ofW (cc := cX6_moveUp) (maxL := 3) (ret := none) (by decide) rfl ?_
  intro p e s m args below meth c s₁ B hml hv
  obtain ⟨rfl, hsz, hP, hK, hD0, hTB⟩ := hv
  have hx := B.exec
  have hb := B.bytes
  have hr := B.returns
  have hts := atoms_spec (ws := Cond.code yX6_moveUp cX6_moveUp 3 none :: TT) B.pre
  have htT : ∀ w ∈ TT, w.before _ s = true := fun w h => hts w (List.mem_cons_of_mem _ h)
  have hown : s.vm.findClass RX6 = some m.cls := findClass_of_methodNamed B.named
  have hlocks := B.notSynchronized
  subst hsz
  have hD := hD0.self (sz := s.heap.size)
  generalize hAe : va_A (wM cA am r M) s.heap.size = A at hD ⊢
  have hA : ∀ q : Nat, s.heap.size ≤ q → A q := fun q h => by rw [← hAe]; exact Or.inr h
  have hS : va_S A s.heap s.heap [] := va_S.rf
  have hl := lv_entry ([.ref (r 19), .int (nI ta), .int (nI te)]) (n := 3) (Nat.le_of_ble_eq_true rfl)
  rw [lg_entry_eq]
  generalize (lg_sl ([.ref (r 19), .int (nI ta), .int (nI te)]) ++ List.replicate (3 - (lg_sl ([.ref (r 19), .int (nI ta), .int (nI te)])).length) Slot.unset).toArray = ls at hl ⊢
  have hl : lv_has ls 3 [(0, .ref (r 19)), (1, .int (nI ta)), (2, .int (nI te))] := hl
  refine lv_aload_n hx hb dX6_moveUp_0 rfl (lv_at hl 0 rfl) ?_
  refine lv_iload_n hx hb dX6_moveUp_1 rfl (lv_at hl 1 rfl) ?_
  refine lv_iconst (v := 1) hx hb dX6_moveUp_2 (by decide) ?_
  refine lv_iadd hx hb dX6_moveUp_3 ?_
  rw [show ((nI ta) + 1 : Int32) = nI (ta + 1) from nI_add ta 1]
  refine lv_aload_n hx hb dX6_moveUp_4 rfl (lv_at hl 0 rfl) ?_
  refine lv_iload_n hx hb dX6_moveUp_5 rfl (lv_at hl 1 rfl) ?_
  refine lv_iload_n hx hb dX6_moveUp_6 rfl (lv_at hl 2 rfl) ?_
  refine lv_iload_n hx hb dX6_moveUp_7 rfl (lv_at hl 1 rfl) ?_
  refine lv_isub hx hb dX6_moveUp_8 ?_
  rw [show ((nI te) - (nI ta) : Int32) = nI (te - ta) from pk_sub (a := te) (b := ta) (by omega)]
  refine lv_iconst (v := 1) hx hb dX6_moveUp_9 (by decide) ?_
  refine lv_isub hx hb dX6_moveUp_10 ?_
  rw [show ((nI (te - ta)) - 1 : Int32) = nI ((te - ta) - 1) from pk_sub (a := te - ta) (b := 1) (by omega)]
  refine va_copyi hx hb (hml.trans hl.1.symm) hown (htT _ m_ml_X6_126) (htT _ m_nt_ac) (htT _ m_st_ac) (htT _ m_in_sys) hK hP hD hS (mPos 19) (mPos 19) 0 0 (wM_k rfl) (wM_k rfl) rfl rfl rfl (fun h9 => by have := (nI_ltI (a := ta + 1) (b := 0) (by omega) (by omega)).mp h9; omega) (fun h9 => by have := (nI_ltI (a := ta) (b := 0) (by omega) (by omega)).mp h9; omega) (fun h9 => by have := (nI_ltI (a := te - ta - 1) (b := 0) (by omega) (by omega)).mp h9; omega) (by rw [ki_cl (by omega), ki_cl (by omega)]; show _ ≤ 40; omega) (by rw [ki_cl (by omega), ki_cl (by omega)]; show _ ≤ 40; omega) (fun _ _ => rfl) (Nat.le_of_ble_eq_true rfl) (Nat.le_of_ble_eq_true rfl) dX6_moveUp_11 (fun H locs hP hD hS => ?_)
  have eW := wM_setk (cA := cA) (am := am) (r := r) (M := M) (k := 19) (f := va_cpy (M.2 19) (M.2 19) (nI (ta + 1)).toNatClampNeg (nI ta).toNatClampNeg (nI (te - ta - 1)).toNatClampNeg) rfl
  have hP : va_P D vwCl (wM cA am r (mU M 19 (va_cpy (M.2 19) (M.2 19) (nI (ta + 1)).toNatClampNeg (nI ta).toNatClampNeg (nI (te - ta - 1)).toNatClampNeg))) H := by rw [show wM cA am r (mU M 19 (va_cpy (M.2 19) (M.2 19) (nI (ta + 1)).toNatClampNeg (nI ta).toNatClampNeg (nI (te - ta - 1)).toNatClampNeg)) = _ from eW.symm]; exact hP
  have hD : va_D A (wM cA am r (mU M 19 (va_cpy (M.2 19) (M.2 19) (nI (ta + 1)).toNatClampNeg (nI ta).toNatClampNeg (nI (te - ta - 1)).toNatClampNeg))) := by rw [show wM cA am r (mU M 19 (va_cpy (M.2 19) (M.2 19) (nI (ta + 1)).toNatClampNeg (nI ta).toNatClampNeg (nI (te - ta - 1)).toNatClampNeg)) = _ from eW.symm]; exact hD
  exact W.vret hx hb hr (fun t ht hW => ⟨⟨mU M 19 (va_cpy (M.2 19) (M.2 19) (nI (ta + 1)).toNatClampNeg (nI ta).toNatClampNeg (nI (te - ta - 1)).toNatClampNeg), rfl, ⟨_, rfl⟩, by rw [ht]; exact hP, va_K.moved hW.alike hK, hD⟩, hS.F ht⟩) hS.2.2 dX6_moveUp_14

set_option maxRecDepth 100000 in
set_option maxHeartbeats 4000000 in
theorem m_moveUp_20 (l : Launch) (D : va_G) (cA : Nat → ClassId) (sz : Nat) (am : Nat) (r : Nat → Nat) (M : MSt) (ta te : Nat) (hte : te ≤ 40) (hat : ta + 1 ≤ te) : Met l yX6_moveUp (Cond.code yX6_moveUp cX6_moveUp 3 none :: TT) ({ frames := 1, cells := 0, slots := 0, locals := 60 }) (va_Pc [.ref (r 20), .int (nI ta), .int (nI te)] (kPre D cA (wM cA am r M) sz)) (va_Qv (fun (x_ : MSt) => ∃ f, x_ = mU M 20 f) (fun x_ => kB D cA (va_A (wM cA am r M) sz) (wM cA am r x_)) (va_A (wM cA am r M) sz)) 0 0 (va_A (wM cA am r M) sz) := by
  refine Met.ofW (cc := cX6_moveUp) (maxL := 3) (ret := none) (by decide) rfl ?_
  intro p e s m args below meth c s₁ B hml hv
  obtain ⟨rfl, hsz, hP, hK, hD0, hTB⟩ := hv
  have hx := B.exec
  have hb := B.bytes
  have hr := B.returns
  have hts := atoms_spec (ws := Cond.code yX6_moveUp cX6_moveUp 3 none :: TT) B.pre
  have htT : ∀ w ∈ TT, w.before _ s = true := fun w h => hts w (List.mem_cons_of_mem _ h)
  have hown : s.vm.findClass RX6 = some m.cls := findClass_of_methodNamed B.named
  have hlocks := B.notSynchronized
  subst hsz
  have hD := hD0.self (sz := s.heap.size)
  generalize hAe : va_A (wM cA am r M) s.heap.size = A at hD ⊢
  have hA : ∀ q : Nat, s.heap.size ≤ q → A q := fun q h => by rw [← hAe]; exact Or.inr h
  have hS : va_S A s.heap s.heap [] := va_S.rf
  have hl := lv_entry ([.ref (r 20), .int (nI ta), .int (nI te)]) (n := 3) (Nat.le_of_ble_eq_true rfl)
  rw [lg_entry_eq]
  generalize (lg_sl ([.ref (r 20), .int (nI ta), .int (nI te)]) ++ List.replicate (3 - (lg_sl ([.ref (r 20), .int (nI ta), .int (nI te)])).length) Slot.unset).toArray = ls at hl ⊢
  have hl : lv_has ls 3 [(0, .ref (r 20)), (1, .int (nI ta)), (2, .int (nI te))] := hl
  refine lv_aload_n hx hb dX6_moveUp_0 rfl (lv_at hl 0 rfl) ?_
  refine lv_iload_n hx hb dX6_moveUp_1 rfl (lv_at hl 1 rfl) ?_
  refine lv_iconst (v := 1) hx hb dX6_moveUp_2 (by decide) ?_
  refine lv_iadd hx hb dX6_moveUp_3 ?_
  rw [show ((nI ta) + 1 : Int32) = nI (ta + 1) from nI_add ta 1]
  refine lv_aload_n hx hb dX6_moveUp_4 rfl (lv_at hl 0 rfl) ?_
  refine lv_iload_n hx hb dX6_moveUp_5 rfl (lv_at hl 1 rfl) ?_
  refine lv_iload_n hx hb dX6_moveUp_6 rfl (lv_at hl 2 rfl) ?_
  refine lv_iload_n hx hb dX6_moveUp_7 rfl (lv_at hl 1 rfl) ?_
  refine lv_isub hx hb dX6_moveUp_8 ?_
  rw [show ((nI te) - (nI ta) : Int32) = nI (te - ta) from pk_sub (a := te) (b := ta) (by omega)]
  refine lv_iconst (v := 1) hx hb dX6_moveUp_9 (by decide) ?_
  refine lv_isub hx hb dX6_moveUp_10 ?_
  rw [show ((nI (te - ta)) - 1 : Int32) = nI ((te - ta) - 1) from pk_sub (a := te - ta) (b := 1) (by omega)]
  refine va_copyi hx hb (hml.trans hl.1.symm) hown (htT _ m_ml_X6_126) (htT _ m_nt_ac) (htT _ m_st_ac) (htT _ m_in_sys) hK hP hD hS (mPos 20) (mPos 20) 0 0 (wM_k rfl) (wM_k rfl) rfl rfl rfl (fun h9 => by have := (nI_ltI (a := ta + 1) (b := 0) (by omega) (by omega)).mp h9; omega) (fun h9 => by have := (nI_ltI (a := ta) (b := 0) (by omega) (by omega)).mp h9; omega) (fun h9 => by have := (nI_ltI (a := te - ta - 1) (b := 0) (by omega) (by omega)).mp h9; omega) (by rw [ki_cl (by omega), ki_cl (by omega)]; show _ ≤ 40; omega) (by rw [ki_cl (by omega), ki_cl (by omega)]; show _ ≤ 40; omega) (fun _ _ => rfl) (Nat.le_of_ble_eq_true rfl) (Nat.le_of_ble_eq_true rfl) dX6_moveUp_11 (fun H locs hP hD hS => ?_)
  have eW := wM_setk (cA := cA) (am := am) (r := r) (M := M) (k := 20) (f := va_cpy (M.2 20) (M.2 20) (nI (ta + 1)).toNatClampNeg (nI ta).toNatClampNeg (nI (te - ta - 1)).toNatClampNeg) rfl
  have hP : va_P D vwCl (wM cA am r (mU M 20 (va_cpy (M.2 20) (M.2 20) (nI (ta + 1)).toNatClampNeg (nI ta).toNatClampNeg (nI (te - ta - 1)).toNatClampNeg))) H := by rw [show wM cA am r (mU M 20 (va_cpy (M.2 20) (M.2 20) (nI (ta + 1)).toNatClampNeg (nI ta).toNatClampNeg (nI (te - ta - 1)).toNatClampNeg)) = _ from eW.symm]; exact hP
  have hD : va_D A (wM cA am r (mU M 20 (va_cpy (M.2 20) (M.2 20) (nI (ta + 1)).toNatClampNeg (nI ta).toNatClampNeg (nI (te - ta - 1)).toNatClampNeg))) := by rw [show wM cA am r (mU M 20 (va_cpy (M.2 20) (M.2 20) (nI (ta + 1)).toNatClampNeg (nI ta).toNatClampNeg (nI (te - ta - 1)).toNatClampNeg)) = _ from eW.symm]; exact hD
  exact W.vret hx hb hr (fun t ht hW => ⟨⟨mU M 20 (va_cpy (M.2 20) (M.2 20) (nI (ta + 1)).toNatClampNeg (nI ta).toNatClampNeg (nI (te - ta - 1)).toNatClampNeg), rfl, ⟨_, rfl⟩, by rw [ht]; exact hP, va_K.moved hW.alike hK, hD⟩, hS.F ht⟩) hS.2.2 dX6_moveUp_14

set_option maxRecDepth 100000 in
set_option maxHeartbeats 4000000 in
theorem m_moveUp_21 (l : Launch) (D : va_G) (cA : Nat → ClassId) (sz : Nat) (am : Nat) (r : Nat → Nat) (M : MSt) (ta te : Nat) (hte : te ≤ 40) (hat : ta + 1 ≤ te) : Met l yX6_moveUp (Cond.code yX6_moveUp cX6_moveUp 3 none :: TT) ({ frames := 1, cells := 0, slots := 0, locals := 60 }) (va_Pc [.ref (r 21), .int (nI ta), .int (nI te)] (kPre D cA (wM cA am r M) sz)) (va_Qv (fun (x_ : MSt) => ∃ f, x_ = mU M 21 f) (fun x_ => kB D cA (va_A (wM cA am r M) sz) (wM cA am r x_)) (va_A (wM cA am r M) sz)) 0 0 (va_A (wM cA am r M) sz) := by
  refine Met.ofW (cc := cX6_moveUp) (maxL := 3) (ret := none) (by decide) rfl ?_
  intro p e s m args below meth c s₁ B hml hv
  obtain ⟨rfl, hsz, hP, hK, hD0, hTB⟩ := hv
  have hx := B.exec
  have hb := B.bytes
  have hr := B.returns
  have hts := atoms_spec (ws := Cond.code yX6_moveUp cX6_moveUp 3 none :: TT) B.pre
  have htT : ∀ w ∈ TT, w.before _ s = true := fun w h => hts w (List.mem_cons_of_mem _ h)
  have hown : s.vm.findClass RX6 = some m.cls := findClass_of_methodNamed B.named
  have hlocks := B.notSynchronized
  subst hsz
  have hD := hD0.self (sz := s.heap.size)
  generalize hAe : va_A (wM cA am r M) s.heap.size = A at hD ⊢
  have hA : ∀ q : Nat, s.heap.size ≤ q → A q := fun q h => by rw [← hAe]; exact Or.inr h
  have hS : va_S A s.heap s.heap [] := va_S.rf
  have hl := lv_entry ([.ref (r 21), .int (nI ta), .int (nI te)]) (n := 3) (Nat.le_of_ble_eq_true rfl)
  rw [lg_entry_eq]
  generalize (lg_sl ([.ref (r 21), .int (nI ta), .int (nI te)]) ++ List.replicate (3 - (lg_sl ([.ref (r 21), .int (nI ta), .int (nI te)])).length) Slot.unset).toArray = ls at hl ⊢
  have hl : lv_has ls 3 [(0, .ref (r 21)), (1, .int (nI ta)), (2, .int (nI te))] := hl
  refine lv_aload_n hx hb dX6_moveUp_0 rfl (lv_at hl 0 rfl) ?_
  refine lv_iload_n hx hb dX6_moveUp_1 rfl (lv_at hl 1 rfl) ?_
  refine lv_iconst (v := 1) hx hb dX6_moveUp_2 (by decide) ?_
  refine lv_iadd hx hb dX6_moveUp_3 ?_
  rw [show ((nI ta) + 1 : Int32) = nI (ta + 1) from nI_add ta 1]
  refine lv_aload_n hx hb dX6_moveUp_4 rfl (lv_at hl 0 rfl) ?_
  refine lv_iload_n hx hb dX6_moveUp_5 rfl (lv_at hl 1 rfl) ?_
  refine lv_iload_n hx hb dX6_moveUp_6 rfl (lv_at hl 2 rfl) ?_
  refine lv_iload_n hx hb dX6_moveUp_7 rfl (lv_at hl 1 rfl) ?_
  refine lv_isub hx hb dX6_moveUp_8 ?_
  rw [show ((nI te) - (nI ta) : Int32) = nI (te - ta) from pk_sub (a := te) (b := ta) (by omega)]
  refine lv_iconst (v := 1) hx hb dX6_moveUp_9 (by decide) ?_
  refine lv_isub hx hb dX6_moveUp_10 ?_
  rw [show ((nI (te - ta)) - 1 : Int32) = nI ((te - ta) - 1) from pk_sub (a := te - ta) (b := 1) (by omega)]
  refine va_copyi hx hb (hml.trans hl.1.symm) hown (htT _ m_ml_X6_126) (htT _ m_nt_ac) (htT _ m_st_ac) (htT _ m_in_sys) hK hP hD hS (mPos 21) (mPos 21) 0 0 (wM_k rfl) (wM_k rfl) rfl rfl rfl (fun h9 => by have := (nI_ltI (a := ta + 1) (b := 0) (by omega) (by omega)).mp h9; omega) (fun h9 => by have := (nI_ltI (a := ta) (b := 0) (by omega) (by omega)).mp h9; omega) (fun h9 => by have := (nI_ltI (a := te - ta - 1) (b := 0) (by omega) (by omega)).mp h9; omega) (by rw [ki_cl (by omega), ki_cl (by omega)]; show _ ≤ 40; omega) (by rw [ki_cl (by omega), ki_cl (by omega)]; show _ ≤ 40; omega) (fun _ _ => rfl) (Nat.le_of_ble_eq_true rfl) (Nat.le_of_ble_eq_true rfl) dX6_moveUp_11 (fun H locs hP hD hS => ?_)
  have eW := wM_setk (cA := cA) (am := am) (r := r) (M := M) (k := 21) (f := va_cpy (M.2 21) (M.2 21) (nI (ta + 1)).toNatClampNeg (nI ta).toNatClampNeg (nI (te - ta - 1)).toNatClampNeg) rfl
  have hP : va_P D vwCl (wM cA am r (mU M 21 (va_cpy (M.2 21) (M.2 21) (nI (ta + 1)).toNatClampNeg (nI ta).toNatClampNeg (nI (te - ta - 1)).toNatClampNeg))) H := by rw [show wM cA am r (mU M 21 (va_cpy (M.2 21) (M.2 21) (nI (ta + 1)).toNatClampNeg (nI ta).toNatClampNeg (nI (te - ta - 1)).toNatClampNeg)) = _ from eW.symm]; exact hP
  have hD : va_D A (wM cA am r (mU M 21 (va_cpy (M.2 21) (M.2 21) (nI (ta + 1)).toNatClampNeg (nI ta).toNatClampNeg (nI (te - ta - 1)).toNatClampNeg))) := by rw [show wM cA am r (mU M 21 (va_cpy (M.2 21) (M.2 21) (nI (ta + 1)).toNatClampNeg (nI ta).toNatClampNeg (nI (te - ta - 1)).toNatClampNeg)) = _ from eW.symm]; exact hD
  exact W.vret hx hb hr (fun t ht hW => ⟨⟨mU M 21 (va_cpy (M.2 21) (M.2 21) (nI (ta + 1)).toNatClampNeg (nI ta).toNatClampNeg (nI (te - ta - 1)).toNatClampNeg), rfl, ⟨_, rfl⟩, by rw [ht]; exact hP, va_K.moved hW.alike hK, hD⟩, hS.F ht⟩) hS.2.2 dX6_moveUp_14

set_option maxRecDepth 100000 in
set_option maxHeartbeats 4000000 in
theorem t_unrule (l : Launch) (D : va_G) (cA : Nat → ClassId) (sz : Nat) (am : Nat) (r : Nat → Nat) (M : MSt) (n na : Nat) (hI : INVR n na M) (p0 p1 : Int32) : Met l yX6_unrule (Cond.code yX6_unrule cX6_unrule 5 (some .int) :: TT) ({ frames := 2, cells := 0, slots := 0, locals := 82 }) (va_Pc [.ref am, .int p0, .int p1] (kPre D cA (wM cA am r M) sz)) (va_Qi (fun (r_ : Int32) (x_ : MSt) => ∃ n2, INVR n n2 x_ ∧ x_.1 1 = M.1 1 ∧ x_.1 2 = M.1 2) (fun x_ => kB D cA (va_A (wM cA am r M) sz) (wM cA am r x_)) (va_A (wM cA am r M) sz)) 0 0 (va_A (wM cA am r M) sz) := by
  refine Met.ofW (cc := cX6_unrule) (maxL := 5) (ret := (some .int)) (by decide) rfl ?_
  intro p e s m args below meth c s₁ B hml hv
  obtain ⟨rfl, hsz, hP, hK, hD0, hTB⟩ := hv
  have hx := B.exec
  have hb := B.bytes
  have hr := B.returns
  have hts := atoms_spec (ws := Cond.code yX6_unrule cX6_unrule 5 (some .int) :: TT) B.pre
  have htT : ∀ w ∈ TT, w.before _ s = true := fun w h => hts w (List.mem_cons_of_mem _ h)
  have hown : s.vm.findClass RX6 = some m.cls := findClass_of_methodNamed B.named
  have hlocks := B.notSynchronized
  subst hsz
  have hD := hD0.self (sz := s.heap.size)
  generalize hAe : va_A (wM cA am r M) s.heap.size = A at hD ⊢
  have hA : ∀ q : Nat, s.heap.size ≤ q → A q := fun q h => by rw [← hAe]; exact Or.inr h
  have hS : va_S A s.heap s.heap [] := va_S.rf
  have hl := lv_entry ([.ref am, .int p0, .int p1]) (n := 5) (Nat.le_of_ble_eq_true rfl)
  rw [lg_entry_eq]
  generalize (lg_sl ([.ref am, .int p0, .int p1]) ++ List.replicate (5 - (lg_sl ([.ref am, .int p0, .int p1])).length) Slot.unset).toArray = ls at hl ⊢
  have hl : lv_has ls 5 [(0, .ref am), (1, .int p0), (2, .int p1)] := hl
  have hn8 := hI.n8
  have hna9 := hI.na
  obtain ⟨ru, hok⟩ := id hI.1
  refine lv_aload_n hx hb dX6_unrule_0 rfl (lv_at hl 0 rfl) ?_
  refine lv_iconst (v := 0) hx hb dX6_unrule_1 (by decide) ?_
  refine km_puti hx hb htT hown hK hP hD hS 0 (by decide) rfl (htT _ m_fl_X6_80) rfl (by decide +kernel) dX6_unrule_2 (fun H locs hP hD hS => ?_)
  refine lv_aload_n hx hb dX6_unrule_5 rfl (lv_at hl 0 rfl) ?_
  refine lv_iload_n hx hb dX6_unrule_6 rfl (lv_at hl 1 rfl) ?_
  have h3_1 : M.1 3 = nI n := hI.h3
  refine kc_i (va_runV (As := [.int p0]) (rest := []) ⟨hx, hb, hml, hown, htT⟩ (m_isSwitch l D cA _ am r (mS M 0 0) p0) (cwV 1 htT (kg_V m_ml_X6_91 m_im_X6_isSwitch m_sl_X6_isSwitch m_in_X6 m_cd_X6_isSwitch) rfl rfl rfl (by decide +kernel) ⟨Nat.le_of_ble_eq_true rfl, Nat.le_of_ble_eq_true rfl⟩) (kp_V hK hP hD hTB (km_rc hK hP)) rfl rfl hl.1 rfl (lv_room (Nat.le_of_ble_eq_true rfl)) dX6_unrule_7 ⟨Nat.le_of_ble_eq_true rfl, Nat.le_of_ble_eq_true rfl⟩) hD hS hA (fun r_1 x_1 H locs hq_1 hP hD hS => ?_)
  rw [hq_1.2] at hP hD
  rcases kIn_swx (p := p0) hI.n8 h3_1 with hsw | ⟨i, hi, rfl⟩
  · rw [hq_1.1.trans hsw]
    refine lv_if_eq (tgt := 29) hx hb dX6_unrule_10 (by decide) (fun _ => ?_) (fun c_2 => absurd c_2 (by decide))
    refine lv_aload_n hx hb dX6_unrule_29 rfl (lv_at hl 0 rfl) ?_
    refine lv_iconst (v := 1) hx hb dX6_unrule_30 (by decide) ?_
    refine kc_i (va_runV (As := [.int 1]) (rest := []) ⟨hx, hb, hml, hown, htT⟩ (m_no l D cA _ am r (mS M 0 0) 1) (cwV 1 htT (kg_V m_ml_X6_95 m_im_X6_no m_sl_X6_no m_in_X6 m_cd_X6_no) rfl rfl rfl (by decide +kernel) ⟨Nat.le_of_ble_eq_true rfl, Nat.le_of_ble_eq_true rfl⟩) (kp_V hK hP hD hTB (km_rc hK hP)) rfl rfl hl.1 rfl (lv_room (Nat.le_of_ble_eq_true rfl)) dX6_unrule_31 ⟨Nat.le_of_ble_eq_true rfl, Nat.le_of_ble_eq_true rfl⟩) hD hS hA (fun r_3 x_3 H locs hq_3 hP hD hS => ?_)
    rw [hq_3.1]
    rw [hq_3.2] at hP hD
    exact W.iret (v := 0) hx hb hr (fun t ht hW => ⟨⟨0, mS (mS M 0 0) 0 1, rfl, ⟨na, (INVR.iS (INVR.iS hI (by decide) (by decide)) (by decide) (by decide)), rfl, rfl⟩, by rw [ht]; exact hP, va_K.moved hW.alike hK, hD⟩, hS.F ht⟩) hS.2.2 dX6_unrule_34
  · rw [hq_1.1.trans (kIn_sw hi hI.n8 h3_1)]
    refine lv_if_eq (tgt := 29) hx hb dX6_unrule_10 (by decide) (fun c_4 => absurd c_4 (by decide)) (fun _ => ?_)
    have hru_5 := (hok.2.2.2.2 i hi).1
    refine lv_iload_n hx hb dX6_unrule_13 rfl (lv_at hl 2 rfl) ?_
    refine lv_iconst (v := 0) hx hb dX6_unrule_14 (by decide) ?_
    refine lv_aload_n hx hb dX6_unrule_15 rfl (lv_at hl 0 rfl) ?_
    refine km_getr hx hb htT hown hK hP 17 (by decide) rfl (htT _ m_fl_X6_50) dX6_unrule_16 ?_
    refine lv_iload_n hx hb dX6_unrule_19 rfl (lv_at hl 1 rfl) ?_
    refine km_ialdv (x := nI (ru i)) hx hb hK hP 17 rfl rfl (show vp_in (nI (i)) 8 from ki_in (by omega) (by decide)) ((congrArg _ (ki_cl (by omega))).trans (hok.2.2.2.2 i hi).2.1) dX6_unrule_20 ?_
    refine lv_iconst (v := 1) hx hb dX6_unrule_21 (by decide) ?_
    refine lv_isub hx hb dX6_unrule_22 ?_
    refine kc_i (va_runS (As := [.int p1, .int 0, .int ((nI (ru i)) - 1)]) (rest := []) ⟨hx, hb, hml, hown, htT⟩ (m_isIn l D cA _ am r (mS M 0 0) p1 0 (nI (ru i) - 1)) (cwS 3 htT (kg_S m_ml_X6_87 m_st_X6_isIn m_in_X6 m_cd_X6_isIn) rfl rfl rfl (by decide +kernel) ⟨Nat.le_of_ble_eq_true rfl, Nat.le_of_ble_eq_true rfl⟩) (kp_S hK hP hD hTB) rfl rfl hl.1 rfl (lv_room (Nat.le_of_ble_eq_true rfl)) dX6_unrule_23 ⟨Nat.le_of_ble_eq_true rfl, Nat.le_of_ble_eq_true rfl⟩) hD hS hA (fun r_6 x_6 H locs hq_6 hP hD hS => ?_)
    rw [hq_6.2] at hP hD
    rcases kIn_swx (n := ru i) (p := p1) (by omega) rfl with hsw | ⟨q, hq, rfl⟩
    · rw [hq_6.1.trans hsw]
      refine lv_if_ne (tgt := 35) hx hb dX6_unrule_26 (by decide) (fun c_7 => absurd c_7 (by decide)) (fun _ => ?_)
      refine lv_aload_n hx hb dX6_unrule_29 rfl (lv_at hl 0 rfl) ?_
      refine lv_iconst (v := 1) hx hb dX6_unrule_30 (by decide) ?_
      refine kc_i (va_runV (As := [.int 1]) (rest := []) ⟨hx, hb, hml, hown, htT⟩ (m_no l D cA _ am r (mS M 0 0) 1) (cwV 1 htT (kg_V m_ml_X6_95 m_im_X6_no m_sl_X6_no m_in_X6 m_cd_X6_no) rfl rfl rfl (by decide +kernel) ⟨Nat.le_of_ble_eq_true rfl, Nat.le_of_ble_eq_true rfl⟩) (kp_V hK hP hD hTB (km_rc hK hP)) rfl rfl hl.1 rfl (lv_room (Nat.le_of_ble_eq_true rfl)) dX6_unrule_31 ⟨Nat.le_of_ble_eq_true rfl, Nat.le_of_ble_eq_true rfl⟩) hD hS hA (fun r_8 x_8 H locs hq_8 hP hD hS => ?_)
      rw [hq_8.1]
      rw [hq_8.2] at hP hD
      exact W.iret (v := 0) hx hb hr (fun t ht hW => ⟨⟨0, mS (mS M 0 0) 0 1, rfl, ⟨na, (INVR.iS (INVR.iS hI (by decide) (by decide)) (by decide) (by decide)), rfl, rfl⟩, by rw [ht]; exact hP, va_K.moved hW.alike hK, hD⟩, hS.F ht⟩) hS.2.2 dX6_unrule_34
    · rw [hq_6.1.trans (kIn_sw hq (by omega) rfl)]
      refine lv_if_ne (tgt := 35) hx hb dX6_unrule_26 (by decide) (fun _ => ?_) (fun c_9 => absurd c_9 (by decide))
      refine lv_iload_n hx hb dX6_unrule_35 rfl (lv_at hl 1 rfl) ?_
      refine lv_iconst (v := 5) hx hb dX6_unrule_36 (by decide) ?_
      refine lv_imul hx hb dX6_unrule_37 ?_
      rw [show ((nI i) * 5 : Int32) = nI (5 * i) from (pk_mul i 5).trans (congrArg nI (by omega))]
      refine lv_iload_n hx hb dX6_unrule_38 rfl (lv_at hl 2 rfl) ?_
      refine lv_iadd hx hb dX6_unrule_39 ?_
      rw [show ((nI (5 * i)) + (nI q) : Int32) = nI (5 * i + q) from (nI_add (5 * i) q).trans (congrArg nI (by omega))]
      refine lv_istore_n (lv' := [(3, .int (nI (5 * i + q))), (0, .ref am), (1, .int (nI i)), (2, .int (nI q))]) hx hb dX6_unrule_40 rfl hl (by decide) rfl (fun ls hl => ?_)
      refine lv_iload_n hx hb dX6_unrule_41 rfl (lv_at hl 2 rfl) ?_
      refine lv_iconst (v := 5) hx hb dX6_unrule_42 (by decide) ?_
      refine lv_imul hx hb dX6_unrule_43 ?_
      rw [show ((nI i) * 5 : Int32) = nI (5 * i) from (pk_mul i 5).trans (congrArg nI (by omega))]
      refine lv_aload_n hx hb dX6_unrule_44 rfl (lv_at hl 1 rfl) ?_
      refine km_getr hx hb htT hown hK hP 17 (by decide) rfl (htT _ m_fl_X6_50) dX6_unrule_45 ?_
      refine lv_iload_n hx hb dX6_unrule_48 rfl (lv_at hl 2 rfl) ?_
      refine km_ialdv (x := nI (ru i)) hx hb hK hP 17 rfl rfl (show vp_in (nI (i)) 8 from ki_in (by omega) (by decide)) ((congrArg _ (ki_cl (by omega))).trans (hok.2.2.2.2 i hi).2.1) dX6_unrule_49 ?_
      refine lv_iadd hx hb dX6_unrule_50 ?_
      rw [show ((nI (5 * i)) + (nI (ru i)) : Int32) = nI (5 * i + ru i) from (nI_add (5 * i) (ru i)).trans (congrArg nI (by omega))]
      refine lv_istore (lv' := [(4, .int (nI (5 * i + ru i))), (3, .int (nI (5 * i + q))), (0, .ref am), (1, .int (nI i)), (2, .int (nI q))]) hx hb dX6_unrule_51 hl (by decide) rfl (fun ls hl => ?_)
      refine lv_aload_n hx hb dX6_unrule_53 rfl (lv_at hl 2 rfl) ?_
      refine km_getr hx hb htT hown hK hP 18 (by decide) rfl (htT _ m_fl_X6_53) dX6_unrule_54 ?_
      refine lv_iload_n hx hb dX6_unrule_57 rfl (lv_at hl 1 rfl) ?_
      refine lv_iload hx hb dX6_unrule_58 (lv_at hl 0 rfl) ?_
      refine kc_v (va_runS (As := [.ref (r 18), .int (nI (5 * i + q)), .int (nI (5 * i + ru i))]) (rest := []) ⟨hx, hb, hml, hown, htT⟩ (m_moveUp_18 l D cA _ am r (mS M 0 0) (5 * i + q) (5 * i + ru i) (by omega) (by omega)) (cwS 3 htT (kg_S m_ml_X6_132 m_st_X6_moveUp m_in_X6 m_cd_X6_moveUp) rfl rfl rfl (by decide +kernel) ⟨Nat.le_of_ble_eq_true rfl, Nat.le_of_ble_eq_true rfl⟩) (kp_S hK hP hD hTB) rfl rfl hl.1 rfl (lv_room (Nat.le_of_ble_eq_true rfl)) dX6_unrule_60 ⟨Nat.le_of_ble_eq_true rfl, Nat.le_of_ble_eq_true rfl⟩) hD hS hA (fun x_10 H locs hq_10 hP hD hS => ?_)
      obtain ⟨f_10, rfl⟩ := hq_10
      refine lv_aload_n hx hb dX6_unrule_63 rfl (lv_at hl 2 rfl) ?_
      refine km_getr hx hb htT hown hK hP 19 (by decide) rfl (htT _ m_fl_X6_56) dX6_unrule_64 ?_
      refine lv_iload_n hx hb dX6_unrule_67 rfl (lv_at hl 1 rfl) ?_
      refine lv_iload hx hb dX6_unrule_68 (lv_at hl 0 rfl) ?_
      refine kc_v (va_runS (As := [.ref (r 19), .int (nI (5 * i + q)), .int (nI (5 * i + ru i))]) (rest := []) ⟨hx, hb, hml, hown, htT⟩ (m_moveUp_19 l D cA _ am r (mU (mS M 0 0) 18 f_10) (5 * i + q) (5 * i + ru i) (by omega) (by omega)) (cwS 3 htT (kg_S m_ml_X6_132 m_st_X6_moveUp m_in_X6 m_cd_X6_moveUp) rfl rfl rfl (by decide +kernel) ⟨Nat.le_of_ble_eq_true rfl, Nat.le_of_ble_eq_true rfl⟩) (kp_S hK hP hD hTB) rfl rfl hl.1 rfl (lv_room (Nat.le_of_ble_eq_true rfl)) dX6_unrule_70 ⟨Nat.le_of_ble_eq_true rfl, Nat.le_of_ble_eq_true rfl⟩) hD hS hA (fun x_11 H locs hq_11 hP hD hS => ?_)
      obtain ⟨f_11, rfl⟩ := hq_11
      refine lv_aload_n hx hb dX6_unrule_73 rfl (lv_at hl 2 rfl) ?_
      refine km_getr hx hb htT hown hK hP 20 (by decide) rfl (htT _ m_fl_X6_59) dX6_unrule_74 ?_
      refine lv_iload_n hx hb dX6_unrule_77 rfl (lv_at hl 1 rfl) ?_
      refine lv_iload hx hb dX6_unrule_78 (lv_at hl 0 rfl) ?_
      refine kc_v (va_runS (As := [.ref (r 20), .int (nI (5 * i + q)), .int (nI (5 * i + ru i))]) (rest := []) ⟨hx, hb, hml, hown, htT⟩ (m_moveUp_20 l D cA _ am r (mU (mU (mS M 0 0) 18 f_10) 19 f_11) (5 * i + q) (5 * i + ru i) (by omega) (by omega)) (cwS 3 htT (kg_S m_ml_X6_132 m_st_X6_moveUp m_in_X6 m_cd_X6_moveUp) rfl rfl rfl (by decide +kernel) ⟨Nat.le_of_ble_eq_true rfl, Nat.le_of_ble_eq_true rfl⟩) (kp_S hK hP hD hTB) rfl rfl hl.1 rfl (lv_room (Nat.le_of_ble_eq_true rfl)) dX6_unrule_80 ⟨Nat.le_of_ble_eq_true rfl, Nat.le_of_ble_eq_true rfl⟩) hD hS hA (fun x_12 H locs hq_12 hP hD hS => ?_)
      obtain ⟨f_12, rfl⟩ := hq_12
      refine lv_aload_n hx hb dX6_unrule_83 rfl (lv_at hl 2 rfl) ?_
      refine km_getr hx hb htT hown hK hP 21 (by decide) rfl (htT _ m_fl_X6_62) dX6_unrule_84 ?_
      refine lv_iload_n hx hb dX6_unrule_87 rfl (lv_at hl 1 rfl) ?_
      refine lv_iload hx hb dX6_unrule_88 (lv_at hl 0 rfl) ?_
      refine kc_v (va_runS (As := [.ref (r 21), .int (nI (5 * i + q)), .int (nI (5 * i + ru i))]) (rest := []) ⟨hx, hb, hml, hown, htT⟩ (m_moveUp_21 l D cA _ am r (mU (mU (mU (mS M 0 0) 18 f_10) 19 f_11) 20 f_12) (5 * i + q) (5 * i + ru i) (by omega) (by omega)) (cwS 3 htT (kg_S m_ml_X6_132 m_st_X6_moveUp m_in_X6 m_cd_X6_moveUp) rfl rfl rfl (by decide +kernel) ⟨Nat.le_of_ble_eq_true rfl, Nat.le_of_ble_eq_true rfl⟩) (kp_S hK hP hD hTB) rfl rfl hl.1 rfl (lv_room (Nat.le_of_ble_eq_true rfl)) dX6_unrule_90 ⟨Nat.le_of_ble_eq_true rfl, Nat.le_of_ble_eq_true rfl⟩) hD hS hA (fun x_13 H locs hq_13 hP hD hS => ?_)
      obtain ⟨f_13, rfl⟩ := hq_13
      refine lv_aload_n hx hb dX6_unrule_93 rfl (lv_at hl 2 rfl) ?_
      refine km_getr hx hb htT hown hK hP 17 (by decide) rfl (htT _ m_fl_X6_50) dX6_unrule_94 ?_
      refine lv_iload_n hx hb dX6_unrule_97 rfl (lv_at hl 3 rfl) ?_
      refine lv_dup2_11 hx hb dX6_unrule_98 rfl rfl ?_
      refine km_ialdv (x := nI (ru i)) hx hb hK hP 17 rfl rfl (show vp_in (nI (i)) 8 from ki_in (by omega) (by decide)) ((congrArg _ (ki_cl (by omega))).trans (hok.2.2.2.2 i hi).2.1) dX6_unrule_99 ?_
      refine lv_iconst (v := 1) hx hb dX6_unrule_100 (by decide) ?_
      refine lv_isub hx hb dX6_unrule_101 ?_
      rw [show ((nI (ru i)) - 1 : Int32) = nI ((ru i) - 1) from pk_sub (a := ru i) (b := 1) (by omega)]
      refine lv_dup_x2 hx hb dX6_unrule_102 rfl rfl rfl ?_
      refine km_iast hx hb hK hP hD hS 17 rfl rfl (show vp_in (nI (i)) 8 from ki_in (by omega) (by decide)) dX6_unrule_103 (fun H locs hP hD hS => ?_)
      rw [ki_cl (n := i) (by omega)] at hP hD
      exact W.iret (v := nI ((ru i) - 1)) hx hb hr (fun t ht hW => ⟨⟨nI ((ru i) - 1), mR (mU (mU (mU (mU (mS M 0 0) 18 f_10) 19 f_11) 20 f_12) 21 f_13) 17 i (nI ((ru i) - 1)), rfl, ⟨na, (INVR.rules (INVR.iU (INVR.iU (INVR.iU (INVR.iU (INVR.iS hI (by decide) (by decide)) (by decide)) (by decide)) (by decide)) (by decide)) hi (by omega)), rfl, rfl⟩, by rw [ht]; exact hP, va_K.moved hW.alike hK, hD⟩, hS.F ht⟩) hS.2.2 dX6_unrule_104

