set_option maxRecDepth 100000 in
set_option maxHeartbeats 4000000 in
theorem m_reach (l : Launch) (D : va_G) (cA : Nat → ClassId) (sz : Nat) (am : Nat) (r : Nat → Nat) (M : MSt) (n i : Nat) (hi : i < n) (hn8 : n ≤ 8) (h3 : M.1 3 = nI n) (na : Nat) (ru : Nat → Nat) (hok : okG M n na ru) (p1 : Int32) (hv : kIn p1 0 (M.2 5 i - 1) = 1) (mm : Nat) (hm2 : mm ≤ 200) (h1 : kIn (nI mm) 1 200 = 1) : Met l yX6_reach (Cond.code yX6_reach cX6_reach 4 (some .int) :: TT) ({ frames := 20, cells := 0, slots := 0, locals := 1011 }) (va_Pc [.ref am, .int (nI i), .int p1, .int (nI mm)] (kPre D cA (wM cA am r M) sz)) (va_Qi (fun (r_ : Int32) (x_ : MSt) => r_ = rCnt (fun u => if (rBy M na ru i u).1 = p1 then 1 else 0) mm 0 0 ∧ ∃ ρ, x_ = mS (mS M 0 0) 28 ρ) (fun x_ => kB D cA (va_A (wM cA am r M) sz) (wM cA am r x_)) (va_A (wM cA am r M) sz)) 0 0 (va_A (wM cA am r M) sz) := by
  refine Met.ofW (cc := cX6_reach) (maxL := 4) (ret := (some .int)) (by decide) rfl ?_
  intro p e s m args below meth c s₁ B hml hv
  obtain ⟨rfl, hsz, hP, hK, hD0, hTB⟩ := hv
  have hx := B.exec
  have hb := B.bytes
  have hr := B.returns
  have hts := atoms_spec (ws := Cond.code yX6_reach cX6_reach 4 (some .int) :: TT) B.pre
  have htT : ∀ w ∈ TT, w.before _ s = true := fun w h => hts w (List.mem_cons_of_mem _ h)
  have hown : s.vm.findClass RX6 = some m.cls := findClass_of_methodNamed B.named
  have hlocks := B.notSynchronized
  subst hsz
  have hD := hD0.self (sz := s.heap.size)
  generalize hAe : va_A (wM cA am r M) s.heap.size = A at hD ⊢
  have hA : ∀ q : Nat, s.heap.size ≤ q → A q := fun q h => by rw [← hAe]; exact Or.inr h
  have hS : va_S A s.heap s.heap [] := va_S.rf
  have hl := lv_entry ([.ref am, .int (nI i), .int p1, .int (nI mm)]) (n := 4) (Nat.le_of_ble_eq_true rfl)
  rw [lg_entry_eq]
  generalize (lg_sl ([.ref am, .int (nI i), .int p1, .int (nI mm)]) ++ List.replicate (4 - (lg_sl ([.ref am, .int (nI i), .int p1, .int (nI mm)])).length) Slot.unset).toArray = ls at hl ⊢
  have hl : lv_has ls 4 [(0, .ref am), (1, .int (nI i)), (2, .int p1), (3, .int (nI mm))] := hl
  have hsw1 := kIn_sw hi hn8 h3
  refine lv_aload_n hx hb dX6_reach_0 rfl (lv_at hl 0 rfl) ?_
  refine lv_iconst (v := 0) hx hb dX6_reach_1 (by decide) ?_
  refine km_puti hx hb htT hown hK hP hD hS 0 (by decide) rfl (htT _ m_fl_X6_80) rfl (by decide +kernel) dX6_reach_2 (fun H locs hP hD hS => ?_)
  refine lv_aload_n hx hb dX6_reach_5 rfl (lv_at hl 0 rfl) ?_
  refine lv_iload_n hx hb dX6_reach_6 rfl (lv_at hl 1 rfl) ?_
  refine lv_iload_n hx hb dX6_reach_7 rfl (lv_at hl 2 rfl) ?_
  refine kc_i (va_runV (As := [.int (nI i), .int p1]) (rest := []) ⟨hx, hb, hml, hown, htT⟩ (m_isVariant_1 l D cA _ am r (mS M 0 0) n i hi hn8 h3 p1) (cwV 2 htT (kg_V m_ml_X6_102 m_im_X6_isVariant m_sl_X6_isVariant m_in_X6 m_cd_X6_isVariant) rfl rfl rfl (by decide +kernel) ⟨Nat.le_of_ble_eq_true rfl, Nat.le_of_ble_eq_true rfl⟩) (kp_V hK hP hD hTB (km_rc hK hP)) rfl rfl hl.1 rfl (lv_room (Nat.le_of_ble_eq_true rfl)) dX6_reach_8 ⟨Nat.le_of_ble_eq_true rfl, Nat.le_of_ble_eq_true rfl⟩) hD hS hA (fun r_1 x_1 H locs hq_1 hP hD hS => ?_)
  rw [hq_1.1.trans hv]
  rw [hq_1.2] at hP hD
  refine lv_if_ne (tgt := 20) hx hb dX6_reach_11 (by decide) (fun _ => ?_) (fun c_2 => absurd c_2 (by decide))
  refine lv_iload_n hx hb dX6_reach_20 rfl (lv_at hl 3 rfl) ?_
  refine lv_iconst (v := 1) hx hb dX6_reach_21 (by decide) ?_
  refine lv_sipush (v := 200) hx hb dX6_reach_22 (by decide) ?_
  refine kc_i (va_runS (As := [.int (nI mm), .int 1, .int 200]) (rest := []) ⟨hx, hb, hml, hown, htT⟩ (m_isIn l D cA _ am r (mS M 0 0) (nI mm) 1 200) (cwS 3 htT (kg_S m_ml_X6_87 m_st_X6_isIn m_in_X6 m_cd_X6_isIn) rfl rfl rfl (by decide +kernel) ⟨Nat.le_of_ble_eq_true rfl, Nat.le_of_ble_eq_true rfl⟩) (kp_S hK hP hD hTB) rfl rfl hl.1 rfl (lv_room (Nat.le_of_ble_eq_true rfl)) dX6_reach_25 ⟨Nat.le_of_ble_eq_true rfl, Nat.le_of_ble_eq_true rfl⟩) hD hS hA (fun r_3 x_3 H locs hq_3 hP hD hS => ?_)
  rw [hq_3.1.trans h1]
  rw [hq_3.2] at hP hD
  refine lv_if_eq (tgt := 41) hx hb dX6_reach_28 (by decide) (fun c_4 => absurd c_4 (by decide)) (fun _ => ?_)
  refine lv_aload_n hx hb dX6_reach_31 rfl (lv_at hl 0 rfl) ?_
  refine lv_iload_n hx hb dX6_reach_32 rfl (lv_at hl 1 rfl) ?_
  refine lv_iload_n hx hb dX6_reach_33 rfl (lv_at hl 2 rfl) ?_
  refine lv_iload_n hx hb dX6_reach_34 rfl (lv_at hl 3 rfl) ?_
  refine kc_i (va_runV (As := [.int (nI i), .int p1, .int (nI mm)]) (rest := []) ⟨hx, hb, hml, hown, htT⟩ (m_reachNow l D cA _ am r (mS M 0 0) n na ru hok i hi p1 mm hm2) (cwV 3 htT (kg_V m_ml_X6_206 m_im_X6_reachNow m_sl_X6_reachNow m_in_X6 m_cd_X6_reachNow) rfl rfl rfl (by decide +kernel) ⟨Nat.le_of_ble_eq_true rfl, Nat.le_of_ble_eq_true rfl⟩) (kp_V hK hP hD hTB (km_rc hK hP)) rfl rfl hl.1 rfl (lv_room (Nat.le_of_ble_eq_true rfl)) dX6_reach_35 ⟨Nat.le_of_ble_eq_true rfl, Nat.le_of_ble_eq_true rfl⟩) hD hS hA (fun r_5 x_5 H locs hq_5 hP hD hS => ?_)
  rw [hq_5.1]
  obtain ⟨ρ, eρ⟩ := hq_5.2
  rw [eρ] at hP hD
  refine lv_goto (tgt := 46) hx hb dX6_reach_38 (by decide) ?_
  exact W.iret (v := rCnt (fun u => if (rBy M na ru i u).1 = p1 then 1 else 0) mm 0 0) hx hb hr (fun t ht hW => ⟨⟨rCnt (fun u => if (rBy M na ru i u).1 = p1 then 1 else 0) mm 0 0, mS (mS M 0 0) 28 ρ, rfl, ⟨rfl, _, rfl⟩, by rw [ht]; exact hP, va_K.moved hW.alike hK, hD⟩, hS.F ht⟩) hS.2.2 dX6_reach_46

set_option maxRecDepth 100000 in
set_option maxHeartbeats 4000000 in
theorem m_reach_1 (l : Launch) (D : va_G) (cA : Nat → ClassId) (sz : Nat) (am : Nat) (r : Nat → Nat) (M : MSt) (n i : Nat) (hi : i < n) (hn8 : n ≤ 8) (h3 : M.1 3 = nI n) (p1 p2 : Int32) (hv : kIn p1 0 (M.2 5 i - 1) = 1) (h1 : kIn p2 1 200 = 0) : Met l yX6_reach (Cond.code yX6_reach cX6_reach 4 (some .int) :: TT) ({ frames := 3, cells := 0, slots := 0, locals := 65 }) (va_Pc [.ref am, .int (nI i), .int p1, .int p2] (kPre D cA (wM cA am r M) sz)) (va_Qi (fun (r_ : Int32) (x_ : MSt) => r_ = 0 ∧ x_ = mS (mS M 0 0) 0 2) (fun x_ => kB D cA (va_A (wM cA am r M) sz) (wM cA am r x_)) (va_A (wM cA am r M) sz)) 0 0 (va_A (wM cA am r M) sz) := by
  refine Met.ofW (cc := cX6_reach) (maxL := 4) (ret := (some .int)) (by decide) rfl ?_
  intro p e s m args below meth c s₁ B hml hv
  obtain ⟨rfl, hsz, hP, hK, hD0, hTB⟩ := hv
  have hx := B.exec
  have hb := B.bytes
  have hr := B.returns
  have hts := atoms_spec (ws := Cond.code yX6_reach cX6_reach 4 (some .int) :: TT) B.pre
  have htT : ∀ w ∈ TT, w.before _ s = true := fun w h => hts w (List.mem_cons_of_mem _ h)
  have hown : s.vm.findClass RX6 = some m.cls := findClass_of_methodNamed B.named
  have hlocks := B.notSynchronized
  subst hsz
  have hD := hD0.self (sz := s.heap.size)
  generalize hAe : va_A (wM cA am r M) s.heap.size = A at hD ⊢
  have hA : ∀ q : Nat, s.heap.size ≤ q → A q := fun q h => by rw [← hAe]; exact Or.inr h
  have hS : va_S A s.heap s.heap [] := va_S.rf
  have hl := lv_entry ([.ref am, .int (nI i), .int p1, .int p2]) (n := 4) (Nat.le_of_ble_eq_true rfl)
  rw [lg_entry_eq]
  generalize (lg_sl ([.ref am, .int (nI i), .int p1, .int p2]) ++ List.replicate (4 - (lg_sl ([.ref am, .int (nI i), .int p1, .int p2])).length) Slot.unset).toArray = ls at hl ⊢
  have hl : lv_has ls 4 [(0, .ref am), (1, .int (nI i)), (2, .int p1), (3, .int p2)] := hl
  have hsw1 := kIn_sw hi hn8 h3
  refine lv_aload_n hx hb dX6_reach_0 rfl (lv_at hl 0 rfl) ?_
  refine lv_iconst (v := 0) hx hb dX6_reach_1 (by decide) ?_
  refine km_puti hx hb htT hown hK hP hD hS 0 (by decide) rfl (htT _ m_fl_X6_80) rfl (by decide +kernel) dX6_reach_2 (fun H locs hP hD hS => ?_)
  refine lv_aload_n hx hb dX6_reach_5 rfl (lv_at hl 0 rfl) ?_
  refine lv_iload_n hx hb dX6_reach_6 rfl (lv_at hl 1 rfl) ?_
  refine lv_iload_n hx hb dX6_reach_7 rfl (lv_at hl 2 rfl) ?_
  refine kc_i (va_runV (As := [.int (nI i), .int p1]) (rest := []) ⟨hx, hb, hml, hown, htT⟩ (m_isVariant_1 l D cA _ am r (mS M 0 0) n i hi hn8 h3 p1) (cwV 2 htT (kg_V m_ml_X6_102 m_im_X6_isVariant m_sl_X6_isVariant m_in_X6 m_cd_X6_isVariant) rfl rfl rfl (by decide +kernel) ⟨Nat.le_of_ble_eq_true rfl, Nat.le_of_ble_eq_true rfl⟩) (kp_V hK hP hD hTB (km_rc hK hP)) rfl rfl hl.1 rfl (lv_room (Nat.le_of_ble_eq_true rfl)) dX6_reach_8 ⟨Nat.le_of_ble_eq_true rfl, Nat.le_of_ble_eq_true rfl⟩) hD hS hA (fun r_1 x_1 H locs hq_1 hP hD hS => ?_)
  rw [hq_1.1.trans hv]
  rw [hq_1.2] at hP hD
  refine lv_if_ne (tgt := 20) hx hb dX6_reach_11 (by decide) (fun _ => ?_) (fun c_2 => absurd c_2 (by decide))
  refine lv_iload_n hx hb dX6_reach_20 rfl (lv_at hl 3 rfl) ?_
  refine lv_iconst (v := 1) hx hb dX6_reach_21 (by decide) ?_
  refine lv_sipush (v := 200) hx hb dX6_reach_22 (by decide) ?_
  refine kc_i (va_runS (As := [.int p2, .int 1, .int 200]) (rest := []) ⟨hx, hb, hml, hown, htT⟩ (m_isIn l D cA _ am r (mS M 0 0) p2 1 200) (cwS 3 htT (kg_S m_ml_X6_87 m_st_X6_isIn m_in_X6 m_cd_X6_isIn) rfl rfl rfl (by decide +kernel) ⟨Nat.le_of_ble_eq_true rfl, Nat.le_of_ble_eq_true rfl⟩) (kp_S hK hP hD hTB) rfl rfl hl.1 rfl (lv_room (Nat.le_of_ble_eq_true rfl)) dX6_reach_25 ⟨Nat.le_of_ble_eq_true rfl, Nat.le_of_ble_eq_true rfl⟩) hD hS hA (fun r_3 x_3 H locs hq_3 hP hD hS => ?_)
  rw [hq_3.1.trans h1]
  rw [hq_3.2] at hP hD
  refine lv_if_eq (tgt := 41) hx hb dX6_reach_28 (by decide) (fun _ => ?_) (fun c_4 => absurd c_4 (by decide))
  refine lv_aload_n hx hb dX6_reach_41 rfl (lv_at hl 0 rfl) ?_
  refine lv_iconst (v := 2) hx hb dX6_reach_42 (by decide) ?_
  refine kc_i (va_runV (As := [.int 2]) (rest := []) ⟨hx, hb, hml, hown, htT⟩ (m_no l D cA _ am r (mS M 0 0) 2) (cwV 1 htT (kg_V m_ml_X6_95 m_im_X6_no m_sl_X6_no m_in_X6 m_cd_X6_no) rfl rfl rfl (by decide +kernel) ⟨Nat.le_of_ble_eq_true rfl, Nat.le_of_ble_eq_true rfl⟩) (kp_V hK hP hD hTB (km_rc hK hP)) rfl rfl hl.1 rfl (lv_room (Nat.le_of_ble_eq_true rfl)) dX6_reach_43 ⟨Nat.le_of_ble_eq_true rfl, Nat.le_of_ble_eq_true rfl⟩) hD hS hA (fun r_5 x_5 H locs hq_5 hP hD hS => ?_)
  rw [hq_5.1]
  rw [hq_5.2] at hP hD
  exact W.iret (v := 0) hx hb hr (fun t ht hW => ⟨⟨0, mS (mS M 0 0) 0 2, rfl, ⟨rfl, rfl⟩, by rw [ht]; exact hP, va_K.moved hW.alike hK, hD⟩, hS.F ht⟩) hS.2.2 dX6_reach_46

