/-! the reference's methods, where the switch is there -/
theorem kIn_sw {n i : Nat} {v : Int32} (hi : i < n) (hn8 : n ≤ 8) (h3 : v = nI n) : kIn (nI i) 0 (v - 1) = 1 := by
  subst h3
  rw [show nI n - 1 = nI (n - 1) from pk_sub (a := n) (b := 1) (by omega)]
  unfold kIn
  rw [if_neg (fun h => by have := (nI_ltI (a := i) (b := 0) (by omega) (by omega)).mp h; omega), if_neg (fun h => by have := (nI_ltI (a := n - 1) (b := i) (by omega) (by omega)).mp h; omega)]
theorem kIn_1 {v lo hi : Int32} (h : ¬ kIn v lo hi = 0) : kIn v lo hi = 1 := (kIn_01 v lo hi).resolve_left h
/-- is the rest of a question right -/
def qAsk (u f g : Int32) : Int32 := if kIn u 0 9999 = 0 then 0 else if kIn f 0 9 = 0 then 0 else if kIn g 0 9 = 0 then 0 else 1
/-- what is left of a layer -/
def rLeft (T : Rows) (la : Int32) : Nat → Nat → Int32 → Int32
  | 0, _, acc => acc
  | c + 1, k, acc => rLeft T la c (k + 1) (acc - (if T 12 k = la then T 14 k - T 13 k else 0))
set_option maxRecDepth 100000 in
set_option maxHeartbeats 4000000 in
theorem m_isVariant_1 (l : Launch) (D : va_G) (cA : Nat → ClassId) (sz : Nat) (am : Nat) (r : Nat → Nat) (M : MSt) (n i : Nat) (hi : i < n) (hn8 : n ≤ 8) (h3 : M.1 3 = nI n) (p1 : Int32) : Met l yX6_isVariant (Cond.code yX6_isVariant cX6_isVariant 3 (some .boolean) :: TT) ({ frames := 2, cells := 0, slots := 0, locals := 43 }) (va_Pc [.ref am, .int (nI i), .int p1] (kPre D cA (wM cA am r M) sz)) (va_Qi (fun (r_ : Int32) (x_ : MSt) => r_ = kIn p1 0 (M.2 5 i - 1) ∧ x_ = M) (fun x_ => kB D cA (va_A (wM cA am r M) sz) (wM cA am r x_)) (va_A (wM cA am r M) sz)) 0 0 (va_A (wM cA am r M) sz) := by
  refine Met.ofW (cc := cX6_isVariant) (maxL := 3) (ret := (some .boolean)) (by decide) rfl ?_
  intro p e s m args below meth c s₁ B hml hv
  obtain ⟨rfl, hsz, hP, hK, hD0, hTB⟩ := hv
  have hx := B.exec
  have hb := B.bytes
  have hr := B.returns
  have hts := atoms_spec (ws := Cond.code yX6_isVariant cX6_isVariant 3 (some .boolean) :: TT) B.pre
  have htT : ∀ w ∈ TT, w.before _ s = true := fun w h => hts w (List.mem_cons_of_mem _ h)
  have hown : s.vm.findClass RX6 = some m.cls := findClass_of_methodNamed B.named
  have hlocks := B.notSynchronized
  subst hsz
  have hD := hD0.self (sz := s.heap.size)
  generalize hAe : va_A (wM cA am r M) s.heap.size = A at hD ⊢
  have hA : ∀ q : Nat, s.heap.size ≤ q → A q := fun q h => by rw [← hAe]; exact Or.inr h
  have hS : va_S A s.heap s.heap [] := va_S.rf
  have hl := lv_entry ([.ref am, .int (nI i), .int p1]) (n := 3) (Nat.le_of_ble_eq_true rfl)
  rw [lg_entry_eq]
  generalize (lg_sl ([.ref am, .int (nI i), .int p1]) ++ List.replicate (3 - (lg_sl ([.ref am, .int (nI i), .int p1])).length) Slot.unset).toArray = ls at hl ⊢
  have hl : lv_has ls 3 [(0, .ref am), (1, .int (nI i)), (2, .int p1)] := hl
  have hsw1 := kIn_sw hi hn8 h3
  refine lv_aload_n hx hb dX6_isVariant_0 rfl (lv_at hl 0 rfl) ?_
  refine lv_iload_n hx hb dX6_isVariant_1 rfl (lv_at hl 1 rfl) ?_
  refine kc_i (va_runV (As := [.int (nI i)]) (rest := []) ⟨hx, hb, hml, hown, htT⟩ (m_isSwitch l D cA _ am r M (nI i)) (cwV 1 htT (kg_V m_ml_X6_91 m_im_X6_isSwitch m_sl_X6_isSwitch m_in_X6 m_cd_X6_isSwitch) rfl rfl rfl (by decide +kernel) ⟨Nat.le_of_ble_eq_true rfl, Nat.le_of_ble_eq_true rfl⟩) (kp_V hK hP hD hTB (km_rc hK hP)) rfl rfl hl.1 rfl (lv_room (Nat.le_of_ble_eq_true rfl)) dX6_isVariant_2 ⟨Nat.le_of_ble_eq_true rfl, Nat.le_of_ble_eq_true rfl⟩) hD hS hA (fun r_1 x_1 H locs hq_1 hP hD hS => ?_)
  rw [hq_1.1.trans hsw1]
  rw [hq_1.2] at hP hD
  refine lv_if_eq (tgt := 28) hx hb dX6_isVariant_5 (by decide) (fun c_2 => absurd c_2 (by decide)) (fun _ => ?_)
  refine lv_iload_n hx hb dX6_isVariant_8 rfl (lv_at hl 2 rfl) ?_
  refine lv_iconst (v := 0) hx hb dX6_isVariant_9 (by decide) ?_
  refine lv_aload_n hx hb dX6_isVariant_10 rfl (lv_at hl 0 rfl) ?_
  refine km_getr hx hb htT hown hK hP 5 (by decide) rfl (htT _ m_fl_X6_13) dX6_isVariant_11 ?_
  refine lv_iload_n hx hb dX6_isVariant_14 rfl (lv_at hl 1 rfl) ?_
  refine km_ialdv (x := (M.2 5) i) hx hb hK hP 5 rfl rfl (show vp_in (nI (i)) 8 from ki_in (by omega) (by decide)) (congrArg _ (ki_cl (by omega))) dX6_isVariant_15 ?_
  refine lv_iconst (v := 1) hx hb dX6_isVariant_16 (by decide) ?_
  refine lv_isub hx hb dX6_isVariant_17 ?_
  refine kc_i (va_runS (As := [.int p1, .int 0, .int (((M.2 5) i) - 1)]) (rest := []) ⟨hx, hb, hml, hown, htT⟩ (m_isIn l D cA _ am r M p1 0 (((M.2 5) i) - 1)) (cwS 3 htT (kg_S m_ml_X6_87 m_st_X6_isIn m_in_X6 m_cd_X6_isIn) rfl rfl rfl (by decide +kernel) ⟨Nat.le_of_ble_eq_true rfl, Nat.le_of_ble_eq_true rfl⟩) (kp_S hK hP hD hTB) rfl rfl hl.1 rfl (lv_room (Nat.le_of_ble_eq_true rfl)) dX6_isVariant_18 ⟨Nat.le_of_ble_eq_true rfl, Nat.le_of_ble_eq_true rfl⟩) hD hS hA (fun r_3 x_3 H locs hq_3 hP hD hS => ?_)
  rw [hq_3.1]
  rw [hq_3.2] at hP hD
  refine lv_if_eq (tgt := 28) hx hb dX6_isVariant_21 (by decide) (fun c_4 => ?_) (fun c_4 => ?_)
  · refine lv_iconst (v := 0) hx hb dX6_isVariant_28 (by decide) ?_
    exact W.zret (v := 0) hx hb hr (rfl) (fun t ht hW => ⟨⟨0, M, rfl, ⟨by first | exact c_4.symm | exact (kIn_1 c_4).symm, rfl⟩, by rw [ht]; exact hP, va_K.moved hW.alike hK, hD⟩, hS.F ht⟩) hS.2.2 dX6_isVariant_29
  · refine lv_iconst (v := 1) hx hb dX6_isVariant_24 (by decide) ?_
    refine lv_goto (tgt := 29) hx hb dX6_isVariant_25 (by decide) ?_
    exact W.zret (v := 1) hx hb hr (rfl) (fun t ht hW => ⟨⟨1, M, rfl, ⟨by first | exact c_4.symm | exact (kIn_1 c_4).symm, rfl⟩, by rw [ht]; exact hP, va_K.moved hW.alike hK, hD⟩, hS.F ht⟩) hS.2.2 dX6_isVariant_29

set_option maxRecDepth 100000 in
set_option maxHeartbeats 4000000 in
theorem m_isAsked_1 (l : Launch) (D : va_G) (cA : Nat → ClassId) (sz : Nat) (am : Nat) (r : Nat → Nat) (M : MSt) (n i : Nat) (hi : i < n) (hn8 : n ≤ 8) (h3 : M.1 3 = nI n) (p1 p2 p3 : Int32) : Met l yX6_isAsked (Cond.code yX6_isAsked cX6_isAsked 5 (some .boolean) :: TT) ({ frames := 2, cells := 0, slots := 0, locals := 43 }) (va_Pc [.ref am, .int (nI i), .int p1, .int p2, .int p3] (kPre D cA (wM cA am r M) sz)) (va_Qi (fun (r_ : Int32) (x_ : MSt) => r_ = qAsk p1 p2 p3 ∧ x_ = mS M 0 (if qAsk p1 p2 p3 = 0 then 2 else 0)) (fun x_ => kB D cA (va_A (wM cA am r M) sz) (wM cA am r x_)) (va_A (wM cA am r M) sz)) 0 0 (va_A (wM cA am r M) sz) := by
  refine Met.ofW (cc := cX6_isAsked) (maxL := 5) (ret := (some .boolean)) (by decide) rfl ?_
  intro p e s m args below meth c s₁ B hml hv
  obtain ⟨rfl, hsz, hP, hK, hD0, hTB⟩ := hv
  have hx := B.exec
  have hb := B.bytes
  have hr := B.returns
  have hts := atoms_spec (ws := Cond.code yX6_isAsked cX6_isAsked 5 (some .boolean) :: TT) B.pre
  have htT : ∀ w ∈ TT, w.before _ s = true := fun w h => hts w (List.mem_cons_of_mem _ h)
  have hown : s.vm.findClass RX6 = some m.cls := findClass_of_methodNamed B.named
  have hlocks := B.notSynchronized
  subst hsz
  have hD := hD0.self (sz := s.heap.size)
  generalize hAe : va_A (wM cA am r M) s.heap.size = A at hD ⊢
  have hA : ∀ q : Nat, s.heap.size ≤ q → A q := fun q h => by rw [← hAe]; exact Or.inr h
  have hS : va_S A s.heap s.heap [] := va_S.rf
  have hl := lv_entry ([.ref am, .int (nI i), .int p1, .int p2, .int p3]) (n := 5) (Nat.le_of_ble_eq_true rfl)
  rw [lg_entry_eq]
  generalize (lg_sl ([.ref am, .int (nI i), .int p1, .int p2, .int p3]) ++ List.replicate (5 - (lg_sl ([.ref am, .int (nI i), .int p1, .int p2, .int p3])).length) Slot.unset).toArray = ls at hl ⊢
  have hl : lv_has ls 5 [(0, .ref am), (1, .int (nI i)), (2, .int p1), (3, .int p2), (4, .int p3)] := hl
  have hsw1 := kIn_sw hi hn8 h3
  refine lv_aload_n hx hb dX6_isAsked_0 rfl (lv_at hl 0 rfl) ?_
  refine lv_aload_n hx hb dX6_isAsked_1 rfl (lv_at hl 0 rfl) ?_
  refine lv_iload_n hx hb dX6_isAsked_2 rfl (lv_at hl 1 rfl) ?_
  refine kc_i (va_runV (As := [.int (nI i)]) (rest := [.ref am]) ⟨hx, hb, hml, hown, htT⟩ (m_isSwitch l D cA _ am r M (nI i)) (cwV 1 htT (kg_V m_ml_X6_91 m_im_X6_isSwitch m_sl_X6_isSwitch m_in_X6 m_cd_X6_isSwitch) rfl rfl rfl (by decide +kernel) ⟨Nat.le_of_ble_eq_true rfl, Nat.le_of_ble_eq_true rfl⟩) (kp_V hK hP hD hTB (km_rc hK hP)) rfl rfl hl.1 rfl (lv_room (Nat.le_of_ble_eq_true rfl)) dX6_isAsked_3 ⟨Nat.le_of_ble_eq_true rfl, Nat.le_of_ble_eq_true rfl⟩) hD hS hA (fun r_1 x_1 H locs hq_1 hP hD hS => ?_)
  rw [hq_1.1.trans hsw1]
  rw [hq_1.2] at hP hD
  refine lv_if_ne (tgt := 13) hx hb dX6_isAsked_6 (by decide) (fun _ => ?_) (fun c_2 => absurd c_2 (by decide))
  refine lv_iload_n hx hb dX6_isAsked_13 rfl (lv_at hl 2 rfl) ?_
  refine kc_i (va_runS (As := [.int p1]) (rest := [.ref am]) ⟨hx, hb, hml, hown, htT⟩ (m_isUser l D cA _ am r M p1) (cwS 1 htT (kg_S m_ml_X6_145 m_st_X6_isUser m_in_X6 m_cd_X6_isUser) rfl rfl rfl (by decide +kernel) ⟨Nat.le_of_ble_eq_true rfl, Nat.le_of_ble_eq_true rfl⟩) (kp_S hK hP hD hTB) rfl rfl hl.1 rfl (lv_room (Nat.le_of_ble_eq_true rfl)) dX6_isAsked_14 ⟨Nat.le_of_ble_eq_true rfl, Nat.le_of_ble_eq_true rfl⟩) hD hS hA (fun r_3 x_3 H locs hq_3 hP hD hS => ?_)
  rw [hq_3.1]
  rw [hq_3.2] at hP hD
  refine lv_if_eq (tgt := 45) hx hb dX6_isAsked_17 (by decide) (fun c_4 => ?_) (fun c_4 => ?_)
  · refine lv_iconst (v := 2) hx hb dX6_isAsked_45 (by decide) ?_
    refine km_puti hx hb htT hown hK hP hD hS 0 (by decide) rfl (htT _ m_fl_X6_80) rfl (by decide +kernel) dX6_isAsked_46 (fun H locs hP hD hS => ?_)
    refine lv_aload_n hx hb dX6_isAsked_49 rfl (lv_at hl 0 rfl) ?_
    refine km_getiv (x := 2) hx hb htT hown hK hP 0 (by decide) rfl (htT _ m_fl_X6_80) rfl dX6_isAsked_50 ?_
    refine lv_if_ne (tgt := 60) hx hb dX6_isAsked_53 (by decide) (fun _ => ?_) (fun c_5 => absurd c_5 (by decide))
    refine lv_iconst (v := 0) hx hb dX6_isAsked_60 (by decide) ?_
    exact W.zret (v := 0) hx hb hr (rfl) (fun t ht hW => ⟨⟨0, mS M 0 2, rfl, ⟨by simp [qAsk, c_4], by simp [qAsk, c_4]⟩, by rw [ht]; exact hP, va_K.moved hW.alike hK, hD⟩, hS.F ht⟩) hS.2.2 dX6_isAsked_61
  · refine lv_iload_n hx hb dX6_isAsked_20 rfl (lv_at hl 3 rfl) ?_
    refine lv_iconst (v := 0) hx hb dX6_isAsked_21 (by decide) ?_
    refine lv_bipush (v := 9) hx hb dX6_isAsked_22 (by decide) ?_
    refine kc_i (va_runS (As := [.int p2, .int 0, .int 9]) (rest := [.ref am]) ⟨hx, hb, hml, hown, htT⟩ (m_isIn l D cA _ am r M p2 0 9) (cwS 3 htT (kg_S m_ml_X6_87 m_st_X6_isIn m_in_X6 m_cd_X6_isIn) rfl rfl rfl (by decide +kernel) ⟨Nat.le_of_ble_eq_true rfl, Nat.le_of_ble_eq_true rfl⟩) (kp_S hK hP hD hTB) rfl rfl hl.1 rfl (lv_room (Nat.le_of_ble_eq_true rfl)) dX6_isAsked_24 ⟨Nat.le_of_ble_eq_true rfl, Nat.le_of_ble_eq_true rfl⟩) hD hS hA (fun r_6 x_6 H locs hq_6 hP hD hS => ?_)
    rw [hq_6.1]
    rw [hq_6.2] at hP hD
    refine lv_if_eq (tgt := 45) hx hb dX6_isAsked_27 (by decide) (fun c_7 => ?_) (fun c_7 => ?_)
    · refine lv_iconst (v := 2) hx hb dX6_isAsked_45 (by decide) ?_
      refine km_puti hx hb htT hown hK hP hD hS 0 (by decide) rfl (htT _ m_fl_X6_80) rfl (by decide +kernel) dX6_isAsked_46 (fun H locs hP hD hS => ?_)
      refine lv_aload_n hx hb dX6_isAsked_49 rfl (lv_at hl 0 rfl) ?_
      refine km_getiv (x := 2) hx hb htT hown hK hP 0 (by decide) rfl (htT _ m_fl_X6_80) rfl dX6_isAsked_50 ?_
      refine lv_if_ne (tgt := 60) hx hb dX6_isAsked_53 (by decide) (fun _ => ?_) (fun c_8 => absurd c_8 (by decide))
      refine lv_iconst (v := 0) hx hb dX6_isAsked_60 (by decide) ?_
      exact W.zret (v := 0) hx hb hr (rfl) (fun t ht hW => ⟨⟨0, mS M 0 2, rfl, ⟨by simp [qAsk, c_4, c_7], by simp [qAsk, c_4, c_7]⟩, by rw [ht]; exact hP, va_K.moved hW.alike hK, hD⟩, hS.F ht⟩) hS.2.2 dX6_isAsked_61
    · refine lv_iload hx hb dX6_isAsked_30 (lv_at hl 4 rfl) ?_
      refine lv_iconst (v := 0) hx hb dX6_isAsked_32 (by decide) ?_
      refine lv_bipush (v := 9) hx hb dX6_isAsked_33 (by decide) ?_
      refine kc_i (va_runS (As := [.int p3, .int 0, .int 9]) (rest := [.ref am]) ⟨hx, hb, hml, hown, htT⟩ (m_isIn l D cA _ am r M p3 0 9) (cwS 3 htT (kg_S m_ml_X6_87 m_st_X6_isIn m_in_X6 m_cd_X6_isIn) rfl rfl rfl (by decide +kernel) ⟨Nat.le_of_ble_eq_true rfl, Nat.le_of_ble_eq_true rfl⟩) (kp_S hK hP hD hTB) rfl rfl hl.1 rfl (lv_room (Nat.le_of_ble_eq_true rfl)) dX6_isAsked_35 ⟨Nat.le_of_ble_eq_true rfl, Nat.le_of_ble_eq_true rfl⟩) hD hS hA (fun r_9 x_9 H locs hq_9 hP hD hS => ?_)
      rw [hq_9.1]
      rw [hq_9.2] at hP hD
      refine lv_if_eq (tgt := 45) hx hb dX6_isAsked_38 (by decide) (fun c_10 => ?_) (fun c_10 => ?_)
      · refine lv_iconst (v := 2) hx hb dX6_isAsked_45 (by decide) ?_
        refine km_puti hx hb htT hown hK hP hD hS 0 (by decide) rfl (htT _ m_fl_X6_80) rfl (by decide +kernel) dX6_isAsked_46 (fun H locs hP hD hS => ?_)
        refine lv_aload_n hx hb dX6_isAsked_49 rfl (lv_at hl 0 rfl) ?_
        refine km_getiv (x := 2) hx hb htT hown hK hP 0 (by decide) rfl (htT _ m_fl_X6_80) rfl dX6_isAsked_50 ?_
        refine lv_if_ne (tgt := 60) hx hb dX6_isAsked_53 (by decide) (fun _ => ?_) (fun c_11 => absurd c_11 (by decide))
        refine lv_iconst (v := 0) hx hb dX6_isAsked_60 (by decide) ?_
        exact W.zret (v := 0) hx hb hr (rfl) (fun t ht hW => ⟨⟨0, mS M 0 2, rfl, ⟨by simp [qAsk, c_4, c_7, c_10], by simp [qAsk, c_4, c_7, c_10]⟩, by rw [ht]; exact hP, va_K.moved hW.alike hK, hD⟩, hS.F ht⟩) hS.2.2 dX6_isAsked_61
      · refine lv_iconst (v := 0) hx hb dX6_isAsked_41 (by decide) ?_
        refine lv_goto (tgt := 46) hx hb dX6_isAsked_42 (by decide) ?_
        refine km_puti hx hb htT hown hK hP hD hS 0 (by decide) rfl (htT _ m_fl_X6_80) rfl (by decide +kernel) dX6_isAsked_46 (fun H locs hP hD hS => ?_)
        refine lv_aload_n hx hb dX6_isAsked_49 rfl (lv_at hl 0 rfl) ?_
        refine km_getiv (x := 0) hx hb htT hown hK hP 0 (by decide) rfl (htT _ m_fl_X6_80) rfl dX6_isAsked_50 ?_
        refine lv_if_ne (tgt := 60) hx hb dX6_isAsked_53 (by decide) (fun c_12 => absurd c_12 (by decide)) (fun _ => ?_)
        refine lv_iconst (v := 1) hx hb dX6_isAsked_56 (by decide) ?_
        refine lv_goto (tgt := 61) hx hb dX6_isAsked_57 (by decide) ?_
        exact W.zret (v := 1) hx hb hr (rfl) (fun t ht hW => ⟨⟨1, mS M 0 0, rfl, ⟨by simp [qAsk, c_4, c_7, c_10], by simp [qAsk, c_4, c_7, c_10]⟩, by rw [ht]; exact hP, va_K.moved hW.alike hK, hD⟩, hS.F ht⟩) hS.2.2 dX6_isAsked_61

set_option maxRecDepth 100000 in
set_option maxHeartbeats 4000000 in
theorem m_turn (l : Launch) (D : va_G) (cA : Nat → ClassId) (sz : Nat) (am : Nat) (r : Nat → Nat) (M : MSt) (n i : Nat) (hi : i < n) (hn8 : n ≤ 8) (h3 : M.1 3 = nI n) (z11 : M.2 11 i = 0 ∨ M.2 11 i = 1) (its : Int32) (hz : its = 0 ∨ its = 1) : Met l yX6_turn (Cond.code yX6_turn cX6_turn 4 (some .boolean) :: TT) ({ frames := 2, cells := 0, slots := 0, locals := 43 }) (va_Pc [.ref am, .int (nI i), .int its] (kPre D cA (wM cA am r M) sz)) (va_Qi (fun (r_ : Int32) (x_ : MSt) => r_ = M.2 11 i ∧ x_ = mR (mS M 0 0) 11 i its) (fun x_ => kB D cA (va_A (wM cA am r M) sz) (wM cA am r x_)) (va_A (wM cA am r M) sz)) 0 0 (va_A (wM cA am r M) sz) := by
  refine Met.ofW (cc := cX6_turn) (maxL := 4) (ret := (some .boolean)) (by decide) rfl ?_
  intro p e s m args below meth c s₁ B hml hv
  obtain ⟨rfl, hsz, hP, hK, hD0, hTB⟩ := hv
  have hx := B.exec
  have hb := B.bytes
  have hr := B.returns
  have hts := atoms_spec (ws := Cond.code yX6_turn cX6_turn 4 (some .boolean) :: TT) B.pre
  have htT : ∀ w ∈ TT, w.before _ s = true := fun w h => hts w (List.mem_cons_of_mem _ h)
  have hown : s.vm.findClass RX6 = some m.cls := findClass_of_methodNamed B.named
  have hlocks := B.notSynchronized
  subst hsz
  have hD := hD0.self (sz := s.heap.size)
  generalize hAe : va_A (wM cA am r M) s.heap.size = A at hD ⊢
  have hA : ∀ q : Nat, s.heap.size ≤ q → A q := fun q h => by rw [← hAe]; exact Or.inr h
  have hS : va_S A s.heap s.heap [] := va_S.rf
  have hl := lv_entry ([.ref am, .int (nI i), .int its]) (n := 4) (Nat.le_of_ble_eq_true rfl)
  rw [lg_entry_eq]
  generalize (lg_sl ([.ref am, .int (nI i), .int its]) ++ List.replicate (4 - (lg_sl ([.ref am, .int (nI i), .int its])).length) Slot.unset).toArray = ls at hl ⊢
  have hl : lv_has ls 4 [(0, .ref am), (1, .int (nI i)), (2, .int its)] := hl
  have hsw1 := kIn_sw hi hn8 h3
  refine lv_aload_n hx hb dX6_turn_0 rfl (lv_at hl 0 rfl) ?_
  refine lv_iconst (v := 0) hx hb dX6_turn_1 (by decide) ?_
  refine km_puti hx hb htT hown hK hP hD hS 0 (by decide) rfl (htT _ m_fl_X6_80) rfl (by decide +kernel) dX6_turn_2 (fun H locs hP hD hS => ?_)
  refine lv_aload_n hx hb dX6_turn_5 rfl (lv_at hl 0 rfl) ?_
  refine lv_iload_n hx hb dX6_turn_6 rfl (lv_at hl 1 rfl) ?_
  refine kc_i (va_runV (As := [.int (nI i)]) (rest := []) ⟨hx, hb, hml, hown, htT⟩ (m_isSwitch l D cA _ am r (mS M 0 0) (nI i)) (cwV 1 htT (kg_V m_ml_X6_91 m_im_X6_isSwitch m_sl_X6_isSwitch m_in_X6 m_cd_X6_isSwitch) rfl rfl rfl (by decide +kernel) ⟨Nat.le_of_ble_eq_true rfl, Nat.le_of_ble_eq_true rfl⟩) (kp_V hK hP hD hTB (km_rc hK hP)) rfl rfl hl.1 rfl (lv_room (Nat.le_of_ble_eq_true rfl)) dX6_turn_7 ⟨Nat.le_of_ble_eq_true rfl, Nat.le_of_ble_eq_true rfl⟩) hD hS hA (fun r_1 x_1 H locs hq_1 hP hD hS => ?_)
  rw [hq_1.1.trans hsw1]
  rw [hq_1.2] at hP hD
  refine lv_if_ne (tgt := 19) hx hb dX6_turn_10 (by decide) (fun _ => ?_) (fun c_2 => absurd c_2 (by decide))
  refine lv_aload_n hx hb dX6_turn_19 rfl (lv_at hl 0 rfl) ?_
  refine km_getr hx hb htT hown hK hP 11 (by decide) rfl (htT _ m_fl_X6_32) dX6_turn_20 ?_
  refine lv_iload_n hx hb dX6_turn_23 rfl (lv_at hl 1 rfl) ?_
  refine km_zaldv (x := (M.2 11) i) hx hb hK hP 11 rfl rfl (show vp_in (nI (i)) 8 from ki_in (by omega) (by decide)) (congrArg _ (ki_cl (by omega))) dX6_turn_24 ?_
  refine lv_istore_n (lv' := [(3, .int ((M.2 11) i)), (0, .ref am), (1, .int (nI i)), (2, .int its)]) hx hb dX6_turn_25 rfl hl (by decide) rfl (fun ls hl => ?_)
  refine lv_aload_n hx hb dX6_turn_26 rfl (lv_at hl 1 rfl) ?_
  refine km_getr hx hb htT hown hK hP 11 (by decide) rfl (htT _ m_fl_X6_32) dX6_turn_27 ?_
  refine lv_iload_n hx hb dX6_turn_30 rfl (lv_at hl 2 rfl) ?_
  refine lv_iload_n hx hb dX6_turn_31 rfl (lv_at hl 3 rfl) ?_
  refine km_zast hx hb hK hP hD hS 11 rfl rfl hz (show vp_in (nI (i)) 8 from ki_in (by omega) (by decide)) dX6_turn_32 (fun H locs hP hD hS => ?_)
  rw [ki_cl (n := i) (by omega)] at hP hD
  refine lv_iload_n hx hb dX6_turn_33 rfl (lv_at hl 0 rfl) ?_
  exact W.zret (v := (M.2 11) i) hx hb hr ((by rcases z11 with h | h <;> rw [h] <;> rfl)) (fun t ht hW => ⟨⟨(M.2 11) i, mR (mS M 0 0) 11 i its, rfl, ⟨rfl, rfl⟩, by rw [ht]; exact hP, va_K.moved hW.alike hK, hD⟩, hS.F ht⟩) hS.2.2 dX6_turn_34

set_option maxRecDepth 100000 in
set_option maxHeartbeats 4000000 in
theorem m_ramp (l : Launch) (D : va_G) (cA : Nat → ClassId) (sz : Nat) (am : Nat) (r : Nat → Nat) (M : MSt) (n i : Nat) (hi : i < n) (hn8 : n ≤ 8) (h3 : M.1 3 = nI n) (p1 p2 : Int32) (h1 : kIn p1 0 1000 = 1) (h2 : kIn p2 0 1000 = 1) : Met l yX6_ramp (Cond.code yX6_ramp cX6_ramp 5 (some .int) :: TT) ({ frames := 2, cells := 0, slots := 0, locals := 43 }) (va_Pc [.ref am, .int (nI i), .int p1, .int p2] (kPre D cA (wM cA am r M) sz)) (va_Qi (fun (r_ : Int32) (x_ : MSt) => r_ = rFar M.2 i (M.1 1) ∧ x_ = mR (mR (mR (mS M 0 0) 7 i p1) 8 i p2) 9 i (M.1 1)) (fun x_ => kB D cA (va_A (wM cA am r M) sz) (wM cA am r x_)) (va_A (wM cA am r M) sz)) 0 0 (va_A (wM cA am r M) sz) := by
  refine Met.ofW (cc := cX6_ramp) (maxL := 5) (ret := (some .int)) (by decide) rfl ?_
  intro p e s m args below meth c s₁ B hml hv
  obtain ⟨rfl, hsz, hP, hK, hD0, hTB⟩ := hv
  have hx := B.exec
  have hb := B.bytes
  have hr := B.returns
  have hts := atoms_spec (ws := Cond.code yX6_ramp cX6_ramp 5 (some .int) :: TT) B.pre
  have htT : ∀ w ∈ TT, w.before _ s = true := fun w h => hts w (List.mem_cons_of_mem _ h)
  have hown : s.vm.findClass RX6 = some m.cls := findClass_of_methodNamed B.named
  have hlocks := B.notSynchronized
  subst hsz
  have hD := hD0.self (sz := s.heap.size)
  generalize hAe : va_A (wM cA am r M) s.heap.size = A at hD ⊢
  have hA : ∀ q : Nat, s.heap.size ≤ q → A q := fun q h => by rw [← hAe]; exact Or.inr h
  have hS : va_S A s.heap s.heap [] := va_S.rf
  have hl := lv_entry ([.ref am, .int (nI i), .int p1, .int p2]) (n := 5) (Nat.le_of_ble_eq_true rfl)
  rw [lg_entry_eq]
  generalize (lg_sl ([.ref am, .int (nI i), .int p1, .int p2]) ++ List.replicate (5 - (lg_sl ([.ref am, .int (nI i), .int p1, .int p2])).length) Slot.unset).toArray = ls at hl ⊢
  have hl : lv_has ls 5 [(0, .ref am), (1, .int (nI i)), (2, .int p1), (3, .int p2)] := hl
  have hsw1 := kIn_sw hi hn8 h3
  refine lv_aload_n hx hb dX6_ramp_0 rfl (lv_at hl 0 rfl) ?_
  refine lv_iconst (v := 0) hx hb dX6_ramp_1 (by decide) ?_
  refine km_puti hx hb htT hown hK hP hD hS 0 (by decide) rfl (htT _ m_fl_X6_80) rfl (by decide +kernel) dX6_ramp_2 (fun H locs hP hD hS => ?_)
  refine lv_aload_n hx hb dX6_ramp_5 rfl (lv_at hl 0 rfl) ?_
  refine lv_iload_n hx hb dX6_ramp_6 rfl (lv_at hl 1 rfl) ?_
  refine kc_i (va_runV (As := [.int (nI i)]) (rest := []) ⟨hx, hb, hml, hown, htT⟩ (m_isSwitch l D cA _ am r (mS M 0 0) (nI i)) (cwV 1 htT (kg_V m_ml_X6_91 m_im_X6_isSwitch m_sl_X6_isSwitch m_in_X6 m_cd_X6_isSwitch) rfl rfl rfl (by decide +kernel) ⟨Nat.le_of_ble_eq_true rfl, Nat.le_of_ble_eq_true rfl⟩) (kp_V hK hP hD hTB (km_rc hK hP)) rfl rfl hl.1 rfl (lv_room (Nat.le_of_ble_eq_true rfl)) dX6_ramp_7 ⟨Nat.le_of_ble_eq_true rfl, Nat.le_of_ble_eq_true rfl⟩) hD hS hA (fun r_1 x_1 H locs hq_1 hP hD hS => ?_)
  rw [hq_1.1.trans hsw1]
  rw [hq_1.2] at hP hD
  refine lv_if_ne (tgt := 19) hx hb dX6_ramp_10 (by decide) (fun _ => ?_) (fun c_2 => absurd c_2 (by decide))
  refine lv_iload_n hx hb dX6_ramp_19 rfl (lv_at hl 2 rfl) ?_
  refine lv_iconst (v := 0) hx hb dX6_ramp_20 (by decide) ?_
  refine lv_sipush (v := 1000) hx hb dX6_ramp_21 (by decide) ?_
  refine kc_i (va_runS (As := [.int p1, .int 0, .int 1000]) (rest := []) ⟨hx, hb, hml, hown, htT⟩ (m_isIn l D cA _ am r (mS M 0 0) p1 0 1000) (cwS 3 htT (kg_S m_ml_X6_87 m_st_X6_isIn m_in_X6 m_cd_X6_isIn) rfl rfl rfl (by decide +kernel) ⟨Nat.le_of_ble_eq_true rfl, Nat.le_of_ble_eq_true rfl⟩) (kp_S hK hP hD hTB) rfl rfl hl.1 rfl (lv_room (Nat.le_of_ble_eq_true rfl)) dX6_ramp_24 ⟨Nat.le_of_ble_eq_true rfl, Nat.le_of_ble_eq_true rfl⟩) hD hS hA (fun r_3 x_3 H locs hq_3 hP hD hS => ?_)
  rw [hq_3.1.trans h1]
  rw [hq_3.2] at hP hD
  refine lv_if_eq (tgt := 41) hx hb dX6_ramp_27 (by decide) (fun c_4 => absurd c_4 (by decide)) (fun _ => ?_)
  refine lv_iload_n hx hb dX6_ramp_30 rfl (lv_at hl 3 rfl) ?_
  refine lv_iconst (v := 0) hx hb dX6_ramp_31 (by decide) ?_
  refine lv_sipush (v := 1000) hx hb dX6_ramp_32 (by decide) ?_
  refine kc_i (va_runS (As := [.int p2, .int 0, .int 1000]) (rest := []) ⟨hx, hb, hml, hown, htT⟩ (m_isIn l D cA _ am r (mS M 0 0) p2 0 1000) (cwS 3 htT (kg_S m_ml_X6_87 m_st_X6_isIn m_in_X6 m_cd_X6_isIn) rfl rfl rfl (by decide +kernel) ⟨Nat.le_of_ble_eq_true rfl, Nat.le_of_ble_eq_true rfl⟩) (kp_S hK hP hD hTB) rfl rfl hl.1 rfl (lv_room (Nat.le_of_ble_eq_true rfl)) dX6_ramp_35 ⟨Nat.le_of_ble_eq_true rfl, Nat.le_of_ble_eq_true rfl⟩) hD hS hA (fun r_5 x_5 H locs hq_5 hP hD hS => ?_)
  rw [hq_5.1.trans h2]
  rw [hq_5.2] at hP hD
  refine lv_if_ne (tgt := 47) hx hb dX6_ramp_38 (by decide) (fun _ => ?_) (fun c_6 => absurd c_6 (by decide))
  refine lv_aload_n hx hb dX6_ramp_47 rfl (lv_at hl 0 rfl) ?_
  refine lv_iload_n hx hb dX6_ramp_48 rfl (lv_at hl 1 rfl) ?_
  refine lv_iconst (v := 0) hx hb dX6_ramp_49 (by decide) ?_
  refine kc_i (va_runV (As := [.int (nI i), .int 0]) (rest := []) ⟨hx, hb, hml, hown, htT⟩ (m_farIn l D cA _ am r (mS M 0 0) i (by omega) 0) (cwV 2 htT (kg_V m_ml_X6_117 m_im_X6_farIn m_sl_X6_farIn m_in_X6 m_cd_X6_farIn) rfl rfl rfl (by decide +kernel) ⟨Nat.le_of_ble_eq_true rfl, Nat.le_of_ble_eq_true rfl⟩) (kp_V hK hP hD hTB (km_rc hK hP)) rfl rfl hl.1 rfl (lv_room (Nat.le_of_ble_eq_true rfl)) dX6_ramp_50 ⟨Nat.le_of_ble_eq_true rfl, Nat.le_of_ble_eq_true rfl⟩) hD hS hA (fun r_7 x_7 H locs hq_7 hP hD hS => ?_)
  rw [hq_7.1.trans (congrArg (rFar M.2 i) (Int32.add_zero _))]
  rw [hq_7.2] at hP hD
  refine lv_istore (lv' := [(4, .int (rFar M.2 i (M.1 1))), (0, .ref am), (1, .int (nI i)), (2, .int p1), (3, .int p2)]) hx hb dX6_ramp_53 hl (by decide) rfl (fun ls hl => ?_)
  refine lv_aload_n hx hb dX6_ramp_55 rfl (lv_at hl 1 rfl) ?_
  refine km_getr hx hb htT hown hK hP 7 (by decide) rfl (htT _ m_fl_X6_19) dX6_ramp_56 ?_
  refine lv_iload_n hx hb dX6_ramp_59 rfl (lv_at hl 2 rfl) ?_
  refine lv_iload_n hx hb dX6_ramp_60 rfl (lv_at hl 3 rfl) ?_
  refine km_iast hx hb hK hP hD hS 7 rfl rfl (show vp_in (nI (i)) 8 from ki_in (by omega) (by decide)) dX6_ramp_61 (fun H locs hP hD hS => ?_)
  rw [ki_cl (n := i) (by omega)] at hP hD
  refine lv_aload_n hx hb dX6_ramp_62 rfl (lv_at hl 1 rfl) ?_
  refine km_getr hx hb htT hown hK hP 8 (by decide) rfl (htT _ m_fl_X6_22) dX6_ramp_63 ?_
  refine lv_iload_n hx hb dX6_ramp_66 rfl (lv_at hl 2 rfl) ?_
  refine lv_iload_n hx hb dX6_ramp_67 rfl (lv_at hl 4 rfl) ?_
  refine km_iast hx hb hK hP hD hS 8 rfl rfl (show vp_in (nI (i)) 8 from ki_in (by omega) (by decide)) dX6_ramp_68 (fun H locs hP hD hS => ?_)
  rw [ki_cl (n := i) (by omega)] at hP hD
  refine lv_aload_n hx hb dX6_ramp_69 rfl (lv_at hl 1 rfl) ?_
  refine km_getr hx hb htT hown hK hP 9 (by decide) rfl (htT _ m_fl_X6_25) dX6_ramp_70 ?_
  refine lv_iload_n hx hb dX6_ramp_73 rfl (lv_at hl 2 rfl) ?_
  refine lv_aload_n hx hb dX6_ramp_74 rfl (lv_at hl 1 rfl) ?_
  refine km_getiv (x := M.1 1) hx hb htT hown hK hP 1 (by decide) rfl (htT _ m_fl_X6_99) rfl dX6_ramp_75 ?_
  refine km_iast hx hb hK hP hD hS 9 rfl rfl (show vp_in (nI (i)) 8 from ki_in (by omega) (by decide)) dX6_ramp_78 (fun H locs hP hD hS => ?_)
  rw [ki_cl (n := i) (by omega)] at hP hD
  refine lv_iload hx hb dX6_ramp_79 (lv_at hl 0 rfl) ?_
  exact W.iret (v := rFar M.2 i (M.1 1)) hx hb hr (fun t ht hW => ⟨⟨rFar M.2 i (M.1 1), mR (mR (mR (mS M 0 0) 7 i p1) 8 i p2) 9 i (M.1 1), rfl, ⟨rfl, rfl⟩, by rw [ht]; exact hP, va_K.moved hW.alike hK, hD⟩, hS.F ht⟩) hS.2.2 dX6_ramp_81

set_option maxRecDepth 100000 in
set_option maxHeartbeats 4000000 in
theorem m_ramp_1 (l : Launch) (D : va_G) (cA : Nat → ClassId) (sz : Nat) (am : Nat) (r : Nat → Nat) (M : MSt) (n i : Nat) (hi : i < n) (hn8 : n ≤ 8) (h3 : M.1 3 = nI n) (p1 p2 : Int32) (h1 : kIn p1 0 1000 = 0) : Met l yX6_ramp (Cond.code yX6_ramp cX6_ramp 5 (some .int) :: TT) ({ frames := 2, cells := 0, slots := 0, locals := 43 }) (va_Pc [.ref am, .int (nI i), .int p1, .int p2] (kPre D cA (wM cA am r M) sz)) (va_Qi (fun (r_ : Int32) (x_ : MSt) => r_ = 0 ∧ x_ = mS (mS M 0 0) 0 2) (fun x_ => kB D cA (va_A (wM cA am r M) sz) (wM cA am r x_)) (va_A (wM cA am r M) sz)) 0 0 (va_A (wM cA am r M) sz) := by
  refine Met.ofW (cc := cX6_ramp) (maxL := 5) (ret := (some .int)) (by decide) rfl ?_
  intro p e s m args below meth c s₁ B hml hv
  obtain ⟨rfl, hsz, hP, hK, hD0, hTB⟩ := hv
  have hx := B.exec
  have hb := B.bytes
  have hr := B.returns
  have hts := atoms_spec (ws := Cond.code yX6_ramp cX6_ramp 5 (some .int) :: TT) B.pre
  have htT : ∀ w ∈ TT, w.before _ s = true := fun w h => hts w (List.mem_cons_of_mem _ h)
  have hown : s.vm.findClass RX6 = some m.cls := findClass_of_methodNamed B.named
  have hlocks := B.notSynchronized
  subst hsz
  have hD := hD0.self (sz := s.heap.size)
  generalize hAe : va_A (wM cA am r M) s.heap.size = A at hD ⊢
  have hA : ∀ q : Nat, s.heap.size ≤ q → A q := fun q h => by rw [← hAe]; exact Or.inr h
  have hS : va_S A s.heap s.heap [] := va_S.rf
  have hl := lv_entry ([.ref am, .int (nI i), .int p1, .int p2]) (n := 5) (Nat.le_of_ble_eq_true rfl)
  rw [lg_entry_eq]
  generalize (lg_sl ([.ref am, .int (nI i), .int p1, .int p2]) ++ List.replicate (5 - (lg_sl ([.ref am, .int (nI i), .int p1, .int p2])).length) Slot.unset).toArray = ls at hl ⊢
  have hl : lv_has ls 5 [(0, .ref am), (1, .int (nI i)), (2, .int p1), (3, .int p2)] := hl
  have hsw1 := kIn_sw hi hn8 h3
  refine lv_aload_n hx hb dX6_ramp_0 rfl (lv_at hl 0 rfl) ?_
  refine lv_iconst (v := 0) hx hb dX6_ramp_1 (by decide) ?_
  refine km_puti hx hb htT hown hK hP hD hS 0 (by decide) rfl (htT _ m_fl_X6_80) rfl (by decide +kernel) dX6_ramp_2 (fun H locs hP hD hS => ?_)
  refine lv_aload_n hx hb dX6_ramp_5 rfl (lv_at hl 0 rfl) ?_
  refine lv_iload_n hx hb dX6_ramp_6 rfl (lv_at hl 1 rfl) ?_
  refine kc_i (va_runV (As := [.int (nI i)]) (rest := []) ⟨hx, hb, hml, hown, htT⟩ (m_isSwitch l D cA _ am r (mS M 0 0) (nI i)) (cwV 1 htT (kg_V m_ml_X6_91 m_im_X6_isSwitch m_sl_X6_isSwitch m_in_X6 m_cd_X6_isSwitch) rfl rfl rfl (by decide +kernel) ⟨Nat.le_of_ble_eq_true rfl, Nat.le_of_ble_eq_true rfl⟩) (kp_V hK hP hD hTB (km_rc hK hP)) rfl rfl hl.1 rfl (lv_room (Nat.le_of_ble_eq_true rfl)) dX6_ramp_7 ⟨Nat.le_of_ble_eq_true rfl, Nat.le_of_ble_eq_true rfl⟩) hD hS hA (fun r_1 x_1 H locs hq_1 hP hD hS => ?_)
  rw [hq_1.1.trans hsw1]
  rw [hq_1.2] at hP hD
  refine lv_if_ne (tgt := 19) hx hb dX6_ramp_10 (by decide) (fun _ => ?_) (fun c_2 => absurd c_2 (by decide))
  refine lv_iload_n hx hb dX6_ramp_19 rfl (lv_at hl 2 rfl) ?_
  refine lv_iconst (v := 0) hx hb dX6_ramp_20 (by decide) ?_
  refine lv_sipush (v := 1000) hx hb dX6_ramp_21 (by decide) ?_
  refine kc_i (va_runS (As := [.int p1, .int 0, .int 1000]) (rest := []) ⟨hx, hb, hml, hown, htT⟩ (m_isIn l D cA _ am r (mS M 0 0) p1 0 1000) (cwS 3 htT (kg_S m_ml_X6_87 m_st_X6_isIn m_in_X6 m_cd_X6_isIn) rfl rfl rfl (by decide +kernel) ⟨Nat.le_of_ble_eq_true rfl, Nat.le_of_ble_eq_true rfl⟩) (kp_S hK hP hD hTB) rfl rfl hl.1 rfl (lv_room (Nat.le_of_ble_eq_true rfl)) dX6_ramp_24 ⟨Nat.le_of_ble_eq_true rfl, Nat.le_of_ble_eq_true rfl⟩) hD hS hA (fun r_3 x_3 H locs hq_3 hP hD hS => ?_)
  rw [hq_3.1.trans h1]
  rw [hq_3.2] at hP hD
  refine lv_if_eq (tgt := 41) hx hb dX6_ramp_27 (by decide) (fun _ => ?_) (fun c_4 => absurd c_4 (by decide))
  refine lv_aload_n hx hb dX6_ramp_41 rfl (lv_at hl 0 rfl) ?_
  refine lv_iconst (v := 2) hx hb dX6_ramp_42 (by decide) ?_
  refine kc_i (va_runV (As := [.int 2]) (rest := []) ⟨hx, hb, hml, hown, htT⟩ (m_no l D cA _ am r (mS M 0 0) 2) (cwV 1 htT (kg_V m_ml_X6_95 m_im_X6_no m_sl_X6_no m_in_X6 m_cd_X6_no) rfl rfl rfl (by decide +kernel) ⟨Nat.le_of_ble_eq_true rfl, Nat.le_of_ble_eq_true rfl⟩) (kp_V hK hP hD hTB (km_rc hK hP)) rfl rfl hl.1 rfl (lv_room (Nat.le_of_ble_eq_true rfl)) dX6_ramp_43 ⟨Nat.le_of_ble_eq_true rfl, Nat.le_of_ble_eq_true rfl⟩) hD hS hA (fun r_5 x_5 H locs hq_5 hP hD hS => ?_)
  rw [hq_5.1]
  rw [hq_5.2] at hP hD
  exact W.iret (v := 0) hx hb hr (fun t ht hW => ⟨⟨0, mS (mS M 0 0) 0 2, rfl, ⟨rfl, rfl⟩, by rw [ht]; exact hP, va_K.moved hW.alike hK, hD⟩, hS.F ht⟩) hS.2.2 dX6_ramp_46

set_option maxRecDepth 100000 in
set_option maxHeartbeats 4000000 in
theorem m_ramp_2 (l : Launch) (D : va_G) (cA : Nat → ClassId) (sz : Nat) (am : Nat) (r : Nat → Nat) (M : MSt) (n i : Nat) (hi : i < n) (hn8 : n ≤ 8) (h3 : M.1 3 = nI n) (p1 p2 : Int32) (h1 : kIn p1 0 1000 = 1) (h2 : kIn p2 0 1000 = 0) : Met l yX6_ramp (Cond.code yX6_ramp cX6_ramp 5 (some .int) :: TT) ({ frames := 2, cells := 0, slots := 0, locals := 43 }) (va_Pc [.ref am, .int (nI i), .int p1, .int p2] (kPre D cA (wM cA am r M) sz)) (va_Qi (fun (r_ : Int32) (x_ : MSt) => r_ = 0 ∧ x_ = mS (mS M 0 0) 0 2) (fun x_ => kB D cA (va_A (wM cA am r M) sz) (wM cA am r x_)) (va_A (wM cA am r M) sz)) 0 0 (va_A (wM cA am r M) sz) := by
  refine Met.ofW (cc := cX6_ramp) (maxL := 5) (ret := (some .int)) (by decide) rfl ?_
  intro p e s m args below meth c s₁ B hml hv
  obtain ⟨rfl, hsz, hP, hK, hD0, hTB⟩ := hv
  have hx := B.exec
  have hb := B.bytes
  have hr := B.returns
  have hts := atoms_spec (ws := Cond.code yX6_ramp cX6_ramp 5 (some .int) :: TT) B.pre
  have htT : ∀ w ∈ TT, w.before _ s = true := fun w h => hts w (List.mem_cons_of_mem _ h)
  have hown : s.vm.findClass RX6 = some m.cls := findClass_of_methodNamed B.named
  have hlocks := B.notSynchronized
  subst hsz
  have hD := hD0.self (sz := s.heap.size)
  generalize hAe : va_A (wM cA am r M) s.heap.size = A at hD ⊢
  have hA : ∀ q : Nat, s.heap.size ≤ q → A q := fun q h => by rw [← hAe]; exact Or.inr h
  have hS : va_S A s.heap s.heap [] := va_S.rf
  have hl := lv_entry ([.ref am, .int (nI i), .int p1, .int p2]) (n := 5) (Nat.le_of_ble_eq_true rfl)
  rw [lg_entry_eq]
  generalize (lg_sl ([.ref am, .int (nI i), .int p1, .int p2]) ++ List.replicate (5 - (lg_sl ([.ref am, .int (nI i), .int p1, .int p2])).length) Slot.unset).toArray = ls at hl ⊢
  have hl : lv_has ls 5 [(0, .ref am), (1, .int (nI i)), (2, .int p1), (3, .int p2)] := hl
  have hsw1 := kIn_sw hi hn8 h3
  refine lv_aload_n hx hb dX6_ramp_0 rfl (lv_at hl 0 rfl) ?_
  refine lv_iconst (v := 0) hx hb dX6_ramp_1 (by decide) ?_
  refine km_puti hx hb htT hown hK hP hD hS 0 (by decide) rfl (htT _ m_fl_X6_80) rfl (by decide +kernel) dX6_ramp_2 (fun H locs hP hD hS => ?_)
  refine lv_aload_n hx hb dX6_ramp_5 rfl (lv_at hl 0 rfl) ?_
  refine lv_iload_n hx hb dX6_ramp_6 rfl (lv_at hl 1 rfl) ?_
  refine kc_i (va_runV (As := [.int (nI i)]) (rest := []) ⟨hx, hb, hml, hown, htT⟩ (m_isSwitch l D cA _ am r (mS M 0 0) (nI i)) (cwV 1 htT (kg_V m_ml_X6_91 m_im_X6_isSwitch m_sl_X6_isSwitch m_in_X6 m_cd_X6_isSwitch) rfl rfl rfl (by decide +kernel) ⟨Nat.le_of_ble_eq_true rfl, Nat.le_of_ble_eq_true rfl⟩) (kp_V hK hP hD hTB (km_rc hK hP)) rfl rfl hl.1 rfl (lv_room (Nat.le_of_ble_eq_true rfl)) dX6_ramp_7 ⟨Nat.le_of_ble_eq_true rfl, Nat.le_of_ble_eq_true rfl⟩) hD hS hA (fun r_1 x_1 H locs hq_1 hP hD hS => ?_)
  rw [hq_1.1.trans hsw1]
  rw [hq_1.2] at hP hD
  refine lv_if_ne (tgt := 19) hx hb dX6_ramp_10 (by decide) (fun _ => ?_) (fun c_2 => absurd c_2 (by decide))
  refine lv_iload_n hx hb dX6_ramp_19 rfl (lv_at hl 2 rfl) ?_
  refine lv_iconst (v := 0) hx hb dX6_ramp_20 (by decide) ?_
  refine lv_sipush (v := 1000) hx hb dX6_ramp_21 (by decide) ?_
  refine kc_i (va_runS (As := [.int p1, .int 0, .int 1000]) (rest := []) ⟨hx, hb, hml, hown, htT⟩ (m_isIn l D cA _ am r (mS M 0 0) p1 0 1000) (cwS 3 htT (kg_S m_ml_X6_87 m_st_X6_isIn m_in_X6 m_cd_X6_isIn) rfl rfl rfl (by decide +kernel) ⟨Nat.le_of_ble_eq_true rfl, Nat.le_of_ble_eq_true rfl⟩) (kp_S hK hP hD hTB) rfl rfl hl.1 rfl (lv_room (Nat.le_of_ble_eq_true rfl)) dX6_ramp_24 ⟨Nat.le_of_ble_eq_true rfl, Nat.le_of_ble_eq_true rfl⟩) hD hS hA (fun r_3 x_3 H locs hq_3 hP hD hS => ?_)
  rw [hq_3.1.trans h1]
  rw [hq_3.2] at hP hD
  refine lv_if_eq (tgt := 41) hx hb dX6_ramp_27 (by decide) (fun c_4 => absurd c_4 (by decide)) (fun _ => ?_)
  refine lv_iload_n hx hb dX6_ramp_30 rfl (lv_at hl 3 rfl) ?_
  refine lv_iconst (v := 0) hx hb dX6_ramp_31 (by decide) ?_
  refine lv_sipush (v := 1000) hx hb dX6_ramp_32 (by decide) ?_
  refine kc_i (va_runS (As := [.int p2, .int 0, .int 1000]) (rest := []) ⟨hx, hb, hml, hown, htT⟩ (m_isIn l D cA _ am r (mS M 0 0) p2 0 1000) (cwS 3 htT (kg_S m_ml_X6_87 m_st_X6_isIn m_in_X6 m_cd_X6_isIn) rfl rfl rfl (by decide +kernel) ⟨Nat.le_of_ble_eq_true rfl, Nat.le_of_ble_eq_true rfl⟩) (kp_S hK hP hD hTB) rfl rfl hl.1 rfl (lv_room (Nat.le_of_ble_eq_true rfl)) dX6_ramp_35 ⟨Nat.le_of_ble_eq_true rfl, Nat.le_of_ble_eq_true rfl⟩) hD hS hA (fun r_5 x_5 H locs hq_5 hP hD hS => ?_)
  rw [hq_5.1.trans h2]
  rw [hq_5.2] at hP hD
  refine lv_if_ne (tgt := 47) hx hb dX6_ramp_38 (by decide) (fun c_6 => absurd c_6 (by decide)) (fun _ => ?_)
  refine lv_aload_n hx hb dX6_ramp_41 rfl (lv_at hl 0 rfl) ?_
  refine lv_iconst (v := 2) hx hb dX6_ramp_42 (by decide) ?_
  refine kc_i (va_runV (As := [.int 2]) (rest := []) ⟨hx, hb, hml, hown, htT⟩ (m_no l D cA _ am r (mS M 0 0) 2) (cwV 1 htT (kg_V m_ml_X6_95 m_im_X6_no m_sl_X6_no m_in_X6 m_cd_X6_no) rfl rfl rfl (by decide +kernel) ⟨Nat.le_of_ble_eq_true rfl, Nat.le_of_ble_eq_true rfl⟩) (kp_V hK hP hD hTB (km_rc hK hP)) rfl rfl hl.1 rfl (lv_room (Nat.le_of_ble_eq_true rfl)) dX6_ramp_43 ⟨Nat.le_of_ble_eq_true rfl, Nat.le_of_ble_eq_true rfl⟩) hD hS hA (fun r_7 x_7 H locs hq_7 hP hD hS => ?_)
  rw [hq_7.1]
  rw [hq_7.2] at hP hD
  exact W.iret (v := 0) hx hb hr (fun t ht hW => ⟨⟨0, mS (mS M 0 0) 0 2, rfl, ⟨rfl, rfl⟩, by rw [ht]; exact hP, va_K.moved hW.alike hK, hD⟩, hS.F ht⟩) hS.2.2 dX6_ramp_46

set_option maxRecDepth 100000 in
set_option maxHeartbeats 4000000 in
theorem m_share (l : Launch) (D : va_G) (cA : Nat → ClassId) (sz : Nat) (am : Nat) (r : Nat → Nat) (M : MSt) (n i : Nat) (hi : i < n) (hn8 : n ≤ 8) (h3 : M.1 3 = nI n) : Met l yX6_share (Cond.code yX6_share cX6_share 2 (some .int) :: TT) ({ frames := 2, cells := 0, slots := 0, locals := 43 }) (va_Pc [.ref am, .int (nI i)] (kPre D cA (wM cA am r M) sz)) (va_Qi (fun (r_ : Int32) (x_ : MSt) => r_ = rFar M.2 i (M.1 1) ∧ x_ = mS M 0 0) (fun x_ => kB D cA (va_A (wM cA am r M) sz) (wM cA am r x_)) (va_A (wM cA am r M) sz)) 0 0 (va_A (wM cA am r M) sz) := by
  refine Met.ofW (cc := cX6_share) (maxL := 2) (ret := (some .int)) (by decide) rfl ?_
  intro p e s m args below meth c s₁ B hml hv
  obtain ⟨rfl, hsz, hP, hK, hD0, hTB⟩ := hv
  have hx := B.exec
  have hb := B.bytes
  have hr := B.returns
  have hts := atoms_spec (ws := Cond.code yX6_share cX6_share 2 (some .int) :: TT) B.pre
  have htT : ∀ w ∈ TT, w.before _ s = true := fun w h => hts w (List.mem_cons_of_mem _ h)
  have hown : s.vm.findClass RX6 = some m.cls := findClass_of_methodNamed B.named
  have hlocks := B.notSynchronized
  subst hsz
  have hD := hD0.self (sz := s.heap.size)
  generalize hAe : va_A (wM cA am r M) s.heap.size = A at hD ⊢
  have hA : ∀ q : Nat, s.heap.size ≤ q → A q := fun q h => by rw [← hAe]; exact Or.inr h
  have hS : va_S A s.heap s.heap [] := va_S.rf
  have hl := lv_entry ([.ref am, .int (nI i)]) (n := 2) (Nat.le_of_ble_eq_true rfl)
  rw [lg_entry_eq]
  generalize (lg_sl ([.ref am, .int (nI i)]) ++ List.replicate (2 - (lg_sl ([.ref am, .int (nI i)])).length) Slot.unset).toArray = ls at hl ⊢
  have hl : lv_has ls 2 [(0, .ref am), (1, .int (nI i))] := hl
  have hsw1 := kIn_sw hi hn8 h3
  refine lv_aload_n hx hb dX6_share_0 rfl (lv_at hl 0 rfl) ?_
  refine lv_iconst (v := 0) hx hb dX6_share_1 (by decide) ?_
  refine km_puti hx hb htT hown hK hP hD hS 0 (by decide) rfl (htT _ m_fl_X6_80) rfl (by decide +kernel) dX6_share_2 (fun H locs hP hD hS => ?_)
  refine lv_aload_n hx hb dX6_share_5 rfl (lv_at hl 0 rfl) ?_
  refine lv_iload_n hx hb dX6_share_6 rfl (lv_at hl 1 rfl) ?_
  refine kc_i (va_runV (As := [.int (nI i)]) (rest := []) ⟨hx, hb, hml, hown, htT⟩ (m_isSwitch l D cA _ am r (mS M 0 0) (nI i)) (cwV 1 htT (kg_V m_ml_X6_91 m_im_X6_isSwitch m_sl_X6_isSwitch m_in_X6 m_cd_X6_isSwitch) rfl rfl rfl (by decide +kernel) ⟨Nat.le_of_ble_eq_true rfl, Nat.le_of_ble_eq_true rfl⟩) (kp_V hK hP hD hTB (km_rc hK hP)) rfl rfl hl.1 rfl (lv_room (Nat.le_of_ble_eq_true rfl)) dX6_share_7 ⟨Nat.le_of_ble_eq_true rfl, Nat.le_of_ble_eq_true rfl⟩) hD hS hA (fun r_1 x_1 H locs hq_1 hP hD hS => ?_)
  rw [hq_1.1.trans hsw1]
  rw [hq_1.2] at hP hD
  refine lv_if_eq (tgt := 22) hx hb dX6_share_10 (by decide) (fun c_2 => absurd c_2 (by decide)) (fun _ => ?_)
  refine lv_aload_n hx hb dX6_share_13 rfl (lv_at hl 0 rfl) ?_
  refine lv_iload_n hx hb dX6_share_14 rfl (lv_at hl 1 rfl) ?_
  refine lv_iconst (v := 0) hx hb dX6_share_15 (by decide) ?_
  refine kc_i (va_runV (As := [.int (nI i), .int 0]) (rest := []) ⟨hx, hb, hml, hown, htT⟩ (m_farIn l D cA _ am r (mS M 0 0) i (by omega) 0) (cwV 2 htT (kg_V m_ml_X6_117 m_im_X6_farIn m_sl_X6_farIn m_in_X6 m_cd_X6_farIn) rfl rfl rfl (by decide +kernel) ⟨Nat.le_of_ble_eq_true rfl, Nat.le_of_ble_eq_true rfl⟩) (kp_V hK hP hD hTB (km_rc hK hP)) rfl rfl hl.1 rfl (lv_room (Nat.le_of_ble_eq_true rfl)) dX6_share_16 ⟨Nat.le_of_ble_eq_true rfl, Nat.le_of_ble_eq_true rfl⟩) hD hS hA (fun r_3 x_3 H locs hq_3 hP hD hS => ?_)
  rw [hq_3.1.trans (congrArg (rFar M.2 i) (Int32.add_zero _))]
  rw [hq_3.2] at hP hD
  refine lv_goto (tgt := 27) hx hb dX6_share_19 (by decide) ?_
  exact W.iret (v := rFar M.2 i (M.1 1)) hx hb hr (fun t ht hW => ⟨⟨rFar M.2 i (M.1 1), mS M 0 0, rfl, ⟨rfl, rfl⟩, by rw [ht]; exact hP, va_K.moved hW.alike hK, hD⟩, hS.F ht⟩) hS.2.2 dX6_share_27

set_option maxRecDepth 100000 in
set_option maxHeartbeats 4000000 in
theorem m_shareIn (l : Launch) (D : va_G) (cA : Nat → ClassId) (sz : Nat) (am : Nat) (r : Nat → Nat) (M : MSt) (n i : Nat) (hi : i < n) (hn8 : n ≤ 8) (h3 : M.1 3 = nI n) (p1 : Int32) (h1 : kIn p1 0 1000 = 1) : Met l yX6_shareIn (Cond.code yX6_shareIn cX6_shareIn 3 (some .int) :: TT) ({ frames := 2, cells := 0, slots := 0, locals := 43 }) (va_Pc [.ref am, .int (nI i), .int p1] (kPre D cA (wM cA am r M) sz)) (va_Qi (fun (r_ : Int32) (x_ : MSt) => r_ = rFar M.2 i (M.1 1 + p1) ∧ x_ = mS M 0 0) (fun x_ => kB D cA (va_A (wM cA am r M) sz) (wM cA am r x_)) (va_A (wM cA am r M) sz)) 0 0 (va_A (wM cA am r M) sz) := by
  refine Met.ofW (cc := cX6_shareIn) (maxL := 3) (ret := (some .int)) (by decide) rfl ?_
  intro p e s m args below meth c s₁ B hml hv
  obtain ⟨rfl, hsz, hP, hK, hD0, hTB⟩ := hv
  have hx := B.exec
  have hb := B.bytes
  have hr := B.returns
  have hts := atoms_spec (ws := Cond.code yX6_shareIn cX6_shareIn 3 (some .int) :: TT) B.pre
  have htT : ∀ w ∈ TT, w.before _ s = true := fun w h => hts w (List.mem_cons_of_mem _ h)
  have hown : s.vm.findClass RX6 = some m.cls := findClass_of_methodNamed B.named
  have hlocks := B.notSynchronized
  subst hsz
  have hD := hD0.self (sz := s.heap.size)
  generalize hAe : va_A (wM cA am r M) s.heap.size = A at hD ⊢
  have hA : ∀ q : Nat, s.heap.size ≤ q → A q := fun q h => by rw [← hAe]; exact Or.inr h
  have hS : va_S A s.heap s.heap [] := va_S.rf
  have hl := lv_entry ([.ref am, .int (nI i), .int p1]) (n := 3) (Nat.le_of_ble_eq_true rfl)
  rw [lg_entry_eq]
  generalize (lg_sl ([.ref am, .int (nI i), .int p1]) ++ List.replicate (3 - (lg_sl ([.ref am, .int (nI i), .int p1])).length) Slot.unset).toArray = ls at hl ⊢
  have hl : lv_has ls 3 [(0, .ref am), (1, .int (nI i)), (2, .int p1)] := hl
  have hsw1 := kIn_sw hi hn8 h3
  refine lv_aload_n hx hb dX6_shareIn_0 rfl (lv_at hl 0 rfl) ?_
  refine lv_iconst (v := 0) hx hb dX6_shareIn_1 (by decide) ?_
  refine km_puti hx hb htT hown hK hP hD hS 0 (by decide) rfl (htT _ m_fl_X6_80) rfl (by decide +kernel) dX6_shareIn_2 (fun H locs hP hD hS => ?_)
  refine lv_aload_n hx hb dX6_shareIn_5 rfl (lv_at hl 0 rfl) ?_
  refine lv_iload_n hx hb dX6_shareIn_6 rfl (lv_at hl 1 rfl) ?_
  refine kc_i (va_runV (As := [.int (nI i)]) (rest := []) ⟨hx, hb, hml, hown, htT⟩ (m_isSwitch l D cA _ am r (mS M 0 0) (nI i)) (cwV 1 htT (kg_V m_ml_X6_91 m_im_X6_isSwitch m_sl_X6_isSwitch m_in_X6 m_cd_X6_isSwitch) rfl rfl rfl (by decide +kernel) ⟨Nat.le_of_ble_eq_true rfl, Nat.le_of_ble_eq_true rfl⟩) (kp_V hK hP hD hTB (km_rc hK hP)) rfl rfl hl.1 rfl (lv_room (Nat.le_of_ble_eq_true rfl)) dX6_shareIn_7 ⟨Nat.le_of_ble_eq_true rfl, Nat.le_of_ble_eq_true rfl⟩) hD hS hA (fun r_1 x_1 H locs hq_1 hP hD hS => ?_)
  rw [hq_1.1.trans hsw1]
  rw [hq_1.2] at hP hD
  refine lv_if_ne (tgt := 19) hx hb dX6_shareIn_10 (by decide) (fun _ => ?_) (fun c_2 => absurd c_2 (by decide))
  refine lv_iload_n hx hb dX6_shareIn_19 rfl (lv_at hl 2 rfl) ?_
  refine lv_iconst (v := 0) hx hb dX6_shareIn_20 (by decide) ?_
  refine lv_sipush (v := 1000) hx hb dX6_shareIn_21 (by decide) ?_
  refine kc_i (va_runS (As := [.int p1, .int 0, .int 1000]) (rest := []) ⟨hx, hb, hml, hown, htT⟩ (m_isIn l D cA _ am r (mS M 0 0) p1 0 1000) (cwS 3 htT (kg_S m_ml_X6_87 m_st_X6_isIn m_in_X6 m_cd_X6_isIn) rfl rfl rfl (by decide +kernel) ⟨Nat.le_of_ble_eq_true rfl, Nat.le_of_ble_eq_true rfl⟩) (kp_S hK hP hD hTB) rfl rfl hl.1 rfl (lv_room (Nat.le_of_ble_eq_true rfl)) dX6_shareIn_24 ⟨Nat.le_of_ble_eq_true rfl, Nat.le_of_ble_eq_true rfl⟩) hD hS hA (fun r_3 x_3 H locs hq_3 hP hD hS => ?_)
  rw [hq_3.1.trans h1]
  rw [hq_3.2] at hP hD
  refine lv_if_eq (tgt := 39) hx hb dX6_shareIn_27 (by decide) (fun c_4 => absurd c_4 (by decide)) (fun _ => ?_)
  refine lv_aload_n hx hb dX6_shareIn_30 rfl (lv_at hl 0 rfl) ?_
  refine lv_iload_n hx hb dX6_shareIn_31 rfl (lv_at hl 1 rfl) ?_
  refine lv_iload_n hx hb dX6_shareIn_32 rfl (lv_at hl 2 rfl) ?_
  refine kc_i (va_runV (As := [.int (nI i), .int p1]) (rest := []) ⟨hx, hb, hml, hown, htT⟩ (m_farIn l D cA _ am r (mS M 0 0) i (by omega) p1) (cwV 2 htT (kg_V m_ml_X6_117 m_im_X6_farIn m_sl_X6_farIn m_in_X6 m_cd_X6_farIn) rfl rfl rfl (by decide +kernel) ⟨Nat.le_of_ble_eq_true rfl, Nat.le_of_ble_eq_true rfl⟩) (kp_V hK hP hD hTB (km_rc hK hP)) rfl rfl hl.1 rfl (lv_room (Nat.le_of_ble_eq_true rfl)) dX6_shareIn_33 ⟨Nat.le_of_ble_eq_true rfl, Nat.le_of_ble_eq_true rfl⟩) hD hS hA (fun r_5 x_5 H locs hq_5 hP hD hS => ?_)
  rw [hq_5.1]
  rw [hq_5.2] at hP hD
  refine lv_goto (tgt := 44) hx hb dX6_shareIn_36 (by decide) ?_
  exact W.iret (v := rFar M.2 i (M.1 1 + p1)) hx hb hr (fun t ht hW => ⟨⟨rFar M.2 i (M.1 1 + p1), mS M 0 0, rfl, ⟨rfl, rfl⟩, by rw [ht]; exact hP, va_K.moved hW.alike hK, hD⟩, hS.F ht⟩) hS.2.2 dX6_shareIn_44

set_option maxRecDepth 100000 in
set_option maxHeartbeats 4000000 in
theorem m_shareIn_1 (l : Launch) (D : va_G) (cA : Nat → ClassId) (sz : Nat) (am : Nat) (r : Nat → Nat) (M : MSt) (n i : Nat) (hi : i < n) (hn8 : n ≤ 8) (h3 : M.1 3 = nI n) (p1 : Int32) (h1 : kIn p1 0 1000 = 0) : Met l yX6_shareIn (Cond.code yX6_shareIn cX6_shareIn 3 (some .int) :: TT) ({ frames := 2, cells := 0, slots := 0, locals := 43 }) (va_Pc [.ref am, .int (nI i), .int p1] (kPre D cA (wM cA am r M) sz)) (va_Qi (fun (r_ : Int32) (x_ : MSt) => r_ = 0 ∧ x_ = mS (mS M 0 0) 0 2) (fun x_ => kB D cA (va_A (wM cA am r M) sz) (wM cA am r x_)) (va_A (wM cA am r M) sz)) 0 0 (va_A (wM cA am r M) sz) := by
  refine Met.ofW (cc := cX6_shareIn) (maxL := 3) (ret := (some .int)) (by decide) rfl ?_
  intro p e s m args below meth c s₁ B hml hv
  obtain ⟨rfl, hsz, hP, hK, hD0, hTB⟩ := hv
  have hx := B.exec
  have hb := B.bytes
  have hr := B.returns
  have hts := atoms_spec (ws := Cond.code yX6_shareIn cX6_shareIn 3 (some .int) :: TT) B.pre
  have htT : ∀ w ∈ TT, w.before _ s = true := fun w h => hts w (List.mem_cons_of_mem _ h)
  have hown : s.vm.findClass RX6 = some m.cls := findClass_of_methodNamed B.named
  have hlocks := B.notSynchronized
  subst hsz
  have hD := hD0.self (sz := s.heap.size)
  generalize hAe : va_A (wM cA am r M) s.heap.size = A at hD ⊢
  have hA : ∀ q : Nat, s.heap.size ≤ q → A q := fun q h => by rw [← hAe]; exact Or.inr h
  have hS : va_S A s.heap s.heap [] := va_S.rf
  have hl := lv_entry ([.ref am, .int (nI i), .int p1]) (n := 3) (Nat.le_of_ble_eq_true rfl)
  rw [lg_entry_eq]
  generalize (lg_sl ([.ref am, .int (nI i), .int p1]) ++ List.replicate (3 - (lg_sl ([.ref am, .int (nI i), .int p1])).length) Slot.unset).toArray = ls at hl ⊢
  have hl : lv_has ls 3 [(0, .ref am), (1, .int (nI i)), (2, .int p1)] := hl
  have hsw1 := kIn_sw hi hn8 h3
  refine lv_aload_n hx hb dX6_shareIn_0 rfl (lv_at hl 0 rfl) ?_
  refine lv_iconst (v := 0) hx hb dX6_shareIn_1 (by decide) ?_
  refine km_puti hx hb htT hown hK hP hD hS 0 (by decide) rfl (htT _ m_fl_X6_80) rfl (by decide +kernel) dX6_shareIn_2 (fun H locs hP hD hS => ?_)
  refine lv_aload_n hx hb dX6_shareIn_5 rfl (lv_at hl 0 rfl) ?_
  refine lv_iload_n hx hb dX6_shareIn_6 rfl (lv_at hl 1 rfl) ?_
  refine kc_i (va_runV (As := [.int (nI i)]) (rest := []) ⟨hx, hb, hml, hown, htT⟩ (m_isSwitch l D cA _ am r (mS M 0 0) (nI i)) (cwV 1 htT (kg_V m_ml_X6_91 m_im_X6_isSwitch m_sl_X6_isSwitch m_in_X6 m_cd_X6_isSwitch) rfl rfl rfl (by decide +kernel) ⟨Nat.le_of_ble_eq_true rfl, Nat.le_of_ble_eq_true rfl⟩) (kp_V hK hP hD hTB (km_rc hK hP)) rfl rfl hl.1 rfl (lv_room (Nat.le_of_ble_eq_true rfl)) dX6_shareIn_7 ⟨Nat.le_of_ble_eq_true rfl, Nat.le_of_ble_eq_true rfl⟩) hD hS hA (fun r_1 x_1 H locs hq_1 hP hD hS => ?_)
  rw [hq_1.1.trans hsw1]
  rw [hq_1.2] at hP hD
  refine lv_if_ne (tgt := 19) hx hb dX6_shareIn_10 (by decide) (fun _ => ?_) (fun c_2 => absurd c_2 (by decide))
  refine lv_iload_n hx hb dX6_shareIn_19 rfl (lv_at hl 2 rfl) ?_
  refine lv_iconst (v := 0) hx hb dX6_shareIn_20 (by decide) ?_
  refine lv_sipush (v := 1000) hx hb dX6_shareIn_21 (by decide) ?_
  refine kc_i (va_runS (As := [.int p1, .int 0, .int 1000]) (rest := []) ⟨hx, hb, hml, hown, htT⟩ (m_isIn l D cA _ am r (mS M 0 0) p1 0 1000) (cwS 3 htT (kg_S m_ml_X6_87 m_st_X6_isIn m_in_X6 m_cd_X6_isIn) rfl rfl rfl (by decide +kernel) ⟨Nat.le_of_ble_eq_true rfl, Nat.le_of_ble_eq_true rfl⟩) (kp_S hK hP hD hTB) rfl rfl hl.1 rfl (lv_room (Nat.le_of_ble_eq_true rfl)) dX6_shareIn_24 ⟨Nat.le_of_ble_eq_true rfl, Nat.le_of_ble_eq_true rfl⟩) hD hS hA (fun r_3 x_3 H locs hq_3 hP hD hS => ?_)
  rw [hq_3.1.trans h1]
  rw [hq_3.2] at hP hD
  refine lv_if_eq (tgt := 39) hx hb dX6_shareIn_27 (by decide) (fun _ => ?_) (fun c_4 => absurd c_4 (by decide))
  refine lv_aload_n hx hb dX6_shareIn_39 rfl (lv_at hl 0 rfl) ?_
  refine lv_iconst (v := 2) hx hb dX6_shareIn_40 (by decide) ?_
  refine kc_i (va_runV (As := [.int 2]) (rest := []) ⟨hx, hb, hml, hown, htT⟩ (m_no l D cA _ am r (mS M 0 0) 2) (cwV 1 htT (kg_V m_ml_X6_95 m_im_X6_no m_sl_X6_no m_in_X6 m_cd_X6_no) rfl rfl rfl (by decide +kernel) ⟨Nat.le_of_ble_eq_true rfl, Nat.le_of_ble_eq_true rfl⟩) (kp_V hK hP hD hTB (km_rc hK hP)) rfl rfl hl.1 rfl (lv_room (Nat.le_of_ble_eq_true rfl)) dX6_shareIn_41 ⟨Nat.le_of_ble_eq_true rfl, Nat.le_of_ble_eq_true rfl⟩) hD hS hA (fun r_5 x_5 H locs hq_5 hP hD hS => ?_)
  rw [hq_5.1]
  rw [hq_5.2] at hP hD
  exact W.iret (v := 0) hx hb hr (fun t ht hW => ⟨⟨0, mS (mS M 0 0) 0 2, rfl, ⟨rfl, rfl⟩, by rw [ht]; exact hP, va_K.moved hW.alike hK, hD⟩, hS.F ht⟩) hS.2.2 dX6_shareIn_44

set_option maxRecDepth 100000 in
set_option maxHeartbeats 4000000 in
theorem m_gets_1 (l : Launch) (D : va_G) (cA : Nat → ClassId) (sz : Nat) (am : Nat) (r : Nat → Nat) (M : MSt) (n i : Nat) (hi : i < n) (hn8 : n ≤ 8) (h3 : M.1 3 = nI n) (p1 f g : Int32) (hq : qAsk p1 f g = 0) : Met l yX6_gets (Cond.code yX6_gets cX6_gets 5 (some .int) :: TT) ({ frames := 3, cells := 0, slots := 0, locals := 67 }) (va_Pc [.ref am, .int (nI i), .int p1, .int f, .int g] (kPre D cA (wM cA am r M) sz)) (va_Qi (fun (r_ : Int32) (x_ : MSt) => r_ = 0 ∧ x_ = mS M 0 2) (fun x_ => kB D cA (va_A (wM cA am r M) sz) (wM cA am r x_)) (va_A (wM cA am r M) sz)) 0 0 (va_A (wM cA am r M) sz) := by
  refine Met.ofW (cc := cX6_gets) (maxL := 5) (ret := (some .int)) (by decide) rfl ?_
  intro p e s m args below meth c s₁ B hml hv
  obtain ⟨rfl, hsz, hP, hK, hD0, hTB⟩ := hv
  have hx := B.exec
  have hb := B.bytes
  have hr := B.returns
  have hts := atoms_spec (ws := Cond.code yX6_gets cX6_gets 5 (some .int) :: TT) B.pre
  have htT : ∀ w ∈ TT, w.before _ s = true := fun w h => hts w (List.mem_cons_of_mem _ h)
  have hown : s.vm.findClass RX6 = some m.cls := findClass_of_methodNamed B.named
  have hlocks := B.notSynchronized
  subst hsz
  have hD := hD0.self (sz := s.heap.size)
  generalize hAe : va_A (wM cA am r M) s.heap.size = A at hD ⊢
  have hA : ∀ q : Nat, s.heap.size ≤ q → A q := fun q h => by rw [← hAe]; exact Or.inr h
  have hS : va_S A s.heap s.heap [] := va_S.rf
  have hl := lv_entry ([.ref am, .int (nI i), .int p1, .int f, .int g]) (n := 5) (Nat.le_of_ble_eq_true rfl)
  rw [lg_entry_eq]
  generalize (lg_sl ([.ref am, .int (nI i), .int p1, .int f, .int g]) ++ List.replicate (5 - (lg_sl ([.ref am, .int (nI i), .int p1, .int f, .int g])).length) Slot.unset).toArray = ls at hl ⊢
  have hl : lv_has ls 5 [(0, .ref am), (1, .int (nI i)), (2, .int p1), (3, .int f), (4, .int g)] := hl
  have hsw1 := kIn_sw hi hn8 h3
  refine lv_aload_n hx hb dX6_gets_0 rfl (lv_at hl 0 rfl) ?_
  refine lv_iload_n hx hb dX6_gets_1 rfl (lv_at hl 1 rfl) ?_
  refine lv_iload_n hx hb dX6_gets_2 rfl (lv_at hl 2 rfl) ?_
  refine lv_iload_n hx hb dX6_gets_3 rfl (lv_at hl 3 rfl) ?_
  refine lv_iload hx hb dX6_gets_4 (lv_at hl 4 rfl) ?_
  refine kc_i (va_runV (As := [.int (nI i), .int p1, .int f, .int g]) (rest := []) ⟨hx, hb, hml, hown, htT⟩ (m_isAsked_1 l D cA _ am r M n i hi hn8 h3 p1 f g) (cwV 4 htT (kg_V m_ml_X6_175 m_im_X6_isAsked m_sl_X6_isAsked m_in_X6 m_cd_X6_isAsked) rfl rfl rfl (by decide +kernel) ⟨Nat.le_of_ble_eq_true rfl, Nat.le_of_ble_eq_true rfl⟩) (kp_V hK hP hD hTB (km_rc hK hP)) rfl rfl hl.1 rfl (lv_room (Nat.le_of_ble_eq_true rfl)) dX6_gets_6 ⟨Nat.le_of_ble_eq_true rfl, Nat.le_of_ble_eq_true rfl⟩) hD hS hA (fun r_1 x_1 H locs hq_1 hP hD hS => ?_)
  rw [hq_1.1.trans hq]
  rw [hq_1.2] at hP hD
  rw [if_pos hq] at hP hD
  refine lv_if_eq (tgt := 24) hx hb dX6_gets_9 (by decide) (fun _ => ?_) (fun c_2 => absurd c_2 (by decide))
  refine lv_iconst (v := 0) hx hb dX6_gets_24 (by decide) ?_
  exact W.iret (v := 0) hx hb hr (fun t ht hW => ⟨⟨0, mS M 0 2, rfl, ⟨rfl, rfl⟩, by rw [ht]; exact hP, va_K.moved hW.alike hK, hD⟩, hS.F ht⟩) hS.2.2 dX6_gets_25

set_option maxRecDepth 100000 in
set_option maxHeartbeats 4000000 in
theorem m_why_1 (l : Launch) (D : va_G) (cA : Nat → ClassId) (sz : Nat) (am : Nat) (r : Nat → Nat) (M : MSt) (n i : Nat) (hi : i < n) (hn8 : n ≤ 8) (h3 : M.1 3 = nI n) (p1 f g : Int32) (hq : qAsk p1 f g = 0) : Met l yX6_why (Cond.code yX6_why cX6_why 5 (some .int) :: TT) ({ frames := 3, cells := 0, slots := 0, locals := 67 }) (va_Pc [.ref am, .int (nI i), .int p1, .int f, .int g] (kPre D cA (wM cA am r M) sz)) (va_Qi (fun (r_ : Int32) (x_ : MSt) => r_ = 0 ∧ x_ = mS M 0 2) (fun x_ => kB D cA (va_A (wM cA am r M) sz) (wM cA am r x_)) (va_A (wM cA am r M) sz)) 0 0 (va_A (wM cA am r M) sz) := by
  refine Met.ofW (cc := cX6_why) (maxL := 5) (ret := (some .int)) (by decide) rfl ?_
  intro p e s m args below meth c s₁ B hml hv
  obtain ⟨rfl, hsz, hP, hK, hD0, hTB⟩ := hv
  have hx := B.exec
  have hb := B.bytes
  have hr := B.returns
  have hts := atoms_spec (ws := Cond.code yX6_why cX6_why 5 (some .int) :: TT) B.pre
  have htT : ∀ w ∈ TT, w.before _ s = true := fun w h => hts w (List.mem_cons_of_mem _ h)
  have hown : s.vm.findClass RX6 = some m.cls := findClass_of_methodNamed B.named
  have hlocks := B.notSynchronized
  subst hsz
  have hD := hD0.self (sz := s.heap.size)
  generalize hAe : va_A (wM cA am r M) s.heap.size = A at hD ⊢
  have hA : ∀ q : Nat, s.heap.size ≤ q → A q := fun q h => by rw [← hAe]; exact Or.inr h
  have hS : va_S A s.heap s.heap [] := va_S.rf
  have hl := lv_entry ([.ref am, .int (nI i), .int p1, .int f, .int g]) (n := 5) (Nat.le_of_ble_eq_true rfl)
  rw [lg_entry_eq]
  generalize (lg_sl ([.ref am, .int (nI i), .int p1, .int f, .int g]) ++ List.replicate (5 - (lg_sl ([.ref am, .int (nI i), .int p1, .int f, .int g])).length) Slot.unset).toArray = ls at hl ⊢
  have hl : lv_has ls 5 [(0, .ref am), (1, .int (nI i)), (2, .int p1), (3, .int f), (4, .int g)] := hl
  have hsw1 := kIn_sw hi hn8 h3
  refine lv_aload_n hx hb dX6_why_0 rfl (lv_at hl 0 rfl) ?_
  refine lv_iload_n hx hb dX6_why_1 rfl (lv_at hl 1 rfl) ?_
  refine lv_iload_n hx hb dX6_why_2 rfl (lv_at hl 2 rfl) ?_
  refine lv_iload_n hx hb dX6_why_3 rfl (lv_at hl 3 rfl) ?_
  refine lv_iload hx hb dX6_why_4 (lv_at hl 4 rfl) ?_
  refine kc_i (va_runV (As := [.int (nI i), .int p1, .int f, .int g]) (rest := []) ⟨hx, hb, hml, hown, htT⟩ (m_isAsked_1 l D cA _ am r M n i hi hn8 h3 p1 f g) (cwV 4 htT (kg_V m_ml_X6_175 m_im_X6_isAsked m_sl_X6_isAsked m_in_X6 m_cd_X6_isAsked) rfl rfl rfl (by decide +kernel) ⟨Nat.le_of_ble_eq_true rfl, Nat.le_of_ble_eq_true rfl⟩) (kp_V hK hP hD hTB (km_rc hK hP)) rfl rfl hl.1 rfl (lv_room (Nat.le_of_ble_eq_true rfl)) dX6_why_6 ⟨Nat.le_of_ble_eq_true rfl, Nat.le_of_ble_eq_true rfl⟩) hD hS hA (fun r_1 x_1 H locs hq_1 hP hD hS => ?_)
  rw [hq_1.1.trans hq]
  rw [hq_1.2] at hP hD
  rw [if_pos hq] at hP hD
  refine lv_if_ne (tgt := 14) hx hb dX6_why_9 (by decide) (fun c_2 => absurd c_2 (by decide)) (fun _ => ?_)
  refine lv_iconst (v := 0) hx hb dX6_why_12 (by decide) ?_
  exact W.iret (v := 0) hx hb hr (fun t ht hW => ⟨⟨0, mS M 0 2, rfl, ⟨rfl, rfl⟩, by rw [ht]; exact hP, va_K.moved hW.alike hK, hD⟩, hS.F ht⟩) hS.2.2 dX6_why_13

set_option maxRecDepth 100000 in
set_option maxHeartbeats 4000000 in
theorem m_holds_1 (l : Launch) (D : va_G) (cA : Nat → ClassId) (sz : Nat) (am : Nat) (r : Nat → Nat) (M : MSt) (n i : Nat) (hi : i < n) (hn8 : n ≤ 8) (h3 : M.1 3 = nI n) (p1 f g : Int32) (hq : qAsk p1 f g = 0) : Met l yX6_holds (Cond.code yX6_holds cX6_holds 5 (some .int) :: TT) ({ frames := 3, cells := 0, slots := 0, locals := 67 }) (va_Pc [.ref am, .int (nI i), .int p1, .int f, .int g] (kPre D cA (wM cA am r M) sz)) (va_Qi (fun (r_ : Int32) (x_ : MSt) => r_ = 0 ∧ x_ = mS M 0 2) (fun x_ => kB D cA (va_A (wM cA am r M) sz) (wM cA am r x_)) (va_A (wM cA am r M) sz)) 0 0 (va_A (wM cA am r M) sz) := by
  refine Met.ofW (cc := cX6_holds) (maxL := 5) (ret := (some .int)) (by decide) rfl ?_
  intro p e s m args below meth c s₁ B hml hv
  obtain ⟨rfl, hsz, hP, hK, hD0, hTB⟩ := hv
  have hx := B.exec
  have hb := B.bytes
  have hr := B.returns
  have hts := atoms_spec (ws := Cond.code yX6_holds cX6_holds 5 (some .int) :: TT) B.pre
  have htT : ∀ w ∈ TT, w.before _ s = true := fun w h => hts w (List.mem_cons_of_mem _ h)
  have hown : s.vm.findClass RX6 = some m.cls := findClass_of_methodNamed B.named
  have hlocks := B.notSynchronized
  subst hsz
  have hD := hD0.self (sz := s.heap.size)
  generalize hAe : va_A (wM cA am r M) s.heap.size = A at hD ⊢
  have hA : ∀ q : Nat, s.heap.size ≤ q → A q := fun q h => by rw [← hAe]; exact Or.inr h
  have hS : va_S A s.heap s.heap [] := va_S.rf
  have hl := lv_entry ([.ref am, .int (nI i), .int p1, .int f, .int g]) (n := 5) (Nat.le_of_ble_eq_true rfl)
  rw [lg_entry_eq]
  generalize (lg_sl ([.ref am, .int (nI i), .int p1, .int f, .int g]) ++ List.replicate (5 - (lg_sl ([.ref am, .int (nI i), .int p1, .int f, .int g])).length) Slot.unset).toArray = ls at hl ⊢
  have hl : lv_has ls 5 [(0, .ref am), (1, .int (nI i)), (2, .int p1), (3, .int f), (4, .int g)] := hl
  have hsw1 := kIn_sw hi hn8 h3
  refine lv_aload_n hx hb dX6_holds_0 rfl (lv_at hl 0 rfl) ?_
  refine lv_iload_n hx hb dX6_holds_1 rfl (lv_at hl 1 rfl) ?_
  refine lv_iload_n hx hb dX6_holds_2 rfl (lv_at hl 2 rfl) ?_
  refine lv_iload_n hx hb dX6_holds_3 rfl (lv_at hl 3 rfl) ?_
  refine lv_iload hx hb dX6_holds_4 (lv_at hl 4 rfl) ?_
  refine kc_i (va_runV (As := [.int (nI i), .int p1, .int f, .int g]) (rest := []) ⟨hx, hb, hml, hown, htT⟩ (m_isAsked_1 l D cA _ am r M n i hi hn8 h3 p1 f g) (cwV 4 htT (kg_V m_ml_X6_175 m_im_X6_isAsked m_sl_X6_isAsked m_in_X6 m_cd_X6_isAsked) rfl rfl rfl (by decide +kernel) ⟨Nat.le_of_ble_eq_true rfl, Nat.le_of_ble_eq_true rfl⟩) (kp_V hK hP hD hTB (km_rc hK hP)) rfl rfl hl.1 rfl (lv_room (Nat.le_of_ble_eq_true rfl)) dX6_holds_6 ⟨Nat.le_of_ble_eq_true rfl, Nat.le_of_ble_eq_true rfl⟩) hD hS hA (fun r_1 x_1 H locs hq_1 hP hD hS => ?_)
  rw [hq_1.1.trans hq]
  rw [hq_1.2] at hP hD
  rw [if_pos hq] at hP hD
  refine lv_if_eq (tgt := 23) hx hb dX6_holds_9 (by decide) (fun _ => ?_) (fun c_2 => absurd c_2 (by decide))
  refine lv_iconst (v := 0) hx hb dX6_holds_23 (by decide) ?_
  exact W.iret (v := 0) hx hb hr (fun t ht hW => ⟨⟨0, mS M 0 2, rfl, ⟨rfl, rfl⟩, by rw [ht]; exact hP, va_K.moved hW.alike hK, hD⟩, hS.F ht⟩) hS.2.2 dX6_holds_24

set_option maxRecDepth 100000 in
set_option maxHeartbeats 4000000 in
theorem m_ask_1 (l : Launch) (D : va_G) (cA : Nat → ClassId) (sz : Nat) (am : Nat) (r : Nat → Nat) (M : MSt) (n i : Nat) (hi : i < n) (hn8 : n ≤ 8) (h3 : M.1 3 = nI n) (p1 f g : Int32) (hq : qAsk p1 f g = 0) : Met l yX6_ask (Cond.code yX6_ask cX6_ask 6 (some .int) :: TT) ({ frames := 3, cells := 0, slots := 0, locals := 67 }) (va_Pc [.ref am, .int (nI i), .int p1, .int f, .int g] (kPre D cA (wM cA am r M) sz)) (va_Qi (fun (r_ : Int32) (x_ : MSt) => r_ = 0 ∧ x_ = mS M 0 2) (fun x_ => kB D cA (va_A (wM cA am r M) sz) (wM cA am r x_)) (va_A (wM cA am r M) sz)) 0 0 (va_A (wM cA am r M) sz) := by
  refine Met.ofW (cc := cX6_ask) (maxL := 6) (ret := (some .int)) (by decide) rfl ?_
  intro p e s m args below meth c s₁ B hml hv
  obtain ⟨rfl, hsz, hP, hK, hD0, hTB⟩ := hv
  have hx := B.exec
  have hb := B.bytes
  have hr := B.returns
  have hts := atoms_spec (ws := Cond.code yX6_ask cX6_ask 6 (some .int) :: TT) B.pre
  have htT : ∀ w ∈ TT, w.before _ s = true := fun w h => hts w (List.mem_cons_of_mem _ h)
  have hown : s.vm.findClass RX6 = some m.cls := findClass_of_methodNamed B.named
  have hlocks := B.notSynchronized
  subst hsz
  have hD := hD0.self (sz := s.heap.size)
  generalize hAe : va_A (wM cA am r M) s.heap.size = A at hD ⊢
  have hA : ∀ q : Nat, s.heap.size ≤ q → A q := fun q h => by rw [← hAe]; exact Or.inr h
  have hS : va_S A s.heap s.heap [] := va_S.rf
  have hl := lv_entry ([.ref am, .int (nI i), .int p1, .int f, .int g]) (n := 6) (Nat.le_of_ble_eq_true rfl)
  rw [lg_entry_eq]
  generalize (lg_sl ([.ref am, .int (nI i), .int p1, .int f, .int g]) ++ List.replicate (6 - (lg_sl ([.ref am, .int (nI i), .int p1, .int f, .int g])).length) Slot.unset).toArray = ls at hl ⊢
  have hl : lv_has ls 6 [(0, .ref am), (1, .int (nI i)), (2, .int p1), (3, .int f), (4, .int g)] := hl
  have hsw1 := kIn_sw hi hn8 h3
  refine lv_aload_n hx hb dX6_ask_0 rfl (lv_at hl 0 rfl) ?_
  refine lv_iload_n hx hb dX6_ask_1 rfl (lv_at hl 1 rfl) ?_
  refine lv_iload_n hx hb dX6_ask_2 rfl (lv_at hl 2 rfl) ?_
  refine lv_iload_n hx hb dX6_ask_3 rfl (lv_at hl 3 rfl) ?_
  refine lv_iload hx hb dX6_ask_4 (lv_at hl 4 rfl) ?_
  refine kc_i (va_runV (As := [.int (nI i), .int p1, .int f, .int g]) (rest := []) ⟨hx, hb, hml, hown, htT⟩ (m_isAsked_1 l D cA _ am r M n i hi hn8 h3 p1 f g) (cwV 4 htT (kg_V m_ml_X6_175 m_im_X6_isAsked m_sl_X6_isAsked m_in_X6 m_cd_X6_isAsked) rfl rfl rfl (by decide +kernel) ⟨Nat.le_of_ble_eq_true rfl, Nat.le_of_ble_eq_true rfl⟩) (kp_V hK hP hD hTB (km_rc hK hP)) rfl rfl hl.1 rfl (lv_room (Nat.le_of_ble_eq_true rfl)) dX6_ask_6 ⟨Nat.le_of_ble_eq_true rfl, Nat.le_of_ble_eq_true rfl⟩) hD hS hA (fun r_1 x_1 H locs hq_1 hP hD hS => ?_)
  rw [hq_1.1.trans hq]
  rw [hq_1.2] at hP hD
  rw [if_pos hq] at hP hD
  refine lv_if_ne (tgt := 14) hx hb dX6_ask_9 (by decide) (fun c_2 => absurd c_2 (by decide)) (fun _ => ?_)
  refine lv_iconst (v := 0) hx hb dX6_ask_12 (by decide) ?_
  exact W.iret (v := 0) hx hb hr (fun t ht hW => ⟨⟨0, mS M 0 2, rfl, ⟨rfl, rfl⟩, by rw [ht]; exact hP, va_K.moved hW.alike hK, hD⟩, hS.F ht⟩) hS.2.2 dX6_ask_13

set_option maxRecDepth 100000 in
set_option maxHeartbeats 4000000 in
theorem m_gets (l : Launch) (D : va_G) (cA : Nat → ClassId) (sz : Nat) (am : Nat) (r : Nat → Nat) (M : MSt) (n i : Nat) (hi : i < n) (hn8 : n ≤ 8) (h3 : M.1 3 = nI n) (na : Nat) (ru : Nat → Nat) (hok : okG M n na ru) (uu : Nat) (f g : Int32) (huu : uu ≤ 9999) (hq : qAsk (nI uu) f g = 1) : Met l yX6_gets (Cond.code yX6_gets cX6_gets 5 (some .int) :: TT) ({ frames := 18, cells := 0, slots := 0, locals := 964 }) (va_Pc [.ref am, .int (nI i), .int (nI uu), .int f, .int g] (kPre D cA (wM cA am r M) sz)) (va_Qi (fun (r_ : Int32) (x_ : MSt) => r_ = (rG M.2 (M.1 2) (M.2 11) (fun k => rFar M.2 k (M.1 1)) (nI uu) f g na ru 8 i).1 ∧ x_ = mS (mS M 0 0) 28 (rG M.2 (M.1 2) (M.2 11) (fun k => rFar M.2 k (M.1 1)) (nI uu) f g na ru 8 i).2) (fun x_ => kB D cA (va_A (wM cA am r M) sz) (wM cA am r x_)) (va_A (wM cA am r M) sz)) 0 0 (va_A (wM cA am r M) sz) := by
  refine Met.ofW (cc := cX6_gets) (maxL := 5) (ret := (some .int)) (by decide) rfl ?_
  intro p e s m args below meth c s₁ B hml hv
  obtain ⟨rfl, hsz, hP, hK, hD0, hTB⟩ := hv
  have hx := B.exec
  have hb := B.bytes
  have hr := B.returns
  have hts := atoms_spec (ws := Cond.code yX6_gets cX6_gets 5 (some .int) :: TT) B.pre
  have htT : ∀ w ∈ TT, w.before _ s = true := fun w h => hts w (List.mem_cons_of_mem _ h)
  have hown : s.vm.findClass RX6 = some m.cls := findClass_of_methodNamed B.named
  have hlocks := B.notSynchronized
  subst hsz
  have hD := hD0.self (sz := s.heap.size)
  generalize hAe : va_A (wM cA am r M) s.heap.size = A at hD ⊢
  have hA : ∀ q : Nat, s.heap.size ≤ q → A q := fun q h => by rw [← hAe]; exact Or.inr h
  have hS : va_S A s.heap s.heap [] := va_S.rf
  have hl := lv_entry ([.ref am, .int (nI i), .int (nI uu), .int f, .int g]) (n := 5) (Nat.le_of_ble_eq_true rfl)
  rw [lg_entry_eq]
  generalize (lg_sl ([.ref am, .int (nI i), .int (nI uu), .int f, .int g]) ++ List.replicate (5 - (lg_sl ([.ref am, .int (nI i), .int (nI uu), .int f, .int g])).length) Slot.unset).toArray = ls at hl ⊢
  have hl : lv_has ls 5 [(0, .ref am), (1, .int (nI i)), (2, .int (nI uu)), (3, .int f), (4, .int g)] := hl
  have hsw1 := kIn_sw hi hn8 h3
  refine lv_aload_n hx hb dX6_gets_0 rfl (lv_at hl 0 rfl) ?_
  refine lv_iload_n hx hb dX6_gets_1 rfl (lv_at hl 1 rfl) ?_
  refine lv_iload_n hx hb dX6_gets_2 rfl (lv_at hl 2 rfl) ?_
  refine lv_iload_n hx hb dX6_gets_3 rfl (lv_at hl 3 rfl) ?_
  refine lv_iload hx hb dX6_gets_4 (lv_at hl 4 rfl) ?_
  refine kc_i (va_runV (As := [.int (nI i), .int (nI uu), .int f, .int g]) (rest := []) ⟨hx, hb, hml, hown, htT⟩ (m_isAsked_1 l D cA _ am r M n i hi hn8 h3 (nI uu) f g) (cwV 4 htT (kg_V m_ml_X6_175 m_im_X6_isAsked m_sl_X6_isAsked m_in_X6 m_cd_X6_isAsked) rfl rfl rfl (by decide +kernel) ⟨Nat.le_of_ble_eq_true rfl, Nat.le_of_ble_eq_true rfl⟩) (kp_V hK hP hD hTB (km_rc hK hP)) rfl rfl hl.1 rfl (lv_room (Nat.le_of_ble_eq_true rfl)) dX6_gets_6 ⟨Nat.le_of_ble_eq_true rfl, Nat.le_of_ble_eq_true rfl⟩) hD hS hA (fun r_1 x_1 H locs hq_1 hP hD hS => ?_)
  rw [hq_1.1.trans hq]
  rw [hq_1.2] at hP hD
  rw [if_neg (show ¬ qAsk (nI uu) f g = 0 by rw [hq]; decide)] at hP hD
  refine lv_if_eq (tgt := 24) hx hb dX6_gets_9 (by decide) (fun c_2 => absurd c_2 (by decide)) (fun _ => ?_)
  refine lv_aload_n hx hb dX6_gets_12 rfl (lv_at hl 0 rfl) ?_
  refine lv_iload_n hx hb dX6_gets_13 rfl (lv_at hl 1 rfl) ?_
  refine lv_iload_n hx hb dX6_gets_14 rfl (lv_at hl 2 rfl) ?_
  refine lv_iload_n hx hb dX6_gets_15 rfl (lv_at hl 3 rfl) ?_
  refine lv_iload hx hb dX6_gets_16 (lv_at hl 4 rfl) ?_
  refine kc_i (va_runV (As := [.int (nI i), .int (nI uu), .int f, .int g]) (rest := []) ⟨hx, hb, hml, hown, htT⟩ (m_PO l D cA am r n na ru 7 _ i (mS M 0 0) uu f g hi (by omega) huu hok) (cwV 4 htT (kg_V m_ml_X6_154 m_im_X6_getsOf m_sl_X6_getsOf m_in_X6 m_cd_X6_getsOf) rfl rfl rfl (by decide +kernel) ⟨Nat.le_of_ble_eq_true rfl, Nat.le_of_ble_eq_true rfl⟩) (kp_V hK hP hD hTB (km_rc hK hP)) rfl rfl hl.1 rfl (lv_room (Nat.le_of_ble_eq_true rfl)) dX6_gets_18 ⟨Nat.le_of_ble_eq_true rfl, Nat.le_of_ble_eq_true rfl⟩) hD hS hA (fun r_3 x_3 H locs hq_3 hP hD hS => ?_)
  rw [hq_3.1]
  rw [hq_3.2] at hP hD
  refine lv_goto (tgt := 25) hx hb dX6_gets_21 (by decide) ?_
  exact W.iret (v := (rG M.2 (M.1 2) (M.2 11) (fun k => rFar M.2 k (M.1 1)) (nI uu) f g na ru 8 i).1) hx hb hr (fun t ht hW => ⟨⟨(rG M.2 (M.1 2) (M.2 11) (fun k => rFar M.2 k (M.1 1)) (nI uu) f g na ru 8 i).1, mS (mS M 0 0) 28 (rG M.2 (M.1 2) (M.2 11) (fun k => rFar M.2 k (M.1 1)) (nI uu) f g na ru 8 i).2, rfl, ⟨rfl, rfl⟩, by rw [ht]; exact hP, va_K.moved hW.alike hK, hD⟩, hS.F ht⟩) hS.2.2 dX6_gets_25

set_option maxRecDepth 100000 in
set_option maxHeartbeats 4000000 in
theorem m_why (l : Launch) (D : va_G) (cA : Nat → ClassId) (sz : Nat) (am : Nat) (r : Nat → Nat) (M : MSt) (n i : Nat) (hi : i < n) (hn8 : n ≤ 8) (h3 : M.1 3 = nI n) (na : Nat) (ru : Nat → Nat) (hok : okG M n na ru) (uu : Nat) (f g : Int32) (huu : uu ≤ 9999) (hq : qAsk (nI uu) f g = 1) : Met l yX6_why (Cond.code yX6_why cX6_why 5 (some .int) :: TT) ({ frames := 18, cells := 0, slots := 0, locals := 964 }) (va_Pc [.ref am, .int (nI i), .int (nI uu), .int f, .int g] (kPre D cA (wM cA am r M) sz)) (va_Qi (fun (r_ : Int32) (x_ : MSt) => r_ = (rG M.2 (M.1 2) (M.2 11) (fun k => rFar M.2 k (M.1 1)) (nI uu) f g na ru 8 i).2 ∧ x_ = mS (mS M 0 0) 28 (rG M.2 (M.1 2) (M.2 11) (fun k => rFar M.2 k (M.1 1)) (nI uu) f g na ru 8 i).2) (fun x_ => kB D cA (va_A (wM cA am r M) sz) (wM cA am r x_)) (va_A (wM cA am r M) sz)) 0 0 (va_A (wM cA am r M) sz) := by
  refine Met.ofW (cc := cX6_why) (maxL := 5) (ret := (some .int)) (by decide) rfl ?_
  intro p e s m args below meth c s₁ B hml hv
  obtain ⟨rfl, hsz, hP, hK, hD0, hTB⟩ := hv
  have hx := B.exec
  have hb := B.bytes
  have hr := B.returns
  have hts := atoms_spec (ws := Cond.code yX6_why cX6_why 5 (some .int) :: TT) B.pre
  have htT : ∀ w ∈ TT, w.before _ s = true := fun w h => hts w (List.mem_cons_of_mem _ h)
  have hown : s.vm.findClass RX6 = some m.cls := findClass_of_methodNamed B.named
  have hlocks := B.notSynchronized
  subst hsz
  have hD := hD0.self (sz := s.heap.size)
  generalize hAe : va_A (wM cA am r M) s.heap.size = A at hD ⊢
  have hA : ∀ q : Nat, s.heap.size ≤ q → A q := fun q h => by rw [← hAe]; exact Or.inr h
  have hS : va_S A s.heap s.heap [] := va_S.rf
  have hl := lv_entry ([.ref am, .int (nI i), .int (nI uu), .int f, .int g]) (n := 5) (Nat.le_of_ble_eq_true rfl)
  rw [lg_entry_eq]
  generalize (lg_sl ([.ref am, .int (nI i), .int (nI uu), .int f, .int g]) ++ List.replicate (5 - (lg_sl ([.ref am, .int (nI i), .int (nI uu), .int f, .int g])).length) Slot.unset).toArray = ls at hl ⊢
  have hl : lv_has ls 5 [(0, .ref am), (1, .int (nI i)), (2, .int (nI uu)), (3, .int f), (4, .int g)] := hl
  have hsw1 := kIn_sw hi hn8 h3
  refine lv_aload_n hx hb dX6_why_0 rfl (lv_at hl 0 rfl) ?_
  refine lv_iload_n hx hb dX6_why_1 rfl (lv_at hl 1 rfl) ?_
  refine lv_iload_n hx hb dX6_why_2 rfl (lv_at hl 2 rfl) ?_
  refine lv_iload_n hx hb dX6_why_3 rfl (lv_at hl 3 rfl) ?_
  refine lv_iload hx hb dX6_why_4 (lv_at hl 4 rfl) ?_
  refine kc_i (va_runV (As := [.int (nI i), .int (nI uu), .int f, .int g]) (rest := []) ⟨hx, hb, hml, hown, htT⟩ (m_isAsked_1 l D cA _ am r M n i hi hn8 h3 (nI uu) f g) (cwV 4 htT (kg_V m_ml_X6_175 m_im_X6_isAsked m_sl_X6_isAsked m_in_X6 m_cd_X6_isAsked) rfl rfl rfl (by decide +kernel) ⟨Nat.le_of_ble_eq_true rfl, Nat.le_of_ble_eq_true rfl⟩) (kp_V hK hP hD hTB (km_rc hK hP)) rfl rfl hl.1 rfl (lv_room (Nat.le_of_ble_eq_true rfl)) dX6_why_6 ⟨Nat.le_of_ble_eq_true rfl, Nat.le_of_ble_eq_true rfl⟩) hD hS hA (fun r_1 x_1 H locs hq_1 hP hD hS => ?_)
  rw [hq_1.1.trans hq]
  rw [hq_1.2] at hP hD
  rw [if_neg (show ¬ qAsk (nI uu) f g = 0 by rw [hq]; decide)] at hP hD
  refine lv_if_ne (tgt := 14) hx hb dX6_why_9 (by decide) (fun _ => ?_) (fun c_2 => absurd c_2 (by decide))
  refine lv_aload_n hx hb dX6_why_14 rfl (lv_at hl 0 rfl) ?_
  refine lv_iload_n hx hb dX6_why_15 rfl (lv_at hl 1 rfl) ?_
  refine lv_iload_n hx hb dX6_why_16 rfl (lv_at hl 2 rfl) ?_
  refine lv_iload_n hx hb dX6_why_17 rfl (lv_at hl 3 rfl) ?_
  refine lv_iload hx hb dX6_why_18 (lv_at hl 4 rfl) ?_
  refine kc_i (va_runV (As := [.int (nI i), .int (nI uu), .int f, .int g]) (rest := []) ⟨hx, hb, hml, hown, htT⟩ (m_PO l D cA am r n na ru 7 _ i (mS M 0 0) uu f g hi (by omega) huu hok) (cwV 4 htT (kg_V m_ml_X6_154 m_im_X6_getsOf m_sl_X6_getsOf m_in_X6 m_cd_X6_getsOf) rfl rfl rfl (by decide +kernel) ⟨Nat.le_of_ble_eq_true rfl, Nat.le_of_ble_eq_true rfl⟩) (kp_V hK hP hD hTB (km_rc hK hP)) rfl rfl hl.1 rfl (lv_room (Nat.le_of_ble_eq_true rfl)) dX6_why_20 ⟨Nat.le_of_ble_eq_true rfl, Nat.le_of_ble_eq_true rfl⟩) hD hS hA (fun r_3 x_3 H locs hq_3 hP hD hS => ?_)
  rw [hq_3.1]
  rw [hq_3.2] at hP hD
  refine lv_pop hx hb dX6_why_23 rfl ?_
  refine lv_aload_n hx hb dX6_why_24 rfl (lv_at hl 0 rfl) ?_
  refine km_getiv (x := (rG M.2 (M.1 2) (M.2 11) (fun k => rFar M.2 k (M.1 1)) (nI uu) f g na ru 8 i).2) hx hb htT hown hK hP 28 (by decide) rfl (htT _ m_fl_X6_165) rfl dX6_why_25 ?_
  exact W.iret (v := (rG M.2 (M.1 2) (M.2 11) (fun k => rFar M.2 k (M.1 1)) (nI uu) f g na ru 8 i).2) hx hb hr (fun t ht hW => ⟨⟨(rG M.2 (M.1 2) (M.2 11) (fun k => rFar M.2 k (M.1 1)) (nI uu) f g na ru 8 i).2, mS (mS M 0 0) 28 (rG M.2 (M.1 2) (M.2 11) (fun k => rFar M.2 k (M.1 1)) (nI uu) f g na ru 8 i).2, rfl, ⟨rfl, rfl⟩, by rw [ht]; exact hP, va_K.moved hW.alike hK, hD⟩, hS.F ht⟩) hS.2.2 dX6_why_28

set_option maxRecDepth 100000 in
set_option maxHeartbeats 4000000 in
theorem m_holds (l : Launch) (D : va_G) (cA : Nat → ClassId) (sz : Nat) (am : Nat) (r : Nat → Nat) (M : MSt) (n i : Nat) (hi : i < n) (hn8 : n ≤ 8) (h3 : M.1 3 = nI n) (na : Nat) (ru : Nat → Nat) (hok : okG M n na ru) (uu : Nat) (f g : Int32) (huu : uu ≤ 9999) (hq : qAsk (nI uu) f g = 1) : Met l yX6_holds (Cond.code yX6_holds cX6_holds 5 (some .int) :: TT) ({ frames := 3, cells := 0, slots := 0, locals := 67 }) (va_Pc [.ref am, .int (nI i), .int (nI uu), .int f, .int g] (kPre D cA (wM cA am r M) sz)) (va_Qi (fun (r_ : Int32) (x_ : MSt) => r_ = rHold M.2 i f g (ru i) 0 ∧ x_ = mS M 0 0) (fun x_ => kB D cA (va_A (wM cA am r M) sz) (wM cA am r x_)) (va_A (wM cA am r M) sz)) 0 0 (va_A (wM cA am r M) sz) := by
  refine Met.ofW (cc := cX6_holds) (maxL := 5) (ret := (some .int)) (by decide) rfl ?_
  intro p e s m args below meth c s₁ B hml hv
  obtain ⟨rfl, hsz, hP, hK, hD0, hTB⟩ := hv
  have hx := B.exec
  have hb := B.bytes
  have hr := B.returns
  have hts := atoms_spec (ws := Cond.code yX6_holds cX6_holds 5 (some .int) :: TT) B.pre
  have htT : ∀ w ∈ TT, w.before _ s = true := fun w h => hts w (List.mem_cons_of_mem _ h)
  have hown : s.vm.findClass RX6 = some m.cls := findClass_of_methodNamed B.named
  have hlocks := B.notSynchronized
  subst hsz
  have hD := hD0.self (sz := s.heap.size)
  generalize hAe : va_A (wM cA am r M) s.heap.size = A at hD ⊢
  have hA : ∀ q : Nat, s.heap.size ≤ q → A q := fun q h => by rw [← hAe]; exact Or.inr h
  have hS : va_S A s.heap s.heap [] := va_S.rf
  have hl := lv_entry ([.ref am, .int (nI i), .int (nI uu), .int f, .int g]) (n := 5) (Nat.le_of_ble_eq_true rfl)
  rw [lg_entry_eq]
  generalize (lg_sl ([.ref am, .int (nI i), .int (nI uu), .int f, .int g]) ++ List.replicate (5 - (lg_sl ([.ref am, .int (nI i), .int (nI uu), .int f, .int g])).length) Slot.unset).toArray = ls at hl ⊢
  have hl : lv_has ls 5 [(0, .ref am), (1, .int (nI i)), (2, .int (nI uu)), (3, .int f), (4, .int g)] := hl
  have hsw1 := kIn_sw hi hn8 h3
  refine lv_aload_n hx hb dX6_holds_0 rfl (lv_at hl 0 rfl) ?_
  refine lv_iload_n hx hb dX6_holds_1 rfl (lv_at hl 1 rfl) ?_
  refine lv_iload_n hx hb dX6_holds_2 rfl (lv_at hl 2 rfl) ?_
  refine lv_iload_n hx hb dX6_holds_3 rfl (lv_at hl 3 rfl) ?_
  refine lv_iload hx hb dX6_holds_4 (lv_at hl 4 rfl) ?_
  refine kc_i (va_runV (As := [.int (nI i), .int (nI uu), .int f, .int g]) (rest := []) ⟨hx, hb, hml, hown, htT⟩ (m_isAsked_1 l D cA _ am r M n i hi hn8 h3 (nI uu) f g) (cwV 4 htT (kg_V m_ml_X6_175 m_im_X6_isAsked m_sl_X6_isAsked m_in_X6 m_cd_X6_isAsked) rfl rfl rfl (by decide +kernel) ⟨Nat.le_of_ble_eq_true rfl, Nat.le_of_ble_eq_true rfl⟩) (kp_V hK hP hD hTB (km_rc hK hP)) rfl rfl hl.1 rfl (lv_room (Nat.le_of_ble_eq_true rfl)) dX6_holds_6 ⟨Nat.le_of_ble_eq_true rfl, Nat.le_of_ble_eq_true rfl⟩) hD hS hA (fun r_1 x_1 H locs hq_1 hP hD hS => ?_)
  rw [hq_1.1.trans hq]
  rw [hq_1.2] at hP hD
  rw [if_neg (show ¬ qAsk (nI uu) f g = 0 by rw [hq]; decide)] at hP hD
  refine lv_if_eq (tgt := 23) hx hb dX6_holds_9 (by decide) (fun c_2 => absurd c_2 (by decide)) (fun _ => ?_)
  refine lv_aload_n hx hb dX6_holds_12 rfl (lv_at hl 0 rfl) ?_
  refine lv_iload_n hx hb dX6_holds_13 rfl (lv_at hl 1 rfl) ?_
  refine lv_iload_n hx hb dX6_holds_14 rfl (lv_at hl 3 rfl) ?_
  refine lv_iload hx hb dX6_holds_15 (lv_at hl 4 rfl) ?_
  refine kc_i (va_runV (As := [.int (nI i), .int f, .int g]) (rest := []) ⟨hx, hb, hml, hown, htT⟩ (m_holdsNow l D cA _ am r (mS M 0 0) i (by omega) (ru i) (hok.2.2.2.2 i hi).1 (hok.2.2.2.2 i hi).2.1 f g) (cwV 3 htT (kg_V m_ml_X6_161 m_im_X6_holdsNow m_sl_X6_holdsNow m_in_X6 m_cd_X6_holdsNow) rfl rfl rfl (by decide +kernel) ⟨Nat.le_of_ble_eq_true rfl, Nat.le_of_ble_eq_true rfl⟩) (kp_V hK hP hD hTB (km_rc hK hP)) rfl rfl hl.1 rfl (lv_room (Nat.le_of_ble_eq_true rfl)) dX6_holds_17 ⟨Nat.le_of_ble_eq_true rfl, Nat.le_of_ble_eq_true rfl⟩) hD hS hA (fun r_3 x_3 H locs hq_3 hP hD hS => ?_)
  rw [hq_3.1]
  rw [hq_3.2] at hP hD
  refine lv_goto (tgt := 24) hx hb dX6_holds_20 (by decide) ?_
  exact W.iret (v := rHold M.2 i f g (ru i) 0) hx hb hr (fun t ht hW => ⟨⟨rHold M.2 i f g (ru i) 0, mS M 0 0, rfl, ⟨rfl, rfl⟩, by rw [ht]; exact hP, va_K.moved hW.alike hK, hD⟩, hS.F ht⟩) hS.2.2 dX6_holds_24

