/-! the reference, exact: rules, places -/
def qRul (p1 p2 p3 : Int32) : Int32 := if kIn p1 0 1 = 0 then 0 else if kIn p2 1 3 = 0 then 0 else if kIn p3 0 9 = 0 then 0 else 1
/-- a row moved up by one, n places from ta on -/
def rMv (f : Nat → Int32) (ta n : Nat) : Nat → Int32 := fun j => if ta ≤ j ∧ j < ta + n then f (j + 1) else f j
theorem rMv_cpy {f : Nat → Int32} {ta n : Nat} : va_cpy f f (ta + 1) ta n = rMv f ta n := by
  funext j
  unfold va_cpy rMv
  by_cases h : ta ≤ j ∧ j < ta + n
  · rw [if_pos h, if_pos h, show ta + 1 + (j - ta) = j + 1 by omega]
  · rw [if_neg h, if_neg h]
/-- is a range taken -/
def rTak (T : Rows) (i : Nat) (la p2 p3 : Int32) : Nat → Nat → Int32
  | 0, _ => 0
  | c + 1, k => if k = i then rTak T i la p2 p3 c (k + 1) else if T 12 k = la then (if kMaxI p2 (T 13 k) < kMinI p3 (T 14 k) then 1 else rTak T i la p2 p3 c (k + 1)) else rTak T i la p2 p3 c (k + 1)
theorem rTak_01 (T : Rows) (i : Nat) (la p2 p3 : Int32) : ∀ c k, rTak T i la p2 p3 c k = 0 ∨ rTak T i la p2 p3 c k = 1 := by
  intro c
  induction c with
  | zero => intro k; exact Or.inl rfl
  | succ c ih =>
    intro k
    unfold rTak
    split
    · exact ih _
    · split
      · split
        · exact Or.inr rfl
        · exact ih _
      · exact ih _
set_option maxRecDepth 100000 in
set_option maxHeartbeats 4000000 in
theorem m_rule_v (l : Launch) (D : va_G) (cA : Nat → ClassId) (sz : Nat) (am : Nat) (r : Nat → Nat) (M : MSt) (n i : Nat) (hi : i < n) (hn8 : n ≤ 8) (h3 : M.1 3 = nI n) (p1 p2 p3 p4 : Int32) (ho : ¬ p4 = -1) (hv : kIn p4 0 (M.2 5 i - 1) = 0) : Met l yX6_rule (Cond.code yX6_rule cX6_rule 7 (some .int) :: TT) ({ frames := 3, cells := 0, slots := 0, locals := 65 }) (va_Pc [.ref am, .int (nI i), .int p1, .int p2, .int p3, .int p4] (kPre D cA (wM cA am r M) sz)) (va_Qi (fun (r_ : Int32) (x_ : MSt) => r_ = 0 ∧ x_ = mS (mS M 0 0) 0 1) (fun x_ => kB D cA (va_A (wM cA am r M) sz) (wM cA am r x_)) (va_A (wM cA am r M) sz)) 0 0 (va_A (wM cA am r M) sz) := by
  refine Met.ofW (cc := cX6_rule) (maxL := 7) (ret := (some .int)) (by decide) rfl ?_
  intro p e s m args below meth c s₁ B hml hv
  obtain ⟨rfl, hsz, hP, hK, hD0, hTB⟩ := hv
  have hx := B.exec
  have hb := B.bytes
  have hr := B.returns
  have hts := atoms_spec (ws := Cond.code yX6_rule cX6_rule 7 (some .int) :: TT) B.pre
  have htT : ∀ w ∈ TT, w.before _ s = true := fun w h => hts w (List.mem_cons_of_mem _ h)
  have hown : s.vm.findClass RX6 = some m.cls := findClass_of_methodNamed B.named
  have hlocks := B.notSynchronized
  subst hsz
  have hD := hD0.self (sz := s.heap.size)
  generalize hAe : va_A (wM cA am r M) s.heap.size = A at hD ⊢
  have hA : ∀ q : Nat, s.heap.size ≤ q → A q := fun q h => by rw [← hAe]; exact Or.inr h
  have hS : va_S A s.heap s.heap [] := va_S.rf
  have hl := lv_entry ([.ref am, .int (nI i), .int p1, .int p2, .int p3, .int p4]) (n := 7) (Nat.le_of_ble_eq_true rfl)
  rw [lg_entry_eq]
  generalize (lg_sl ([.ref am, .int (nI i), .int p1, .int p2, .int p3, .int p4]) ++ List.replicate (7 - (lg_sl ([.ref am, .int (nI i), .int p1, .int p2, .int p3, .int p4])).length) Slot.unset).toArray = ls at hl ⊢
  have hl : lv_has ls 7 [(0, .ref am), (1, .int (nI i)), (2, .int p1), (3, .int p2), (4, .int p3), (5, .int p4)] := hl
  have hsw1 := kIn_sw hi hn8 h3
  refine lv_aload_n hx hb dX6_rule_0 rfl (lv_at hl 0 rfl) ?_
  refine lv_iconst (v := 0) hx hb dX6_rule_1 (by decide) ?_
  refine km_puti hx hb htT hown hK hP hD hS 0 (by decide) rfl (htT _ m_fl_X6_80) rfl (by decide +kernel) dX6_rule_2 (fun H locs hP hD hS => ?_)
  refine lv_aload_n hx hb dX6_rule_5 rfl (lv_at hl 0 rfl) ?_
  refine lv_iload_n hx hb dX6_rule_6 rfl (lv_at hl 1 rfl) ?_
  refine kc_i (va_runV (As := [.int (nI i)]) (rest := []) ⟨hx, hb, hml, hown, htT⟩ (m_isSwitch l D cA _ am r (mS M 0 0) (nI i)) (cwV 1 htT (kg_V m_ml_X6_91 m_im_X6_isSwitch m_sl_X6_isSwitch m_in_X6 m_cd_X6_isSwitch) rfl rfl rfl (by decide +kernel) ⟨Nat.le_of_ble_eq_true rfl, Nat.le_of_ble_eq_true rfl⟩) (kp_V hK hP hD hTB (km_rc hK hP)) rfl rfl hl.1 rfl (lv_room (Nat.le_of_ble_eq_true rfl)) dX6_rule_7 ⟨Nat.le_of_ble_eq_true rfl, Nat.le_of_ble_eq_true rfl⟩) hD hS hA (fun r_1 x_1 H locs hq_1 hP hD hS => ?_)
  rw [hq_1.1.trans hsw1]
  rw [hq_1.2] at hP hD
  refine lv_if_eq (tgt := 29) hx hb dX6_rule_10 (by decide) (fun c_2 => absurd c_2 (by decide)) (fun _ => ?_)
  refine lv_iload hx hb dX6_rule_13 (lv_at hl 5 rfl) ?_
  refine lv_iconst (v := (-1)) hx hb dX6_rule_15 (by decide) ?_
  refine lv_icmp_eq (tgt := 35) hx hb dX6_rule_16 (by decide) (fun c_3 => ?_) (fun c_3 => ?_)
  · exact absurd c_3 ho
  · refine lv_aload_n hx hb dX6_rule_19 rfl (lv_at hl 0 rfl) ?_
    refine lv_iload_n hx hb dX6_rule_20 rfl (lv_at hl 1 rfl) ?_
    refine lv_iload hx hb dX6_rule_21 (lv_at hl 5 rfl) ?_
    refine kc_i (va_runV (As := [.int (nI i), .int p4]) (rest := []) ⟨hx, hb, hml, hown, htT⟩ (m_isVariant_1 l D cA _ am r (mS M 0 0) n i hi hn8 h3 p4) (cwV 2 htT (kg_V m_ml_X6_102 m_im_X6_isVariant m_sl_X6_isVariant m_in_X6 m_cd_X6_isVariant) rfl rfl rfl (by decide +kernel) ⟨Nat.le_of_ble_eq_true rfl, Nat.le_of_ble_eq_true rfl⟩) (kp_V hK hP hD hTB (km_rc hK hP)) rfl rfl hl.1 rfl (lv_room (Nat.le_of_ble_eq_true rfl)) dX6_rule_23 ⟨Nat.le_of_ble_eq_true rfl, Nat.le_of_ble_eq_true rfl⟩) hD hS hA (fun r_4 x_4 H locs hq_4 hP hD hS => ?_)
    rw [hq_4.1.trans hv]
    rw [hq_4.2] at hP hD
    refine lv_if_ne (tgt := 35) hx hb dX6_rule_26 (by decide) (fun c_5 => absurd c_5 (by decide)) (fun _ => ?_)
    refine lv_aload_n hx hb dX6_rule_29 rfl (lv_at hl 0 rfl) ?_
    refine lv_iconst (v := 1) hx hb dX6_rule_30 (by decide) ?_
    refine kc_i (va_runV (As := [.int 1]) (rest := []) ⟨hx, hb, hml, hown, htT⟩ (m_no l D cA _ am r (mS M 0 0) 1) (cwV 1 htT (kg_V m_ml_X6_95 m_im_X6_no m_sl_X6_no m_in_X6 m_cd_X6_no) rfl rfl rfl (by decide +kernel) ⟨Nat.le_of_ble_eq_true rfl, Nat.le_of_ble_eq_true rfl⟩) (kp_V hK hP hD hTB (km_rc hK hP)) rfl rfl hl.1 rfl (lv_room (Nat.le_of_ble_eq_true rfl)) dX6_rule_31 ⟨Nat.le_of_ble_eq_true rfl, Nat.le_of_ble_eq_true rfl⟩) hD hS hA (fun r_6 x_6 H locs hq_6 hP hD hS => ?_)
    rw [hq_6.1]
    rw [hq_6.2] at hP hD
    exact W.iret (v := 0) hx hb hr (fun t ht hW => ⟨⟨0, mS (mS M 0 0) 0 1, rfl, ⟨rfl, rfl⟩, by rw [ht]; exact hP, va_K.moved hW.alike hK, hD⟩, hS.F ht⟩) hS.2.2 dX6_rule_34

set_option maxRecDepth 100000 in
set_option maxHeartbeats 4000000 in
theorem m_rule_2 (l : Launch) (D : va_G) (cA : Nat → ClassId) (sz : Nat) (am : Nat) (r : Nat → Nat) (M : MSt) (n i : Nat) (hi : i < n) (hn8 : n ≤ 8) (h3 : M.1 3 = nI n) (p1 p2 p3 p4 : Int32) (hv : p4 = -1 ∨ kIn p4 0 (M.2 5 i - 1) = 1) (hb9 : qRul p1 p2 p3 = 0) : Met l yX6_rule (Cond.code yX6_rule cX6_rule 7 (some .int) :: TT) ({ frames := 3, cells := 0, slots := 0, locals := 65 }) (va_Pc [.ref am, .int (nI i), .int p1, .int p2, .int p3, .int p4] (kPre D cA (wM cA am r M) sz)) (va_Qi (fun (r_ : Int32) (x_ : MSt) => r_ = 0 ∧ x_ = mS (mS M 0 0) 0 2) (fun x_ => kB D cA (va_A (wM cA am r M) sz) (wM cA am r x_)) (va_A (wM cA am r M) sz)) 0 0 (va_A (wM cA am r M) sz) := by
  refine Met.ofW (cc := cX6_rule) (maxL := 7) (ret := (some .int)) (by decide) rfl ?_
  intro p e s m args below meth c s₁ B hml hv
  obtain ⟨rfl, hsz, hP, hK, hD0, hTB⟩ := hv
  have hx := B.exec
  have hb := B.bytes
  have hr := B.returns
  have hts := atoms_spec (ws := Cond.code yX6_rule cX6_rule 7 (some .int) :: TT) B.pre
  have htT : ∀ w ∈ TT, w.before _ s = true := fun w h => hts w (List.mem_cons_of_mem _ h)
  have hown : s.vm.findClass RX6 = some m.cls := findClass_of_methodNamed B.named
  have hlocks := B.notSynchronized
  subst hsz
  have hD := hD0.self (sz := s.heap.size)
  generalize hAe : va_A (wM cA am r M) s.heap.size = A at hD ⊢
  have hA : ∀ q : Nat, s.heap.size ≤ q → A q := fun q h => by rw [← hAe]; exact Or.inr h
  have hS : va_S A s.heap s.heap [] := va_S.rf
  have hl := lv_entry ([.ref am, .int (nI i), .int p1, .int p2, .int p3, .int p4]) (n := 7) (Nat.le_of_ble_eq_true rfl)
  rw [lg_entry_eq]
  generalize (lg_sl ([.ref am, .int (nI i), .int p1, .int p2, .int p3, .int p4]) ++ List.replicate (7 - (lg_sl ([.ref am, .int (nI i), .int p1, .int p2, .int p3, .int p4])).length) Slot.unset).toArray = ls at hl ⊢
  have hl : lv_has ls 7 [(0, .ref am), (1, .int (nI i)), (2, .int p1), (3, .int p2), (4, .int p3), (5, .int p4)] := hl
  have hsw1 := kIn_sw hi hn8 h3
  refine lv_aload_n hx hb dX6_rule_0 rfl (lv_at hl 0 rfl) ?_
  refine lv_iconst (v := 0) hx hb dX6_rule_1 (by decide) ?_
  refine km_puti hx hb htT hown hK hP hD hS 0 (by decide) rfl (htT _ m_fl_X6_80) rfl (by decide +kernel) dX6_rule_2 (fun H locs hP hD hS => ?_)
  refine lv_aload_n hx hb dX6_rule_5 rfl (lv_at hl 0 rfl) ?_
  refine lv_iload_n hx hb dX6_rule_6 rfl (lv_at hl 1 rfl) ?_
  refine kc_i (va_runV (As := [.int (nI i)]) (rest := []) ⟨hx, hb, hml, hown, htT⟩ (m_isSwitch l D cA _ am r (mS M 0 0) (nI i)) (cwV 1 htT (kg_V m_ml_X6_91 m_im_X6_isSwitch m_sl_X6_isSwitch m_in_X6 m_cd_X6_isSwitch) rfl rfl rfl (by decide +kernel) ⟨Nat.le_of_ble_eq_true rfl, Nat.le_of_ble_eq_true rfl⟩) (kp_V hK hP hD hTB (km_rc hK hP)) rfl rfl hl.1 rfl (lv_room (Nat.le_of_ble_eq_true rfl)) dX6_rule_7 ⟨Nat.le_of_ble_eq_true rfl, Nat.le_of_ble_eq_true rfl⟩) hD hS hA (fun r_1 x_1 H locs hq_1 hP hD hS => ?_)
  rw [hq_1.1.trans hsw1]
  rw [hq_1.2] at hP hD
  refine lv_if_eq (tgt := 29) hx hb dX6_rule_10 (by decide) (fun c_2 => absurd c_2 (by decide)) (fun _ => ?_)
  refine lv_iload hx hb dX6_rule_13 (lv_at hl 5 rfl) ?_
  refine lv_iconst (v := (-1)) hx hb dX6_rule_15 (by decide) ?_
  refine lv_icmp_eq (tgt := 35) hx hb dX6_rule_16 (by decide) (fun c_3 => ?_) (fun c_3 => ?_)
  · refine lv_iload_n hx hb dX6_rule_35 rfl (lv_at hl 2 rfl) ?_
    refine lv_iconst (v := 0) hx hb dX6_rule_36 (by decide) ?_
    refine lv_iconst (v := 1) hx hb dX6_rule_37 (by decide) ?_
    refine kc_i (va_runS (As := [.int p1, .int 0, .int 1]) (rest := []) ⟨hx, hb, hml, hown, htT⟩ (m_isIn l D cA _ am r (mS M 0 0) p1 0 1) (cwS 3 htT (kg_S m_ml_X6_87 m_st_X6_isIn m_in_X6 m_cd_X6_isIn) rfl rfl rfl (by decide +kernel) ⟨Nat.le_of_ble_eq_true rfl, Nat.le_of_ble_eq_true rfl⟩) (kp_S hK hP hD hTB) rfl rfl hl.1 rfl (lv_room (Nat.le_of_ble_eq_true rfl)) dX6_rule_38 ⟨Nat.le_of_ble_eq_true rfl, Nat.le_of_ble_eq_true rfl⟩) hD hS hA (fun r_4 x_4 H locs hq_4 hP hD hS => ?_)
    rw [hq_4.1]
    rw [hq_4.2] at hP hD
    refine lv_if_eq (tgt := 64) hx hb dX6_rule_41 (by decide) (fun c_5 => ?_) (fun c_5 => ?_)
    · refine lv_aload_n hx hb dX6_rule_64 rfl (lv_at hl 0 rfl) ?_
      refine lv_iconst (v := 2) hx hb dX6_rule_65 (by decide) ?_
      refine kc_i (va_runV (As := [.int 2]) (rest := []) ⟨hx, hb, hml, hown, htT⟩ (m_no l D cA _ am r (mS M 0 0) 2) (cwV 1 htT (kg_V m_ml_X6_95 m_im_X6_no m_sl_X6_no m_in_X6 m_cd_X6_no) rfl rfl rfl (by decide +kernel) ⟨Nat.le_of_ble_eq_true rfl, Nat.le_of_ble_eq_true rfl⟩) (kp_V hK hP hD hTB (km_rc hK hP)) rfl rfl hl.1 rfl (lv_room (Nat.le_of_ble_eq_true rfl)) dX6_rule_66 ⟨Nat.le_of_ble_eq_true rfl, Nat.le_of_ble_eq_true rfl⟩) hD hS hA (fun r_6 x_6 H locs hq_6 hP hD hS => ?_)
      rw [hq_6.1]
      rw [hq_6.2] at hP hD
      exact W.iret (v := 0) hx hb hr (fun t ht hW => ⟨⟨0, mS (mS M 0 0) 0 2, rfl, ⟨rfl, rfl⟩, by rw [ht]; exact hP, va_K.moved hW.alike hK, hD⟩, hS.F ht⟩) hS.2.2 dX6_rule_69
    · refine lv_iload_n hx hb dX6_rule_44 rfl (lv_at hl 3 rfl) ?_
      refine lv_iconst (v := 1) hx hb dX6_rule_45 (by decide) ?_
      refine lv_iconst (v := 3) hx hb dX6_rule_46 (by decide) ?_
      refine kc_i (va_runS (As := [.int p2, .int 1, .int 3]) (rest := []) ⟨hx, hb, hml, hown, htT⟩ (m_isIn l D cA _ am r (mS M 0 0) p2 1 3) (cwS 3 htT (kg_S m_ml_X6_87 m_st_X6_isIn m_in_X6 m_cd_X6_isIn) rfl rfl rfl (by decide +kernel) ⟨Nat.le_of_ble_eq_true rfl, Nat.le_of_ble_eq_true rfl⟩) (kp_S hK hP hD hTB) rfl rfl hl.1 rfl (lv_room (Nat.le_of_ble_eq_true rfl)) dX6_rule_47 ⟨Nat.le_of_ble_eq_true rfl, Nat.le_of_ble_eq_true rfl⟩) hD hS hA (fun r_7 x_7 H locs hq_7 hP hD hS => ?_)
      rw [hq_7.1]
      rw [hq_7.2] at hP hD
      refine lv_if_eq (tgt := 64) hx hb dX6_rule_50 (by decide) (fun c_8 => ?_) (fun c_8 => ?_)
      · refine lv_aload_n hx hb dX6_rule_64 rfl (lv_at hl 0 rfl) ?_
        refine lv_iconst (v := 2) hx hb dX6_rule_65 (by decide) ?_
        refine kc_i (va_runV (As := [.int 2]) (rest := []) ⟨hx, hb, hml, hown, htT⟩ (m_no l D cA _ am r (mS M 0 0) 2) (cwV 1 htT (kg_V m_ml_X6_95 m_im_X6_no m_sl_X6_no m_in_X6 m_cd_X6_no) rfl rfl rfl (by decide +kernel) ⟨Nat.le_of_ble_eq_true rfl, Nat.le_of_ble_eq_true rfl⟩) (kp_V hK hP hD hTB (km_rc hK hP)) rfl rfl hl.1 rfl (lv_room (Nat.le_of_ble_eq_true rfl)) dX6_rule_66 ⟨Nat.le_of_ble_eq_true rfl, Nat.le_of_ble_eq_true rfl⟩) hD hS hA (fun r_9 x_9 H locs hq_9 hP hD hS => ?_)
        rw [hq_9.1]
        rw [hq_9.2] at hP hD
        exact W.iret (v := 0) hx hb hr (fun t ht hW => ⟨⟨0, mS (mS M 0 0) 0 2, rfl, ⟨rfl, rfl⟩, by rw [ht]; exact hP, va_K.moved hW.alike hK, hD⟩, hS.F ht⟩) hS.2.2 dX6_rule_69
      · refine lv_iload hx hb dX6_rule_53 (lv_at hl 4 rfl) ?_
        refine lv_iconst (v := 0) hx hb dX6_rule_55 (by decide) ?_
        refine lv_bipush (v := 9) hx hb dX6_rule_56 (by decide) ?_
        refine kc_i (va_runS (As := [.int p3, .int 0, .int 9]) (rest := []) ⟨hx, hb, hml, hown, htT⟩ (m_isIn l D cA _ am r (mS M 0 0) p3 0 9) (cwS 3 htT (kg_S m_ml_X6_87 m_st_X6_isIn m_in_X6 m_cd_X6_isIn) rfl rfl rfl (by decide +kernel) ⟨Nat.le_of_ble_eq_true rfl, Nat.le_of_ble_eq_true rfl⟩) (kp_S hK hP hD hTB) rfl rfl hl.1 rfl (lv_room (Nat.le_of_ble_eq_true rfl)) dX6_rule_58 ⟨Nat.le_of_ble_eq_true rfl, Nat.le_of_ble_eq_true rfl⟩) hD hS hA (fun r_10 x_10 H locs hq_10 hP hD hS => ?_)
        rw [hq_10.1]
        rw [hq_10.2] at hP hD
        refine lv_if_ne (tgt := 70) hx hb dX6_rule_61 (by decide) (fun c_11 => ?_) (fun c_11 => ?_)
        · exact absurd hb9 (by simp [qRul, c_3, c_5, c_8, c_11])
        · refine lv_aload_n hx hb dX6_rule_64 rfl (lv_at hl 0 rfl) ?_
          refine lv_iconst (v := 2) hx hb dX6_rule_65 (by decide) ?_
          refine kc_i (va_runV (As := [.int 2]) (rest := []) ⟨hx, hb, hml, hown, htT⟩ (m_no l D cA _ am r (mS M 0 0) 2) (cwV 1 htT (kg_V m_ml_X6_95 m_im_X6_no m_sl_X6_no m_in_X6 m_cd_X6_no) rfl rfl rfl (by decide +kernel) ⟨Nat.le_of_ble_eq_true rfl, Nat.le_of_ble_eq_true rfl⟩) (kp_V hK hP hD hTB (km_rc hK hP)) rfl rfl hl.1 rfl (lv_room (Nat.le_of_ble_eq_true rfl)) dX6_rule_66 ⟨Nat.le_of_ble_eq_true rfl, Nat.le_of_ble_eq_true rfl⟩) hD hS hA (fun r_12 x_12 H locs hq_12 hP hD hS => ?_)
          rw [hq_12.1]
          rw [hq_12.2] at hP hD
          exact W.iret (v := 0) hx hb hr (fun t ht hW => ⟨⟨0, mS (mS M 0 0) 0 2, rfl, ⟨rfl, rfl⟩, by rw [ht]; exact hP, va_K.moved hW.alike hK, hD⟩, hS.F ht⟩) hS.2.2 dX6_rule_69
  · have cv16 := c_3
    refine lv_aload_n hx hb dX6_rule_19 rfl (lv_at hl 0 rfl) ?_
    refine lv_iload_n hx hb dX6_rule_20 rfl (lv_at hl 1 rfl) ?_
    refine lv_iload hx hb dX6_rule_21 (lv_at hl 5 rfl) ?_
    refine kc_i (va_runV (As := [.int (nI i), .int p4]) (rest := []) ⟨hx, hb, hml, hown, htT⟩ (m_isVariant_1 l D cA _ am r (mS M 0 0) n i hi hn8 h3 p4) (cwV 2 htT (kg_V m_ml_X6_102 m_im_X6_isVariant m_sl_X6_isVariant m_in_X6 m_cd_X6_isVariant) rfl rfl rfl (by decide +kernel) ⟨Nat.le_of_ble_eq_true rfl, Nat.le_of_ble_eq_true rfl⟩) (kp_V hK hP hD hTB (km_rc hK hP)) rfl rfl hl.1 rfl (lv_room (Nat.le_of_ble_eq_true rfl)) dX6_rule_23 ⟨Nat.le_of_ble_eq_true rfl, Nat.le_of_ble_eq_true rfl⟩) hD hS hA (fun r_13 x_13 H locs hq_13 hP hD hS => ?_)
    rw [hq_13.1.trans (hv.resolve_left cv16)]
    rw [hq_13.2] at hP hD
    refine lv_if_ne (tgt := 35) hx hb dX6_rule_26 (by decide) (fun _ => ?_) (fun c_14 => absurd c_14 (by decide))
    refine lv_iload_n hx hb dX6_rule_35 rfl (lv_at hl 2 rfl) ?_
    refine lv_iconst (v := 0) hx hb dX6_rule_36 (by decide) ?_
    refine lv_iconst (v := 1) hx hb dX6_rule_37 (by decide) ?_
    refine kc_i (va_runS (As := [.int p1, .int 0, .int 1]) (rest := []) ⟨hx, hb, hml, hown, htT⟩ (m_isIn l D cA _ am r (mS M 0 0) p1 0 1) (cwS 3 htT (kg_S m_ml_X6_87 m_st_X6_isIn m_in_X6 m_cd_X6_isIn) rfl rfl rfl (by decide +kernel) ⟨Nat.le_of_ble_eq_true rfl, Nat.le_of_ble_eq_true rfl⟩) (kp_S hK hP hD hTB) rfl rfl hl.1 rfl (lv_room (Nat.le_of_ble_eq_true rfl)) dX6_rule_38 ⟨Nat.le_of_ble_eq_true rfl, Nat.le_of_ble_eq_true rfl⟩) hD hS hA (fun r_15 x_15 H locs hq_15 hP hD hS => ?_)
    rw [hq_15.1]
    rw [hq_15.2] at hP hD
    refine lv_if_eq (tgt := 64) hx hb dX6_rule_41 (by decide) (fun c_16 => ?_) (fun c_16 => ?_)
    · refine lv_aload_n hx hb dX6_rule_64 rfl (lv_at hl 0 rfl) ?_
      refine lv_iconst (v := 2) hx hb dX6_rule_65 (by decide) ?_
      refine kc_i (va_runV (As := [.int 2]) (rest := []) ⟨hx, hb, hml, hown, htT⟩ (m_no l D cA _ am r (mS M 0 0) 2) (cwV 1 htT (kg_V m_ml_X6_95 m_im_X6_no m_sl_X6_no m_in_X6 m_cd_X6_no) rfl rfl rfl (by decide +kernel) ⟨Nat.le_of_ble_eq_true rfl, Nat.le_of_ble_eq_true rfl⟩) (kp_V hK hP hD hTB (km_rc hK hP)) rfl rfl hl.1 rfl (lv_room (Nat.le_of_ble_eq_true rfl)) dX6_rule_66 ⟨Nat.le_of_ble_eq_true rfl, Nat.le_of_ble_eq_true rfl⟩) hD hS hA (fun r_17 x_17 H locs hq_17 hP hD hS => ?_)
      rw [hq_17.1]
      rw [hq_17.2] at hP hD
      exact W.iret (v := 0) hx hb hr (fun t ht hW => ⟨⟨0, mS (mS M 0 0) 0 2, rfl, ⟨rfl, rfl⟩, by rw [ht]; exact hP, va_K.moved hW.alike hK, hD⟩, hS.F ht⟩) hS.2.2 dX6_rule_69
    · refine lv_iload_n hx hb dX6_rule_44 rfl (lv_at hl 3 rfl) ?_
      refine lv_iconst (v := 1) hx hb dX6_rule_45 (by decide) ?_
      refine lv_iconst (v := 3) hx hb dX6_rule_46 (by decide) ?_
      refine kc_i (va_runS (As := [.int p2, .int 1, .int 3]) (rest := []) ⟨hx, hb, hml, hown, htT⟩ (m_isIn l D cA _ am r (mS M 0 0) p2 1 3) (cwS 3 htT (kg_S m_ml_X6_87 m_st_X6_isIn m_in_X6 m_cd_X6_isIn) rfl rfl rfl (by decide +kernel) ⟨Nat.le_of_ble_eq_true rfl, Nat.le_of_ble_eq_true rfl⟩) (kp_S hK hP hD hTB) rfl rfl hl.1 rfl (lv_room (Nat.le_of_ble_eq_true rfl)) dX6_rule_47 ⟨Nat.le_of_ble_eq_true rfl, Nat.le_of_ble_eq_true rfl⟩) hD hS hA (fun r_18 x_18 H locs hq_18 hP hD hS => ?_)
      rw [hq_18.1]
      rw [hq_18.2] at hP hD
      refine lv_if_eq (tgt := 64) hx hb dX6_rule_50 (by decide) (fun c_19 => ?_) (fun c_19 => ?_)
      · refine lv_aload_n hx hb dX6_rule_64 rfl (lv_at hl 0 rfl) ?_
        refine lv_iconst (v := 2) hx hb dX6_rule_65 (by decide) ?_
        refine kc_i (va_runV (As := [.int 2]) (rest := []) ⟨hx, hb, hml, hown, htT⟩ (m_no l D cA _ am r (mS M 0 0) 2) (cwV 1 htT (kg_V m_ml_X6_95 m_im_X6_no m_sl_X6_no m_in_X6 m_cd_X6_no) rfl rfl rfl (by decide +kernel) ⟨Nat.le_of_ble_eq_true rfl, Nat.le_of_ble_eq_true rfl⟩) (kp_V hK hP hD hTB (km_rc hK hP)) rfl rfl hl.1 rfl (lv_room (Nat.le_of_ble_eq_true rfl)) dX6_rule_66 ⟨Nat.le_of_ble_eq_true rfl, Nat.le_of_ble_eq_true rfl⟩) hD hS hA (fun r_20 x_20 H locs hq_20 hP hD hS => ?_)
        rw [hq_20.1]
        rw [hq_20.2] at hP hD
        exact W.iret (v := 0) hx hb hr (fun t ht hW => ⟨⟨0, mS (mS M 0 0) 0 2, rfl, ⟨rfl, rfl⟩, by rw [ht]; exact hP, va_K.moved hW.alike hK, hD⟩, hS.F ht⟩) hS.2.2 dX6_rule_69
      · refine lv_iload hx hb dX6_rule_53 (lv_at hl 4 rfl) ?_
        refine lv_iconst (v := 0) hx hb dX6_rule_55 (by decide) ?_
        refine lv_bipush (v := 9) hx hb dX6_rule_56 (by decide) ?_
        refine kc_i (va_runS (As := [.int p3, .int 0, .int 9]) (rest := []) ⟨hx, hb, hml, hown, htT⟩ (m_isIn l D cA _ am r (mS M 0 0) p3 0 9) (cwS 3 htT (kg_S m_ml_X6_87 m_st_X6_isIn m_in_X6 m_cd_X6_isIn) rfl rfl rfl (by decide +kernel) ⟨Nat.le_of_ble_eq_true rfl, Nat.le_of_ble_eq_true rfl⟩) (kp_S hK hP hD hTB) rfl rfl hl.1 rfl (lv_room (Nat.le_of_ble_eq_true rfl)) dX6_rule_58 ⟨Nat.le_of_ble_eq_true rfl, Nat.le_of_ble_eq_true rfl⟩) hD hS hA (fun r_21 x_21 H locs hq_21 hP hD hS => ?_)
        rw [hq_21.1]
        rw [hq_21.2] at hP hD
        refine lv_if_ne (tgt := 70) hx hb dX6_rule_61 (by decide) (fun c_22 => ?_) (fun c_22 => ?_)
        · exact absurd hb9 (by simp [qRul, c_3, c_16, c_19, c_22])
        · refine lv_aload_n hx hb dX6_rule_64 rfl (lv_at hl 0 rfl) ?_
          refine lv_iconst (v := 2) hx hb dX6_rule_65 (by decide) ?_
          refine kc_i (va_runV (As := [.int 2]) (rest := []) ⟨hx, hb, hml, hown, htT⟩ (m_no l D cA _ am r (mS M 0 0) 2) (cwV 1 htT (kg_V m_ml_X6_95 m_im_X6_no m_sl_X6_no m_in_X6 m_cd_X6_no) rfl rfl rfl (by decide +kernel) ⟨Nat.le_of_ble_eq_true rfl, Nat.le_of_ble_eq_true rfl⟩) (kp_V hK hP hD hTB (km_rc hK hP)) rfl rfl hl.1 rfl (lv_room (Nat.le_of_ble_eq_true rfl)) dX6_rule_66 ⟨Nat.le_of_ble_eq_true rfl, Nat.le_of_ble_eq_true rfl⟩) hD hS hA (fun r_23 x_23 H locs hq_23 hP hD hS => ?_)
          rw [hq_23.1]
          rw [hq_23.2] at hP hD
          exact W.iret (v := 0) hx hb hr (fun t ht hW => ⟨⟨0, mS (mS M 0 0) 0 2, rfl, ⟨rfl, rfl⟩, by rw [ht]; exact hP, va_K.moved hW.alike hK, hD⟩, hS.F ht⟩) hS.2.2 dX6_rule_69

set_option maxRecDepth 100000 in
set_option maxHeartbeats 4000000 in
theorem m_rule_3 (l : Launch) (D : va_G) (cA : Nat → ClassId) (sz : Nat) (am : Nat) (r : Nat → Nat) (M : MSt) (n i : Nat) (hi : i < n) (hn8 : n ≤ 8) (h3 : M.1 3 = nI n) (p1 p2 p3 p4 : Int32) (hv : p4 = -1 ∨ kIn p4 0 (M.2 5 i - 1) = 1) (h1 : kIn p1 0 1 = 1) (h2 : kIn p2 1 3 = 1) (hh3 : kIn p3 0 9 = 1) (h17 : M.2 17 i = nI 5) : Met l yX6_rule (Cond.code yX6_rule cX6_rule 7 (some .int) :: TT) ({ frames := 3, cells := 0, slots := 0, locals := 65 }) (va_Pc [.ref am, .int (nI i), .int p1, .int p2, .int p3, .int p4] (kPre D cA (wM cA am r M) sz)) (va_Qi (fun (r_ : Int32) (x_ : MSt) => r_ = 0 ∧ x_ = mS (mS M 0 0) 0 3) (fun x_ => kB D cA (va_A (wM cA am r M) sz) (wM cA am r x_)) (va_A (wM cA am r M) sz)) 0 0 (va_A (wM cA am r M) sz) := by
  refine Met.ofW (cc := cX6_rule) (maxL := 7) (ret := (some .int)) (by decide) rfl ?_
  intro p e s m args below meth c s₁ B hml hv
  obtain ⟨rfl, hsz, hP, hK, hD0, hTB⟩ := hv
  have hx := B.exec
  have hb := B.bytes
  have hr := B.returns
  have hts := atoms_spec (ws := Cond.code yX6_rule cX6_rule 7 (some .int) :: TT) B.pre
  have htT : ∀ w ∈ TT, w.before _ s = true := fun w h => hts w (List.mem_cons_of_mem _ h)
  have hown : s.vm.findClass RX6 = some m.cls := findClass_of_methodNamed B.named
  have hlocks := B.notSynchronized
  subst hsz
  have hD := hD0.self (sz := s.heap.size)
  generalize hAe : va_A (wM cA am r M) s.heap.size = A at hD ⊢
  have hA : ∀ q : Nat, s.heap.size ≤ q → A q := fun q h => by rw [← hAe]; exact Or.inr h
  have hS : va_S A s.heap s.heap [] := va_S.rf
  have hl := lv_entry ([.ref am, .int (nI i), .int p1, .int p2, .int p3, .int p4]) (n := 7) (Nat.le_of_ble_eq_true rfl)
  rw [lg_entry_eq]
  generalize (lg_sl ([.ref am, .int (nI i), .int p1, .int p2, .int p3, .int p4]) ++ List.replicate (7 - (lg_sl ([.ref am, .int (nI i), .int p1, .int p2, .int p3, .int p4])).length) Slot.unset).toArray = ls at hl ⊢
  have hl : lv_has ls 7 [(0, .ref am), (1, .int (nI i)), (2, .int p1), (3, .int p2), (4, .int p3), (5, .int p4)] := hl
  have hsw1 := kIn_sw hi hn8 h3
  refine lv_aload_n hx hb dX6_rule_0 rfl (lv_at hl 0 rfl) ?_
  refine lv_iconst (v := 0) hx hb dX6_rule_1 (by decide) ?_
  refine km_puti hx hb htT hown hK hP hD hS 0 (by decide) rfl (htT _ m_fl_X6_80) rfl (by decide +kernel) dX6_rule_2 (fun H locs hP hD hS => ?_)
  refine lv_aload_n hx hb dX6_rule_5 rfl (lv_at hl 0 rfl) ?_
  refine lv_iload_n hx hb dX6_rule_6 rfl (lv_at hl 1 rfl) ?_
  refine kc_i (va_runV (As := [.int (nI i)]) (rest := []) ⟨hx, hb, hml, hown, htT⟩ (m_isSwitch l D cA _ am r (mS M 0 0) (nI i)) (cwV 1 htT (kg_V m_ml_X6_91 m_im_X6_isSwitch m_sl_X6_isSwitch m_in_X6 m_cd_X6_isSwitch) rfl rfl rfl (by decide +kernel) ⟨Nat.le_of_ble_eq_true rfl, Nat.le_of_ble_eq_true rfl⟩) (kp_V hK hP hD hTB (km_rc hK hP)) rfl rfl hl.1 rfl (lv_room (Nat.le_of_ble_eq_true rfl)) dX6_rule_7 ⟨Nat.le_of_ble_eq_true rfl, Nat.le_of_ble_eq_true rfl⟩) hD hS hA (fun r_1 x_1 H locs hq_1 hP hD hS => ?_)
  rw [hq_1.1.trans hsw1]
  rw [hq_1.2] at hP hD
  refine lv_if_eq (tgt := 29) hx hb dX6_rule_10 (by decide) (fun c_2 => absurd c_2 (by decide)) (fun _ => ?_)
  refine lv_iload hx hb dX6_rule_13 (lv_at hl 5 rfl) ?_
  refine lv_iconst (v := (-1)) hx hb dX6_rule_15 (by decide) ?_
  refine lv_icmp_eq (tgt := 35) hx hb dX6_rule_16 (by decide) (fun c_3 => ?_) (fun c_3 => ?_)
  · refine lv_iload_n hx hb dX6_rule_35 rfl (lv_at hl 2 rfl) ?_
    refine lv_iconst (v := 0) hx hb dX6_rule_36 (by decide) ?_
    refine lv_iconst (v := 1) hx hb dX6_rule_37 (by decide) ?_
    refine kc_i (va_runS (As := [.int p1, .int 0, .int 1]) (rest := []) ⟨hx, hb, hml, hown, htT⟩ (m_isIn l D cA _ am r (mS M 0 0) p1 0 1) (cwS 3 htT (kg_S m_ml_X6_87 m_st_X6_isIn m_in_X6 m_cd_X6_isIn) rfl rfl rfl (by decide +kernel) ⟨Nat.le_of_ble_eq_true rfl, Nat.le_of_ble_eq_true rfl⟩) (kp_S hK hP hD hTB) rfl rfl hl.1 rfl (lv_room (Nat.le_of_ble_eq_true rfl)) dX6_rule_38 ⟨Nat.le_of_ble_eq_true rfl, Nat.le_of_ble_eq_true rfl⟩) hD hS hA (fun r_4 x_4 H locs hq_4 hP hD hS => ?_)
    rw [hq_4.1.trans h1]
    rw [hq_4.2] at hP hD
    refine lv_if_eq (tgt := 64) hx hb dX6_rule_41 (by decide) (fun c_5 => absurd c_5 (by decide)) (fun _ => ?_)
    refine lv_iload_n hx hb dX6_rule_44 rfl (lv_at hl 3 rfl) ?_
    refine lv_iconst (v := 1) hx hb dX6_rule_45 (by decide) ?_
    refine lv_iconst (v := 3) hx hb dX6_rule_46 (by decide) ?_
    refine kc_i (va_runS (As := [.int p2, .int 1, .int 3]) (rest := []) ⟨hx, hb, hml, hown, htT⟩ (m_isIn l D cA _ am r (mS M 0 0) p2 1 3) (cwS 3 htT (kg_S m_ml_X6_87 m_st_X6_isIn m_in_X6 m_cd_X6_isIn) rfl rfl rfl (by decide +kernel) ⟨Nat.le_of_ble_eq_true rfl, Nat.le_of_ble_eq_true rfl⟩) (kp_S hK hP hD hTB) rfl rfl hl.1 rfl (lv_room (Nat.le_of_ble_eq_true rfl)) dX6_rule_47 ⟨Nat.le_of_ble_eq_true rfl, Nat.le_of_ble_eq_true rfl⟩) hD hS hA (fun r_6 x_6 H locs hq_6 hP hD hS => ?_)
    rw [hq_6.1.trans h2]
    rw [hq_6.2] at hP hD
    refine lv_if_eq (tgt := 64) hx hb dX6_rule_50 (by decide) (fun c_7 => absurd c_7 (by decide)) (fun _ => ?_)
    refine lv_iload hx hb dX6_rule_53 (lv_at hl 4 rfl) ?_
    refine lv_iconst (v := 0) hx hb dX6_rule_55 (by decide) ?_
    refine lv_bipush (v := 9) hx hb dX6_rule_56 (by decide) ?_
    refine kc_i (va_runS (As := [.int p3, .int 0, .int 9]) (rest := []) ⟨hx, hb, hml, hown, htT⟩ (m_isIn l D cA _ am r (mS M 0 0) p3 0 9) (cwS 3 htT (kg_S m_ml_X6_87 m_st_X6_isIn m_in_X6 m_cd_X6_isIn) rfl rfl rfl (by decide +kernel) ⟨Nat.le_of_ble_eq_true rfl, Nat.le_of_ble_eq_true rfl⟩) (kp_S hK hP hD hTB) rfl rfl hl.1 rfl (lv_room (Nat.le_of_ble_eq_true rfl)) dX6_rule_58 ⟨Nat.le_of_ble_eq_true rfl, Nat.le_of_ble_eq_true rfl⟩) hD hS hA (fun r_8 x_8 H locs hq_8 hP hD hS => ?_)
    rw [hq_8.1.trans hh3]
    rw [hq_8.2] at hP hD
    refine lv_if_ne (tgt := 70) hx hb dX6_rule_61 (by decide) (fun _ => ?_) (fun c_9 => absurd c_9 (by decide))
    refine lv_aload_n hx hb dX6_rule_70 rfl (lv_at hl 0 rfl) ?_
    refine km_getr hx hb htT hown hK hP 17 (by decide) rfl (htT _ m_fl_X6_50) dX6_rule_71 ?_
    refine lv_iload_n hx hb dX6_rule_74 rfl (lv_at hl 1 rfl) ?_
    refine km_ialdv (x := nI 5) hx hb hK hP 17 rfl rfl (show vp_in (nI (i)) 8 from ki_in (by omega) (by decide)) ((congrArg _ (ki_cl (by omega))).trans h17) dX6_rule_75 ?_
    refine lv_iconst (v := 5) hx hb dX6_rule_76 (by decide) ?_
    refine lv_icmp_ne (tgt := 86) hx hb dX6_rule_77 (by decide) (fun c_10 => ?_) (fun c_10 => ?_)
    · exact absurd rfl c_10
    · replace c_10 := (nI_eq (a := 5) (b := 5) (by omega) (by omega)).mp c_10
      refine lv_aload_n hx hb dX6_rule_80 rfl (lv_at hl 0 rfl) ?_
      refine lv_iconst (v := 3) hx hb dX6_rule_81 (by decide) ?_
      refine kc_i (va_runV (As := [.int 3]) (rest := []) ⟨hx, hb, hml, hown, htT⟩ (m_no l D cA _ am r (mS M 0 0) 3) (cwV 1 htT (kg_V m_ml_X6_95 m_im_X6_no m_sl_X6_no m_in_X6 m_cd_X6_no) rfl rfl rfl (by decide +kernel) ⟨Nat.le_of_ble_eq_true rfl, Nat.le_of_ble_eq_true rfl⟩) (kp_V hK hP hD hTB (km_rc hK hP)) rfl rfl hl.1 rfl (lv_room (Nat.le_of_ble_eq_true rfl)) dX6_rule_82 ⟨Nat.le_of_ble_eq_true rfl, Nat.le_of_ble_eq_true rfl⟩) hD hS hA (fun r_11 x_11 H locs hq_11 hP hD hS => ?_)
      rw [hq_11.1]
      rw [hq_11.2] at hP hD
      exact W.iret (v := 0) hx hb hr (fun t ht hW => ⟨⟨0, mS (mS M 0 0) 0 3, rfl, ⟨rfl, rfl⟩, by rw [ht]; exact hP, va_K.moved hW.alike hK, hD⟩, hS.F ht⟩) hS.2.2 dX6_rule_85
  · have cv16 := c_3
    refine lv_aload_n hx hb dX6_rule_19 rfl (lv_at hl 0 rfl) ?_
    refine lv_iload_n hx hb dX6_rule_20 rfl (lv_at hl 1 rfl) ?_
    refine lv_iload hx hb dX6_rule_21 (lv_at hl 5 rfl) ?_
    refine kc_i (va_runV (As := [.int (nI i), .int p4]) (rest := []) ⟨hx, hb, hml, hown, htT⟩ (m_isVariant_1 l D cA _ am r (mS M 0 0) n i hi hn8 h3 p4) (cwV 2 htT (kg_V m_ml_X6_102 m_im_X6_isVariant m_sl_X6_isVariant m_in_X6 m_cd_X6_isVariant) rfl rfl rfl (by decide +kernel) ⟨Nat.le_of_ble_eq_true rfl, Nat.le_of_ble_eq_true rfl⟩) (kp_V hK hP hD hTB (km_rc hK hP)) rfl rfl hl.1 rfl (lv_room (Nat.le_of_ble_eq_true rfl)) dX6_rule_23 ⟨Nat.le_of_ble_eq_true rfl, Nat.le_of_ble_eq_true rfl⟩) hD hS hA (fun r_12 x_12 H locs hq_12 hP hD hS => ?_)
    rw [hq_12.1.trans (hv.resolve_left cv16)]
    rw [hq_12.2] at hP hD
    refine lv_if_ne (tgt := 35) hx hb dX6_rule_26 (by decide) (fun _ => ?_) (fun c_13 => absurd c_13 (by decide))
    refine lv_iload_n hx hb dX6_rule_35 rfl (lv_at hl 2 rfl) ?_
    refine lv_iconst (v := 0) hx hb dX6_rule_36 (by decide) ?_
    refine lv_iconst (v := 1) hx hb dX6_rule_37 (by decide) ?_
    refine kc_i (va_runS (As := [.int p1, .int 0, .int 1]) (rest := []) ⟨hx, hb, hml, hown, htT⟩ (m_isIn l D cA _ am r (mS M 0 0) p1 0 1) (cwS 3 htT (kg_S m_ml_X6_87 m_st_X6_isIn m_in_X6 m_cd_X6_isIn) rfl rfl rfl (by decide +kernel) ⟨Nat.le_of_ble_eq_true rfl, Nat.le_of_ble_eq_true rfl⟩) (kp_S hK hP hD hTB) rfl rfl hl.1 rfl (lv_room (Nat.le_of_ble_eq_true rfl)) dX6_rule_38 ⟨Nat.le_of_ble_eq_true rfl, Nat.le_of_ble_eq_true rfl⟩) hD hS hA (fun r_14 x_14 H locs hq_14 hP hD hS => ?_)
    rw [hq_14.1.trans h1]
    rw [hq_14.2] at hP hD
    refine lv_if_eq (tgt := 64) hx hb dX6_rule_41 (by decide) (fun c_15 => absurd c_15 (by decide)) (fun _ => ?_)
    refine lv_iload_n hx hb dX6_rule_44 rfl (lv_at hl 3 rfl) ?_
    refine lv_iconst (v := 1) hx hb dX6_rule_45 (by decide) ?_
    refine lv_iconst (v := 3) hx hb dX6_rule_46 (by decide) ?_
    refine kc_i (va_runS (As := [.int p2, .int 1, .int 3]) (rest := []) ⟨hx, hb, hml, hown, htT⟩ (m_isIn l D cA _ am r (mS M 0 0) p2 1 3) (cwS 3 htT (kg_S m_ml_X6_87 m_st_X6_isIn m_in_X6 m_cd_X6_isIn) rfl rfl rfl (by decide +kernel) ⟨Nat.le_of_ble_eq_true rfl, Nat.le_of_ble_eq_true rfl⟩) (kp_S hK hP hD hTB) rfl rfl hl.1 rfl (lv_room (Nat.le_of_ble_eq_true rfl)) dX6_rule_47 ⟨Nat.le_of_ble_eq_true rfl, Nat.le_of_ble_eq_true rfl⟩) hD hS hA (fun r_16 x_16 H locs hq_16 hP hD hS => ?_)
    rw [hq_16.1.trans h2]
    rw [hq_16.2] at hP hD
    refine lv_if_eq (tgt := 64) hx hb dX6_rule_50 (by decide) (fun c_17 => absurd c_17 (by decide)) (fun _ => ?_)
    refine lv_iload hx hb dX6_rule_53 (lv_at hl 4 rfl) ?_
    refine lv_iconst (v := 0) hx hb dX6_rule_55 (by decide) ?_
    refine lv_bipush (v := 9) hx hb dX6_rule_56 (by decide) ?_
    refine kc_i (va_runS (As := [.int p3, .int 0, .int 9]) (rest := []) ⟨hx, hb, hml, hown, htT⟩ (m_isIn l D cA _ am r (mS M 0 0) p3 0 9) (cwS 3 htT (kg_S m_ml_X6_87 m_st_X6_isIn m_in_X6 m_cd_X6_isIn) rfl rfl rfl (by decide +kernel) ⟨Nat.le_of_ble_eq_true rfl, Nat.le_of_ble_eq_true rfl⟩) (kp_S hK hP hD hTB) rfl rfl hl.1 rfl (lv_room (Nat.le_of_ble_eq_true rfl)) dX6_rule_58 ⟨Nat.le_of_ble_eq_true rfl, Nat.le_of_ble_eq_true rfl⟩) hD hS hA (fun r_18 x_18 H locs hq_18 hP hD hS => ?_)
    rw [hq_18.1.trans hh3]
    rw [hq_18.2] at hP hD
    refine lv_if_ne (tgt := 70) hx hb dX6_rule_61 (by decide) (fun _ => ?_) (fun c_19 => absurd c_19 (by decide))
    refine lv_aload_n hx hb dX6_rule_70 rfl (lv_at hl 0 rfl) ?_
    refine km_getr hx hb htT hown hK hP 17 (by decide) rfl (htT _ m_fl_X6_50) dX6_rule_71 ?_
    refine lv_iload_n hx hb dX6_rule_74 rfl (lv_at hl 1 rfl) ?_
    refine km_ialdv (x := nI 5) hx hb hK hP 17 rfl rfl (show vp_in (nI (i)) 8 from ki_in (by omega) (by decide)) ((congrArg _ (ki_cl (by omega))).trans h17) dX6_rule_75 ?_
    refine lv_iconst (v := 5) hx hb dX6_rule_76 (by decide) ?_
    refine lv_icmp_ne (tgt := 86) hx hb dX6_rule_77 (by decide) (fun c_20 => ?_) (fun c_20 => ?_)
    · exact absurd rfl c_20
    · replace c_20 := (nI_eq (a := 5) (b := 5) (by omega) (by omega)).mp c_20
      refine lv_aload_n hx hb dX6_rule_80 rfl (lv_at hl 0 rfl) ?_
      refine lv_iconst (v := 3) hx hb dX6_rule_81 (by decide) ?_
      refine kc_i (va_runV (As := [.int 3]) (rest := []) ⟨hx, hb, hml, hown, htT⟩ (m_no l D cA _ am r (mS M 0 0) 3) (cwV 1 htT (kg_V m_ml_X6_95 m_im_X6_no m_sl_X6_no m_in_X6 m_cd_X6_no) rfl rfl rfl (by decide +kernel) ⟨Nat.le_of_ble_eq_true rfl, Nat.le_of_ble_eq_true rfl⟩) (kp_V hK hP hD hTB (km_rc hK hP)) rfl rfl hl.1 rfl (lv_room (Nat.le_of_ble_eq_true rfl)) dX6_rule_82 ⟨Nat.le_of_ble_eq_true rfl, Nat.le_of_ble_eq_true rfl⟩) hD hS hA (fun r_21 x_21 H locs hq_21 hP hD hS => ?_)
      rw [hq_21.1]
      rw [hq_21.2] at hP hD
      exact W.iret (v := 0) hx hb hr (fun t ht hW => ⟨⟨0, mS (mS M 0 0) 0 3, rfl, ⟨rfl, rfl⟩, by rw [ht]; exact hP, va_K.moved hW.alike hK, hD⟩, hS.F ht⟩) hS.2.2 dX6_rule_85

set_option maxRecDepth 100000 in
set_option maxHeartbeats 4000000 in
theorem m_moveX_18 (l : Launch) (D : va_G) (cA : Nat → ClassId) (sz : Nat) (am : Nat) (r : Nat → Nat) (M : MSt) (ta te : Nat) (hte : te ≤ 40) (hat : ta + 1 ≤ te) : Met l yX6_moveUp (Cond.code yX6_moveUp cX6_moveUp 3 none :: TT) ({ frames := 1, cells := 0, slots := 0, locals := 60 }) (va_Pc [.ref (r 18), .int (nI ta), .int (nI te)] (kPre D cA (wM cA am r M) sz)) (va_Qv (fun (x_ : MSt) => x_ = mU M 18 (rMv (M.2 18) ta (te - ta - 1))) (fun x_ => kB D cA (va_A (wM cA am r M) sz) (wM cA am r x_)) (va_A (wM cA am r M) sz)) 0 0 (va_A (wM cA am r M) sz) := by
  refine Met.ofW (cc := cX6_moveUp) (maxL := 3) (ret := none) (by decide) rfl ?_
  intro p e s m args below meth c s₁ B hml hv
  obtain ⟨rfl, hsz, hP, hK, hD0, hTB⟩ := hv
  have hx := B.exec
  have hb := B.bytes
  have hr := B.returns
  have hts := atoms_spec (ws := Cond.code yX6_moveUp cX6_moveUp 3 none :: TT) B.pre
  have htT : ∀ w ∈ TT, w.before _ s = true := fun w h => hts w (List.mem_cons_of_mem _ h)
  have hown : s.vm.findClass RX6 = some m.cls := findClass_of_methodNamed B.named
  have hlocks := B.notSynchronized
  subst hsz
  have hD := hD0.self (sz := s.heap.size)
  generalize hAe : va_A (wM cA am r M) s.heap.size = A at hD ⊢
  have hA : ∀ q : Nat, s.heap.size ≤ q → A q := fun q h => by rw [← hAe]; exact Or.inr h
  have hS : va_S A s.heap s.heap [] := va_S.rf
  have hl := lv_entry ([.ref (r 18), .int (nI ta), .int (nI te)]) (n := 3) (Nat.le_of_ble_eq_true rfl)
  rw [lg_entry_eq]
  generalize (lg_sl ([.ref (r 18), .int (nI ta), .int (nI te)]) ++ List.replicate (3 - (lg_sl ([.ref (r 18), .int (nI ta), .int (nI te)])).length) Slot.unset).toArray = ls at hl ⊢
  have hl : lv_has ls 3 [(0, .ref (r 18)), (1, .int (nI ta)), (2, .int (nI te))] := hl
  refine lv_aload_n hx hb dX6_moveUp_0 rfl (lv_at hl 0 rfl) ?_
  refine lv_iload_n hx hb dX6_moveUp_1 rfl (lv_at hl 1 rfl) ?_
  refine lv_iconst (v := 1) hx hb dX6_moveUp_2 (by decide) ?_
  refine lv_iadd hx hb dX6_moveUp_3 ?_
  rw [show ((nI ta) + 1 : Int32) = nI (ta + 1) from nI_add ta 1]
  refine lv_aload_n hx hb dX6_moveUp_4 rfl (lv_at hl 0 rfl) ?_
  refine lv_iload_n hx hb dX6_moveUp_5 rfl (lv_at hl 1 rfl) ?_
  refine lv_iload_n hx hb dX6_moveUp_6 rfl (lv_at hl 2 rfl) ?_
  refine lv_iload_n hx hb dX6_moveUp_7 rfl (lv_at hl 1 rfl) ?_
  refine lv_isub hx hb dX6_moveUp_8 ?_
  rw [show ((nI te) - (nI ta) : Int32) = nI (te - ta) from pk_sub (a := te) (b := ta) (by omega)]
  refine lv_iconst (v := 1) hx hb dX6_moveUp_9 (by decide) ?_
  refine lv_isub hx hb dX6_moveUp_10 ?_
  rw [show ((nI (te - ta)) - 1 : Int32) = nI ((te - ta) - 1) from pk_sub (a := te - ta) (b := 1) (by omega)]
  refine va_copyi hx hb (hml.trans hl.1.symm) hown (htT _ m_ml_X6_126) (htT _ m_nt_ac) (htT _ m_st_ac) (htT _ m_in_sys) hK hP hD hS (mPos 18) (mPos 18) 0 0 (wM_k rfl) (wM_k rfl) rfl rfl rfl (fun h9 => by have := (nI_ltI (a := ta + 1) (b := 0) (by omega) (by omega)).mp h9; omega) (fun h9 => by have := (nI_ltI (a := ta) (b := 0) (by omega) (by omega)).mp h9; omega) (fun h9 => by have := (nI_ltI (a := te - ta - 1) (b := 0) (by omega) (by omega)).mp h9; omega) (by rw [ki_cl (by omega), ki_cl (by omega)]; show _ ≤ 40; omega) (by rw [ki_cl (by omega), ki_cl (by omega)]; show _ ≤ 40; omega) (fun _ _ => rfl) (Nat.le_of_ble_eq_true rfl) (Nat.le_of_ble_eq_true rfl) dX6_moveUp_11 (fun H locs hP hD hS => ?_)
  have eW := wM_setk (cA := cA) (am := am) (r := r) (M := M) (k := 18) (f := va_cpy (M.2 18) (M.2 18) (nI (ta + 1)).toNatClampNeg (nI ta).toNatClampNeg (nI (te - ta - 1)).toNatClampNeg) rfl
  have eF : va_cpy (M.2 18) (M.2 18) (nI (ta + 1)).toNatClampNeg (nI ta).toNatClampNeg (nI (te - ta - 1)).toNatClampNeg = rMv (M.2 18) ta (te - ta - 1) := by rw [ki_cl (by omega), ki_cl (by omega), ki_cl (by omega)]; exact rMv_cpy
  have hP : va_P D vwCl (wM cA am r (mU M 18 (rMv (M.2 18) ta (te - ta - 1)))) H := by rw [← eF, show wM cA am r (mU M 18 (va_cpy (M.2 18) (M.2 18) (nI (ta + 1)).toNatClampNeg (nI ta).toNatClampNeg (nI (te - ta - 1)).toNatClampNeg)) = _ from eW.symm]; exact hP
  have hD : va_D A (wM cA am r (mU M 18 (rMv (M.2 18) ta (te - ta - 1)))) := by rw [← eF, show wM cA am r (mU M 18 (va_cpy (M.2 18) (M.2 18) (nI (ta + 1)).toNatClampNeg (nI ta).toNatClampNeg (nI (te - ta - 1)).toNatClampNeg)) = _ from eW.symm]; exact hD
  exact W.vret hx hb hr (fun t ht hW => ⟨⟨mU M 18 (rMv (M.2 18) ta (te - ta - 1)), rfl, rfl, by rw [ht]; exact hP, va_K.moved hW.alike hK, hD⟩, hS.F ht⟩) hS.2.2 dX6_moveUp_14

set_option maxRecDepth 100000 in
set_option maxHeartbeats 4000000 in
theorem m_moveX_19 (l : Launch) (D : va_G) (cA : Nat → ClassId) (sz : Nat) (am : Nat) (r : Nat → Nat) (M : MSt) (ta te : Nat) (hte : te ≤ 40) (hat : ta + 1 ≤ te) : Met l yX6_moveUp (Cond.code yX6_moveUp cX6_moveUp 3 none :: TT) ({ frames := 1, cells := 0, slots := 0, locals := 60 }) (va_Pc [.ref (r 19), .int (nI ta), .int (nI te)] (kPre D cA (wM cA am r M) sz)) (va_Qv (fun (x_ : MSt) => x_ = mU M 19 (rMv (M.2 19) ta (te - ta - 1))) (fun x_ => kB D cA (va_A (wM cA am r M) sz) (wM cA am r x_)) (va_A (wM cA am r M) sz)) 0 0 (va_A (wM cA am r M) sz) := by
  refine Met.ofW (cc := cX6_moveUp) (maxL := 3) (ret := none) (by decide) rfl ?_
  intro p e s m args below meth c s₁ B hml hv
  obtain ⟨rfl, hsz, hP, hK, hD0, hTB⟩ := hv
  have hx := B.exec
  have hb := B.bytes
  have hr := B.returns
  have hts := atoms_spec (ws := Cond.code yX6_moveUp cX6_moveUp 3 none :: TT) B.pre
  have htT : ∀ w ∈ TT, w.before _ s = true := fun w h => hts w (List.mem_cons_of_mem _ h)
  have hown : s.vm.findClass RX6 = some m.cls := findClass_of_methodNamed B.named
  have hlocks := B.notSynchronized
  subst hsz
  have hD := hD0.self (sz := s.heap.size)
  generalize hAe : va_A (wM cA am r M) s.heap.size = A at hD ⊢
  have hA : ∀ q : Nat, s.heap.size ≤ q → A q := fun q h => by rw [← hAe]; exact Or.inr h
  have hS : va_S A s.heap s.heap [] := va_S.rf
  have hl := lv_entry ([.ref (r 19), .int (nI ta), .int (nI te)]) (n := 3) (Nat.le_of_ble_eq_true rfl)
  rw [lg_entry_eq]
  generalize (lg_sl ([.ref (r 19), .int (nI ta), .int (nI te)]) ++ List.replicate (3 - (lg_sl ([.ref (r 19), .int (nI ta), .int (nI te)])).length) Slot.unset).toArray = ls at hl ⊢
  have hl : lv_has ls 3 [(0, .ref (r 19)), (1, .int (nI ta)), (2, .int (nI te))] := hl
  refine lv_aload_n hx hb dX6_moveUp_0 rfl (lv_at hl 0 rfl) ?_
  refine lv_iload_n hx hb dX6_moveUp_1 rfl (lv_at hl 1 rfl) ?_
  refine lv_iconst (v := 1) hx hb dX6_moveUp_2 (by decide) ?_
  refine lv_iadd hx hb dX6_moveUp_3 ?_
  rw [show ((nI ta) + 1 : Int32) = nI (ta + 1) from nI_add ta 1]
  refine lv_aload_n hx hb dX6_moveUp_4 rfl (lv_at hl 0 rfl) ?_
  refine lv_iload_n hx hb dX6_moveUp_5 rfl (lv_at hl 1 rfl) ?_
  refine lv_iload_n hx hb dX6_moveUp_6 rfl (lv_at hl 2 rfl) ?_
  refine lv_iload_n hx hb dX6_moveUp_7 rfl (lv_at hl 1 rfl) ?_
  refine lv_isub hx hb dX6_moveUp_8 ?_
  rw [show ((nI te) - (nI ta) : Int32) = nI (te - ta) from pk_sub (a := te) (b := ta) (by omega)]
  refine lv_iconst (v := 1) hx hb dX6_moveUp_9 (by decide) ?_
  refine lv_isub hx hb dX6_moveUp_10 ?_
  rw [show ((nI (te - ta)) - 1 : Int32) = nI ((te - ta) - 1) from pk_sub (a := te - ta) (b := 1) (by omega)]
  refine va_copyi hx hb (hml.trans hl.1.symm) hown (htT _ m_ml_X6_126) (htT _ m_nt_ac) (htT _ m_st_ac) (htT _ m_in_sys) hK hP hD hS (mPos 19) (mPos 19) 0 0 (wM_k rfl) (wM_k rfl) rfl rfl rfl (fun h9 => by have := (nI_ltI (a := ta + 1) (b := 0) (by omega) (by omega)).mp h9; omega) (fun h9 => by have := (nI_ltI (a := ta) (b := 0) (by omega) (by omega)).mp h9; omega) (fun h9 => by have := (nI_ltI (a := te - ta - 1) (b := 0) (by omega) (by omega)).mp h9; omega) (by rw [ki_cl (by omega), ki_cl (by omega)]; show _ ≤ 40; omega) (by rw [ki_cl (by omega), ki_cl (by omega)]; show _ ≤ 40; omega) (fun _ _ => rfl) (Nat.le_of_ble_eq_true rfl) (Nat.le_of_ble_eq_true rfl) dX6_moveUp_11 (fun H locs hP hD hS => ?_)
  have eW := wM_setk (cA := cA) (am := am) (r := r) (M := M) (k := 19) (f := va_cpy (M.2 19) (M.2 19) (nI (ta + 1)).toNatClampNeg (nI ta).toNatClampNeg (nI (te - ta - 1)).toNatClampNeg) rfl
  have eF : va_cpy (M.2 19) (M.2 19) (nI (ta + 1)).toNatClampNeg (nI ta).toNatClampNeg (nI (te - ta - 1)).toNatClampNeg = rMv (M.2 19) ta (te - ta - 1) := by rw [ki_cl (by omega), ki_cl (by omega), ki_cl (by omega)]; exact rMv_cpy
  have hP : va_P D vwCl (wM cA am r (mU M 19 (rMv (M.2 19) ta (te - ta - 1)))) H := by rw [← eF, show wM cA am r (mU M 19 (va_cpy (M.2 19) (M.2 19) (nI (ta + 1)).toNatClampNeg (nI ta).toNatClampNeg (nI (te - ta - 1)).toNatClampNeg)) = _ from eW.symm]; exact hP
  have hD : va_D A (wM cA am r (mU M 19 (rMv (M.2 19) ta (te - ta - 1)))) := by rw [← eF, show wM cA am r (mU M 19 (va_cpy (M.2 19) (M.2 19) (nI (ta + 1)).toNatClampNeg (nI ta).toNatClampNeg (nI (te - ta - 1)).toNatClampNeg)) = _ from eW.symm]; exact hD
  exact W.vret hx hb hr (fun t ht hW => ⟨⟨mU M 19 (rMv (M.2 19) ta (te - ta - 1)), rfl, rfl, by rw [ht]; exact hP, va_K.moved hW.alike hK, hD⟩, hS.F ht⟩) hS.2.2 dX6_moveUp_14

set_option maxRecDepth 100000 in
set_option maxHeartbeats 4000000 in
theorem m_moveX_20 (l : Launch) (D : va_G) (cA : Nat → ClassId) (sz : Nat) (am : Nat) (r : Nat → Nat) (M : MSt) (ta te : Nat) (hte : te ≤ 40) (hat : ta + 1 ≤ te) : Met l yX6_moveUp (Cond.code yX6_moveUp cX6_moveUp 3 none :: TT) ({ frames := 1, cells := 0, slots := 0, locals := 60 }) (va_Pc [.ref (r 20), .int (nI ta), .int (nI te)] (kPre D cA (wM cA am r M) sz)) (va_Qv (fun (x_ : MSt) => x_ = mU M 20 (rMv (M.2 20) ta (te - ta - 1))) (fun x_ => kB D cA (va_A (wM cA am r M) sz) (wM cA am r x_)) (va_A (wM cA am r M) sz)) 0 0 (va_A (wM cA am r M) sz) := by
  refine Met.ofW (cc := cX6_moveUp) (maxL := 3) (ret := none) (by decide) rfl ?_
  intro p e s m args below meth c s₁ B hml hv
  obtain ⟨rfl, hsz, hP, hK, hD0, hTB⟩ := hv
  have hx := B.exec
  have hb := B.bytes
  have hr := B.returns
  have hts := atoms_spec (ws := Cond.code yX6_moveUp cX6_moveUp 3 none :: TT) B.pre
  have htT : ∀ w ∈ TT, w.before _ s = true := fun w h => hts w (List.mem_cons_of_mem _ h)
  have hown : s.vm.findClass RX6 = some m.cls := findClass_of_methodNamed B.named
  have hlocks := B.notSynchronized
  subst hsz
  have hD := hD0.self (sz := s.heap.size)
  generalize hAe : va_A (wM cA am r M) s.heap.size = A at hD ⊢
  have hA : ∀ q : Nat, s.heap.size ≤ q → A q := fun q h => by rw [← hAe]; exact Or.inr h
  have hS : va_S A s.heap s.heap [] := va_S.rf
  have hl := lv_entry ([.ref (r 20), .int (nI ta), .int (nI te)]) (n := 3) (Nat.le_of_ble_eq_true rfl)
  rw [lg_entry_eq]
  generalize (lg_sl ([.ref (r 20), .int (nI ta), .int (nI te)]) ++ List.replicate (3 - (lg_sl ([.ref (r 20), .int (nI ta), .int (nI te)])).length) Slot.unset).toArray = ls at hl ⊢
  have hl : lv_has ls 3 [(0, .ref (r 20)), (1, .int (nI ta)), (2, .int (nI te))] := hl
  refine lv_aload_n hx hb dX6_moveUp_0 rfl (lv_at hl 0 rfl) ?_
  refine lv_iload_n hx hb dX6_moveUp_1 rfl (lv_at hl 1 rfl) ?_
  refine lv_iconst (v := 1) hx hb dX6_moveUp_2 (by decide) ?_
  refine lv_iadd hx hb dX6_moveUp_3 ?_
  rw [show ((nI ta) + 1 : Int32) = nI (ta + 1) from nI_add ta 1]
  refine lv_aload_n hx hb dX6_moveUp_4 rfl (lv_at hl 0 rfl) ?_
  refine lv_iload_n hx hb dX6_moveUp_5 rfl (lv_at hl 1 rfl) ?_
  refine lv_iload_n hx hb dX6_moveUp_6 rfl (lv_at hl 2 rfl) ?_
  refine lv_iload_n hx hb dX6_moveUp_7 rfl (lv_at hl 1 rfl) ?_
  refine lv_isub hx hb dX6_moveUp_8 ?_
  rw [show ((nI te) - (nI ta) : Int32) = nI (te - ta) from pk_sub (a := te) (b := ta) (by omega)]
  refine lv_iconst (v := 1) hx hb dX6_moveUp_9 (by decide) ?_
  refine lv_isub hx hb dX6_moveUp_10 ?_
  rw [show ((nI (te - ta)) - 1 : Int32) = nI ((te - ta) - 1) from pk_sub (a := te - ta) (b := 1) (by omega)]
  refine va_copyi hx hb (hml.trans hl.1.symm) hown (htT _ m_ml_X6_126) (htT _ m_nt_ac) (htT _ m_st_ac) (htT _ m_in_sys) hK hP hD hS (mPos 20) (mPos 20) 0 0 (wM_k rfl) (wM_k rfl) rfl rfl rfl (fun h9 => by have := (nI_ltI (a := ta + 1) (b := 0) (by omega) (by omega)).mp h9; omega) (fun h9 => by have := (nI_ltI (a := ta) (b := 0) (by omega) (by omega)).mp h9; omega) (fun h9 => by have := (nI_ltI (a := te - ta - 1) (b := 0) (by omega) (by omega)).mp h9; omega) (by rw [ki_cl (by omega), ki_cl (by omega)]; show _ ≤ 40; omega) (by rw [ki_cl (by omega), ki_cl (by omega)]; show _ ≤ 40; omega) (fun _ _ => rfl) (Nat.le_of_ble_eq_true rfl) (Nat.le_of_ble_eq_true rfl) dX6_moveUp_11 (fun H locs hP hD hS => ?_)
  have eW := wM_setk (cA := cA) (am := am) (r := r) (M := M) (k := 20) (f := va_cpy (M.2 20) (M.2 20) (nI (ta + 1)).toNatClampNeg (nI ta).toNatClampNeg (nI (te - ta - 1)).toNatClampNeg) rfl
  have eF : va_cpy (M.2 20) (M.2 20) (nI (ta + 1)).toNatClampNeg (nI ta).toNatClampNeg (nI (te - ta - 1)).toNatClampNeg = rMv (M.2 20) ta (te - ta - 1) := by rw [ki_cl (by omega), ki_cl (by omega), ki_cl (by omega)]; exact rMv_cpy
  have hP : va_P D vwCl (wM cA am r (mU M 20 (rMv (M.2 20) ta (te - ta - 1)))) H := by rw [← eF, show wM cA am r (mU M 20 (va_cpy (M.2 20) (M.2 20) (nI (ta + 1)).toNatClampNeg (nI ta).toNatClampNeg (nI (te - ta - 1)).toNatClampNeg)) = _ from eW.symm]; exact hP
  have hD : va_D A (wM cA am r (mU M 20 (rMv (M.2 20) ta (te - ta - 1)))) := by rw [← eF, show wM cA am r (mU M 20 (va_cpy (M.2 20) (M.2 20) (nI (ta + 1)).toNatClampNeg (nI ta).toNatClampNeg (nI (te - ta - 1)).toNatClampNeg)) = _ from eW.symm]; exact hD
  exact W.vret hx hb hr (fun t ht hW => ⟨⟨mU M 20 (rMv (M.2 20) ta (te - ta - 1)), rfl, rfl, by rw [ht]; exact hP, va_K.moved hW.alike hK, hD⟩, hS.F ht⟩) hS.2.2 dX6_moveUp_14

set_option maxRecDepth 100000 in
set_option maxHeartbeats 4000000 in
theorem m_moveX_21 (l : Launch) (D : va_G) (cA : Nat → ClassId) (sz : Nat) (am : Nat) (r : Nat → Nat) (M : MSt) (ta te : Nat) (hte : te ≤ 40) (hat : ta + 1 ≤ te) : Met l yX6_moveUp (Cond.code yX6_moveUp cX6_moveUp 3 none :: TT) ({ frames := 1, cells := 0, slots := 0, locals := 60 }) (va_Pc [.ref (r 21), .int (nI ta), .int (nI te)] (kPre D cA (wM cA am r M) sz)) (va_Qv (fun (x_ : MSt) => x_ = mU M 21 (rMv (M.2 21) ta (te - ta - 1))) (fun x_ => kB D cA (va_A (wM cA am r M) sz) (wM cA am r x_)) (va_A (wM cA am r M) sz)) 0 0 (va_A (wM cA am r M) sz) := by
  refine Met.ofW (cc := cX6_moveUp) (maxL := 3) (ret := none) (by decide) rfl ?_
  intro p e s m args below meth c s₁ B hml hv
  obtain ⟨rfl, hsz, hP, hK, hD0, hTB⟩ := hv
  have hx := B.exec
  have hb := B.bytes
  have hr := B.returns
  have hts := atoms_spec (ws := Cond.code yX6_moveUp cX6_moveUp 3 none :: TT) B.pre
  have htT : ∀ w ∈ TT, w.before _ s = true := fun w h => hts w (List.mem_cons_of_mem _ h)
  have hown : s.vm.findClass RX6 = some m.cls := findClass_of_methodNamed B.named
  have hlocks := B.notSynchronized
  subst hsz
  have hD := hD0.self (sz := s.heap.size)
  generalize hAe : va_A (wM cA am r M) s.heap.size = A at hD ⊢
  have hA : ∀ q : Nat, s.heap.size ≤ q → A q := fun q h => by rw [← hAe]; exact Or.inr h
  have hS : va_S A s.heap s.heap [] := va_S.rf
  have hl := lv_entry ([.ref (r 21), .int (nI ta), .int (nI te)]) (n := 3) (Nat.le_of_ble_eq_true rfl)
  rw [lg_entry_eq]
  generalize (lg_sl ([.ref (r 21), .int (nI ta), .int (nI te)]) ++ List.replicate (3 - (lg_sl ([.ref (r 21), .int (nI ta), .int (nI te)])).length) Slot.unset).toArray = ls at hl ⊢
  have hl : lv_has ls 3 [(0, .ref (r 21)), (1, .int (nI ta)), (2, .int (nI te))] := hl
  refine lv_aload_n hx hb dX6_moveUp_0 rfl (lv_at hl 0 rfl) ?_
  refine lv_iload_n hx hb dX6_moveUp_1 rfl (lv_at hl 1 rfl) ?_
  refine lv_iconst (v := 1) hx hb dX6_moveUp_2 (by decide) ?_
  refine lv_iadd hx hb dX6_moveUp_3 ?_
  rw [show ((nI ta) + 1 : Int32) = nI (ta + 1) from nI_add ta 1]
  refine lv_aload_n hx hb dX6_moveUp_4 rfl (lv_at hl 0 rfl) ?_
  refine lv_iload_n hx hb dX6_moveUp_5 rfl (lv_at hl 1 rfl) ?_
  refine lv_iload_n hx hb dX6_moveUp_6 rfl (lv_at hl 2 rfl) ?_
  refine lv_iload_n hx hb dX6_moveUp_7 rfl (lv_at hl 1 rfl) ?_
  refine lv_isub hx hb dX6_moveUp_8 ?_
  rw [show ((nI te) - (nI ta) : Int32) = nI (te - ta) from pk_sub (a := te) (b := ta) (by omega)]
  refine lv_iconst (v := 1) hx hb dX6_moveUp_9 (by decide) ?_
  refine lv_isub hx hb dX6_moveUp_10 ?_
  rw [show ((nI (te - ta)) - 1 : Int32) = nI ((te - ta) - 1) from pk_sub (a := te - ta) (b := 1) (by omega)]
  refine va_copyi hx hb (hml.trans hl.1.symm) hown (htT _ m_ml_X6_126) (htT _ m_nt_ac) (htT _ m_st_ac) (htT _ m_in_sys) hK hP hD hS (mPos 21) (mPos 21) 0 0 (wM_k rfl) (wM_k rfl) rfl rfl rfl (fun h9 => by have := (nI_ltI (a := ta + 1) (b := 0) (by omega) (by omega)).mp h9; omega) (fun h9 => by have := (nI_ltI (a := ta) (b := 0) (by omega) (by omega)).mp h9; omega) (fun h9 => by have := (nI_ltI (a := te - ta - 1) (b := 0) (by omega) (by omega)).mp h9; omega) (by rw [ki_cl (by omega), ki_cl (by omega)]; show _ ≤ 40; omega) (by rw [ki_cl (by omega), ki_cl (by omega)]; show _ ≤ 40; omega) (fun _ _ => rfl) (Nat.le_of_ble_eq_true rfl) (Nat.le_of_ble_eq_true rfl) dX6_moveUp_11 (fun H locs hP hD hS => ?_)
  have eW := wM_setk (cA := cA) (am := am) (r := r) (M := M) (k := 21) (f := va_cpy (M.2 21) (M.2 21) (nI (ta + 1)).toNatClampNeg (nI ta).toNatClampNeg (nI (te - ta - 1)).toNatClampNeg) rfl
  have eF : va_cpy (M.2 21) (M.2 21) (nI (ta + 1)).toNatClampNeg (nI ta).toNatClampNeg (nI (te - ta - 1)).toNatClampNeg = rMv (M.2 21) ta (te - ta - 1) := by rw [ki_cl (by omega), ki_cl (by omega), ki_cl (by omega)]; exact rMv_cpy
  have hP : va_P D vwCl (wM cA am r (mU M 21 (rMv (M.2 21) ta (te - ta - 1)))) H := by rw [← eF, show wM cA am r (mU M 21 (va_cpy (M.2 21) (M.2 21) (nI (ta + 1)).toNatClampNeg (nI ta).toNatClampNeg (nI (te - ta - 1)).toNatClampNeg)) = _ from eW.symm]; exact hP
  have hD : va_D A (wM cA am r (mU M 21 (rMv (M.2 21) ta (te - ta - 1)))) := by rw [← eF, show wM cA am r (mU M 21 (va_cpy (M.2 21) (M.2 21) (nI (ta + 1)).toNatClampNeg (nI ta).toNatClampNeg (nI (te - ta - 1)).toNatClampNeg)) = _ from eW.symm]; exact hD
  exact W.vret hx hb hr (fun t ht hW => ⟨⟨mU M 21 (rMv (M.2 21) ta (te - ta - 1)), rfl, rfl, by rw [ht]; exact hP, va_K.moved hW.alike hK, hD⟩, hS.F ht⟩) hS.2.2 dX6_moveUp_14

set_option maxRecDepth 100000 in
set_option maxHeartbeats 4000000 in
theorem m_unrule (l : Launch) (D : va_G) (cA : Nat → ClassId) (sz : Nat) (am : Nat) (r : Nat → Nat) (M : MSt) (n i : Nat) (hi : i < n) (hn8 : n ≤ 8) (h3 : M.1 3 = nI n) (rc : Nat) (hrc : rc ≤ 5) (h17 : M.2 17 i = nI rc) (q : Nat) (hq : q < rc) : Met l yX6_unrule (Cond.code yX6_unrule cX6_unrule 5 (some .int) :: TT) ({ frames := 2, cells := 0, slots := 0, locals := 82 }) (va_Pc [.ref am, .int (nI i), .int (nI q)] (kPre D cA (wM cA am r M) sz)) (va_Qi (fun (r_ : Int32) (x_ : MSt) => r_ = nI (rc - 1) ∧ x_ = mR (mU (mU (mU (mU (mS M 0 0) 18 (rMv (M.2 18) (5 * i + q) (5 * i + rc - (5 * i + q) - 1))) 19 (rMv (M.2 19) (5 * i + q) (5 * i + rc - (5 * i + q) - 1))) 20 (rMv (M.2 20) (5 * i + q) (5 * i + rc - (5 * i + q) - 1))) 21 (rMv (M.2 21) (5 * i + q) (5 * i + rc - (5 * i + q) - 1))) 17 i (nI (rc - 1))) (fun x_ => kB D cA (va_A (wM cA am r M) sz) (wM cA am r x_)) (va_A (wM cA am r M) sz)) 0 0 (va_A (wM cA am r M) sz) := by
  refine Met.ofW (cc := cX6_unrule) (maxL := 5) (ret := (some .int)) (by decide) rfl ?_
  intro p e s m args below meth c s₁ B hml hv
  obtain ⟨rfl, hsz, hP, hK, hD0, hTB⟩ := hv
  have hx := B.exec
  have hb := B.bytes
  have hr := B.returns
  have hts := atoms_spec (ws := Cond.code yX6_unrule cX6_unrule 5 (some .int) :: TT) B.pre
  have htT : ∀ w ∈ TT, w.before _ s = true := fun w h => hts w (List.mem_cons_of_mem _ h)
  have hown : s.vm.findClass RX6 = some m.cls := findClass_of_methodNamed B.named
  have hlocks := B.notSynchronized
  subst hsz
  have hD := hD0.self (sz := s.heap.size)
  generalize hAe : va_A (wM cA am r M) s.heap.size = A at hD ⊢
  have hA : ∀ q : Nat, s.heap.size ≤ q → A q := fun q h => by rw [← hAe]; exact Or.inr h
  have hS : va_S A s.heap s.heap [] := va_S.rf
  have hl := lv_entry ([.ref am, .int (nI i), .int (nI q)]) (n := 5) (Nat.le_of_ble_eq_true rfl)
  rw [lg_entry_eq]
  generalize (lg_sl ([.ref am, .int (nI i), .int (nI q)]) ++ List.replicate (5 - (lg_sl ([.ref am, .int (nI i), .int (nI q)])).length) Slot.unset).toArray = ls at hl ⊢
  have hl : lv_has ls 5 [(0, .ref am), (1, .int (nI i)), (2, .int (nI q))] := hl
  have hsw1 := kIn_sw hi hn8 h3
  refine lv_aload_n hx hb dX6_unrule_0 rfl (lv_at hl 0 rfl) ?_
  refine lv_iconst (v := 0) hx hb dX6_unrule_1 (by decide) ?_
  refine km_puti hx hb htT hown hK hP hD hS 0 (by decide) rfl (htT _ m_fl_X6_80) rfl (by decide +kernel) dX6_unrule_2 (fun H locs hP hD hS => ?_)
  refine lv_aload_n hx hb dX6_unrule_5 rfl (lv_at hl 0 rfl) ?_
  refine lv_iload_n hx hb dX6_unrule_6 rfl (lv_at hl 1 rfl) ?_
  refine kc_i (va_runV (As := [.int (nI i)]) (rest := []) ⟨hx, hb, hml, hown, htT⟩ (m_isSwitch l D cA _ am r (mS M 0 0) (nI i)) (cwV 1 htT (kg_V m_ml_X6_91 m_im_X6_isSwitch m_sl_X6_isSwitch m_in_X6 m_cd_X6_isSwitch) rfl rfl rfl (by decide +kernel) ⟨Nat.le_of_ble_eq_true rfl, Nat.le_of_ble_eq_true rfl⟩) (kp_V hK hP hD hTB (km_rc hK hP)) rfl rfl hl.1 rfl (lv_room (Nat.le_of_ble_eq_true rfl)) dX6_unrule_7 ⟨Nat.le_of_ble_eq_true rfl, Nat.le_of_ble_eq_true rfl⟩) hD hS hA (fun r_1 x_1 H locs hq_1 hP hD hS => ?_)
  rw [hq_1.1.trans hsw1]
  rw [hq_1.2] at hP hD
  refine lv_if_eq (tgt := 29) hx hb dX6_unrule_10 (by decide) (fun c_2 => absurd c_2 (by decide)) (fun _ => ?_)
  refine lv_iload_n hx hb dX6_unrule_13 rfl (lv_at hl 2 rfl) ?_
  refine lv_iconst (v := 0) hx hb dX6_unrule_14 (by decide) ?_
  refine lv_aload_n hx hb dX6_unrule_15 rfl (lv_at hl 0 rfl) ?_
  refine km_getr hx hb htT hown hK hP 17 (by decide) rfl (htT _ m_fl_X6_50) dX6_unrule_16 ?_
  refine lv_iload_n hx hb dX6_unrule_19 rfl (lv_at hl 1 rfl) ?_
  refine km_ialdv (x := nI rc) hx hb hK hP 17 rfl rfl (show vp_in (nI (i)) 8 from ki_in (by omega) (by decide)) ((congrArg _ (ki_cl (by omega))).trans h17) dX6_unrule_20 ?_
  refine lv_iconst (v := 1) hx hb dX6_unrule_21 (by decide) ?_
  refine lv_isub hx hb dX6_unrule_22 ?_
  refine kc_i (va_runS (As := [.int (nI q), .int 0, .int ((nI rc) - 1)]) (rest := []) ⟨hx, hb, hml, hown, htT⟩ (m_isIn l D cA _ am r (mS M 0 0) (nI q) 0 ((nI rc) - 1)) (cwS 3 htT (kg_S m_ml_X6_87 m_st_X6_isIn m_in_X6 m_cd_X6_isIn) rfl rfl rfl (by decide +kernel) ⟨Nat.le_of_ble_eq_true rfl, Nat.le_of_ble_eq_true rfl⟩) (kp_S hK hP hD hTB) rfl rfl hl.1 rfl (lv_room (Nat.le_of_ble_eq_true rfl)) dX6_unrule_23 ⟨Nat.le_of_ble_eq_true rfl, Nat.le_of_ble_eq_true rfl⟩) hD hS hA (fun r_3 x_3 H locs hq_3 hP hD hS => ?_)
  rw [hq_3.1.trans (kIn_sw (i := q) (n := rc) hq (by omega) rfl)]
  rw [hq_3.2] at hP hD
  refine lv_if_ne (tgt := 35) hx hb dX6_unrule_26 (by decide) (fun _ => ?_) (fun c_4 => absurd c_4 (by decide))
  refine lv_iload_n hx hb dX6_unrule_35 rfl (lv_at hl 1 rfl) ?_
  refine lv_iconst (v := 5) hx hb dX6_unrule_36 (by decide) ?_
  refine lv_imul hx hb dX6_unrule_37 ?_
  rw [show ((nI i) * 5 : Int32) = nI (5 * i) from (pk_mul i 5).trans (congrArg nI (by omega))]
  refine lv_iload_n hx hb dX6_unrule_38 rfl (lv_at hl 2 rfl) ?_
  refine lv_iadd hx hb dX6_unrule_39 ?_
  rw [show ((nI (5 * i)) + (nI q) : Int32) = nI (5 * i + q) from (nI_add (5 * i) q).trans (congrArg nI (by omega))]
  refine lv_istore_n (lv' := [(3, .int (nI (5 * i + q))), (0, .ref am), (1, .int (nI i)), (2, .int (nI q))]) hx hb dX6_unrule_40 rfl hl (by decide) rfl (fun ls hl => ?_)
  refine lv_iload_n hx hb dX6_unrule_41 rfl (lv_at hl 2 rfl) ?_
  refine lv_iconst (v := 5) hx hb dX6_unrule_42 (by decide) ?_
  refine lv_imul hx hb dX6_unrule_43 ?_
  rw [show ((nI i) * 5 : Int32) = nI (5 * i) from (pk_mul i 5).trans (congrArg nI (by omega))]
  refine lv_aload_n hx hb dX6_unrule_44 rfl (lv_at hl 1 rfl) ?_
  refine km_getr hx hb htT hown hK hP 17 (by decide) rfl (htT _ m_fl_X6_50) dX6_unrule_45 ?_
  refine lv_iload_n hx hb dX6_unrule_48 rfl (lv_at hl 2 rfl) ?_
  refine km_ialdv (x := nI rc) hx hb hK hP 17 rfl rfl (show vp_in (nI (i)) 8 from ki_in (by omega) (by decide)) ((congrArg _ (ki_cl (by omega))).trans h17) dX6_unrule_49 ?_
  refine lv_iadd hx hb dX6_unrule_50 ?_
  rw [show ((nI (5 * i)) + (nI rc) : Int32) = nI (5 * i + rc) from (nI_add (5 * i) rc).trans (congrArg nI (by omega))]
  refine lv_istore (lv' := [(4, .int (nI (5 * i + rc))), (3, .int (nI (5 * i + q))), (0, .ref am), (1, .int (nI i)), (2, .int (nI q))]) hx hb dX6_unrule_51 hl (by decide) rfl (fun ls hl => ?_)
  refine lv_aload_n hx hb dX6_unrule_53 rfl (lv_at hl 2 rfl) ?_
  refine km_getr hx hb htT hown hK hP 18 (by decide) rfl (htT _ m_fl_X6_53) dX6_unrule_54 ?_
  refine lv_iload_n hx hb dX6_unrule_57 rfl (lv_at hl 1 rfl) ?_
  refine lv_iload hx hb dX6_unrule_58 (lv_at hl 0 rfl) ?_
  refine kc_v (va_runS (As := [.ref (r 18), .int (nI (5 * i + q)), .int (nI (5 * i + rc))]) (rest := []) ⟨hx, hb, hml, hown, htT⟩ (m_moveX_18 l D cA _ am r (mS M 0 0) (5 * i + q) (5 * i + rc) (by omega) (by omega)) (cwS 3 htT (kg_S m_ml_X6_132 m_st_X6_moveUp m_in_X6 m_cd_X6_moveUp) rfl rfl rfl (by decide +kernel) ⟨Nat.le_of_ble_eq_true rfl, Nat.le_of_ble_eq_true rfl⟩) (kp_S hK hP hD hTB) rfl rfl hl.1 rfl (lv_room (Nat.le_of_ble_eq_true rfl)) dX6_unrule_60 ⟨Nat.le_of_ble_eq_true rfl, Nat.le_of_ble_eq_true rfl⟩) hD hS hA (fun x_5 H locs hq_5 hP hD hS => ?_)
  rw [hq_5] at hP hD
  refine lv_aload_n hx hb dX6_unrule_63 rfl (lv_at hl 2 rfl) ?_
  refine km_getr hx hb htT hown hK hP 19 (by decide) rfl (htT _ m_fl_X6_56) dX6_unrule_64 ?_
  refine lv_iload_n hx hb dX6_unrule_67 rfl (lv_at hl 1 rfl) ?_
  refine lv_iload hx hb dX6_unrule_68 (lv_at hl 0 rfl) ?_
  refine kc_v (va_runS (As := [.ref (r 19), .int (nI (5 * i + q)), .int (nI (5 * i + rc))]) (rest := []) ⟨hx, hb, hml, hown, htT⟩ (m_moveX_19 l D cA _ am r (mU (mS M 0 0) 18 (rMv (M.2 18) (5 * i + q) (5 * i + rc - (5 * i + q) - 1))) (5 * i + q) (5 * i + rc) (by omega) (by omega)) (cwS 3 htT (kg_S m_ml_X6_132 m_st_X6_moveUp m_in_X6 m_cd_X6_moveUp) rfl rfl rfl (by decide +kernel) ⟨Nat.le_of_ble_eq_true rfl, Nat.le_of_ble_eq_true rfl⟩) (kp_S hK hP hD hTB) rfl rfl hl.1 rfl (lv_room (Nat.le_of_ble_eq_true rfl)) dX6_unrule_70 ⟨Nat.le_of_ble_eq_true rfl, Nat.le_of_ble_eq_true rfl⟩) hD hS hA (fun x_6 H locs hq_6 hP hD hS => ?_)
  rw [hq_6] at hP hD
  refine lv_aload_n hx hb dX6_unrule_73 rfl (lv_at hl 2 rfl) ?_
  refine km_getr hx hb htT hown hK hP 20 (by decide) rfl (htT _ m_fl_X6_59) dX6_unrule_74 ?_
  refine lv_iload_n hx hb dX6_unrule_77 rfl (lv_at hl 1 rfl) ?_
  refine lv_iload hx hb dX6_unrule_78 (lv_at hl 0 rfl) ?_
  refine kc_v (va_runS (As := [.ref (r 20), .int (nI (5 * i + q)), .int (nI (5 * i + rc))]) (rest := []) ⟨hx, hb, hml, hown, htT⟩ (m_moveX_20 l D cA _ am r (mU (mU (mS M 0 0) 18 (rMv (M.2 18) (5 * i + q) (5 * i + rc - (5 * i + q) - 1))) 19 (rMv (M.2 19) (5 * i + q) (5 * i + rc - (5 * i + q) - 1))) (5 * i + q) (5 * i + rc) (by omega) (by omega)) (cwS 3 htT (kg_S m_ml_X6_132 m_st_X6_moveUp m_in_X6 m_cd_X6_moveUp) rfl rfl rfl (by decide +kernel) ⟨Nat.le_of_ble_eq_true rfl, Nat.le_of_ble_eq_true rfl⟩) (kp_S hK hP hD hTB) rfl rfl hl.1 rfl (lv_room (Nat.le_of_ble_eq_true rfl)) dX6_unrule_80 ⟨Nat.le_of_ble_eq_true rfl, Nat.le_of_ble_eq_true rfl⟩) hD hS hA (fun x_7 H locs hq_7 hP hD hS => ?_)
  rw [hq_7] at hP hD
  refine lv_aload_n hx hb dX6_unrule_83 rfl (lv_at hl 2 rfl) ?_
  refine km_getr hx hb htT hown hK hP 21 (by decide) rfl (htT _ m_fl_X6_62) dX6_unrule_84 ?_
  refine lv_iload_n hx hb dX6_unrule_87 rfl (lv_at hl 1 rfl) ?_
  refine lv_iload hx hb dX6_unrule_88 (lv_at hl 0 rfl) ?_
  refine kc_v (va_runS (As := [.ref (r 21), .int (nI (5 * i + q)), .int (nI (5 * i + rc))]) (rest := []) ⟨hx, hb, hml, hown, htT⟩ (m_moveX_21 l D cA _ am r (mU (mU (mU (mS M 0 0) 18 (rMv (M.2 18) (5 * i + q) (5 * i + rc - (5 * i + q) - 1))) 19 (rMv (M.2 19) (5 * i + q) (5 * i + rc - (5 * i + q) - 1))) 20 (rMv (M.2 20) (5 * i + q) (5 * i + rc - (5 * i + q) - 1))) (5 * i + q) (5 * i + rc) (by omega) (by omega)) (cwS 3 htT (kg_S m_ml_X6_132 m_st_X6_moveUp m_in_X6 m_cd_X6_moveUp) rfl rfl rfl (by decide +kernel) ⟨Nat.le_of_ble_eq_true rfl, Nat.le_of_ble_eq_true rfl⟩) (kp_S hK hP hD hTB) rfl rfl hl.1 rfl (lv_room (Nat.le_of_ble_eq_true rfl)) dX6_unrule_90 ⟨Nat.le_of_ble_eq_true rfl, Nat.le_of_ble_eq_true rfl⟩) hD hS hA (fun x_8 H locs hq_8 hP hD hS => ?_)
  rw [hq_8] at hP hD
  refine lv_aload_n hx hb dX6_unrule_93 rfl (lv_at hl 2 rfl) ?_
  refine km_getr hx hb htT hown hK hP 17 (by decide) rfl (htT _ m_fl_X6_50) dX6_unrule_94 ?_
  refine lv_iload_n hx hb dX6_unrule_97 rfl (lv_at hl 3 rfl) ?_
  refine lv_dup2_11 hx hb dX6_unrule_98 rfl rfl ?_
  refine km_ialdv (x := nI rc) hx hb hK hP 17 rfl rfl (show vp_in (nI (i)) 8 from ki_in (by omega) (by decide)) ((congrArg _ (ki_cl (by omega))).trans h17) dX6_unrule_99 ?_
  refine lv_iconst (v := 1) hx hb dX6_unrule_100 (by decide) ?_
  refine lv_isub hx hb dX6_unrule_101 ?_
  rw [show ((nI rc) - 1 : Int32) = nI (rc - 1) from pk_sub (a := rc) (b := 1) (by omega)]
  refine lv_dup_x2 hx hb dX6_unrule_102 rfl rfl rfl ?_
  refine km_iast hx hb hK hP hD hS 17 rfl rfl (show vp_in (nI (i)) 8 from ki_in (by omega) (by decide)) dX6_unrule_103 (fun H locs hP hD hS => ?_)
  rw [ki_cl (n := i) (by omega)] at hP hD
  exact W.iret (v := nI (rc - 1)) hx hb hr (fun t ht hW => ⟨⟨nI (rc - 1), mR (mU (mU (mU (mU (mS M 0 0) 18 (rMv (M.2 18) (5 * i + q) (5 * i + rc - (5 * i + q) - 1))) 19 (rMv (M.2 19) (5 * i + q) (5 * i + rc - (5 * i + q) - 1))) 20 (rMv (M.2 20) (5 * i + q) (5 * i + rc - (5 * i + q) - 1))) 21 (rMv (M.2 21) (5 * i + q) (5 * i + rc - (5 * i + q) - 1))) 17 i (nI (rc - 1)), rfl, ⟨rfl, rfl⟩, by rw [ht]; exact hP, va_K.moved hW.alike hK, hD⟩, hS.F ht⟩) hS.2.2 dX6_unrule_104

set_option maxRecDepth 100000 in
set_option maxHeartbeats 4000000 in
theorem m_unrule_1 (l : Launch) (D : va_G) (cA : Nat → ClassId) (sz : Nat) (am : Nat) (r : Nat → Nat) (M : MSt) (n i : Nat) (hi : i < n) (hn8 : n ≤ 8) (h3 : M.1 3 = nI n) (rc : Nat) (hrc : rc ≤ 5) (h17 : M.2 17 i = nI rc) (p1 : Int32) (h1 : kIn p1 0 (nI rc - 1) = 0) : Met l yX6_unrule (Cond.code yX6_unrule cX6_unrule 5 (some .int) :: TT) ({ frames := 2, cells := 0, slots := 0, locals := 43 }) (va_Pc [.ref am, .int (nI i), .int p1] (kPre D cA (wM cA am r M) sz)) (va_Qi (fun (r_ : Int32) (x_ : MSt) => r_ = 0 ∧ x_ = mS (mS M 0 0) 0 1) (fun x_ => kB D cA (va_A (wM cA am r M) sz) (wM cA am r x_)) (va_A (wM cA am r M) sz)) 0 0 (va_A (wM cA am r M) sz) := by
  refine Met.ofW (cc := cX6_unrule) (maxL := 5) (ret := (some .int)) (by decide) rfl ?_
  intro p e s m args below meth c s₁ B hml hv
  obtain ⟨rfl, hsz, hP, hK, hD0, hTB⟩ := hv
  have hx := B.exec
  have hb := B.bytes
  have hr := B.returns
  have hts := atoms_spec (ws := Cond.code yX6_unrule cX6_unrule 5 (some .int) :: TT) B.pre
  have htT : ∀ w ∈ TT, w.before _ s = true := fun w h => hts w (List.mem_cons_of_mem _ h)
  have hown : s.vm.findClass RX6 = some m.cls := findClass_of_methodNamed B.named
  have hlocks := B.notSynchronized
  subst hsz
  have hD := hD0.self (sz := s.heap.size)
  generalize hAe : va_A (wM cA am r M) s.heap.size = A at hD ⊢
  have hA : ∀ q : Nat, s.heap.size ≤ q → A q := fun q h => by rw [← hAe]; exact Or.inr h
  have hS : va_S A s.heap s.heap [] := va_S.rf
  have hl := lv_entry ([.ref am, .int (nI i), .int p1]) (n := 5) (Nat.le_of_ble_eq_true rfl)
  rw [lg_entry_eq]
  generalize (lg_sl ([.ref am, .int (nI i), .int p1]) ++ List.replicate (5 - (lg_sl ([.ref am, .int (nI i), .int p1])).length) Slot.unset).toArray = ls at hl ⊢
  have hl : lv_has ls 5 [(0, .ref am), (1, .int (nI i)), (2, .int p1)] := hl
  have hsw1 := kIn_sw hi hn8 h3
  refine lv_aload_n hx hb dX6_unrule_0 rfl (lv_at hl 0 rfl) ?_
  refine lv_iconst (v := 0) hx hb dX6_unrule_1 (by decide) ?_
  refine km_puti hx hb htT hown hK hP hD hS 0 (by decide) rfl (htT _ m_fl_X6_80) rfl (by decide +kernel) dX6_unrule_2 (fun H locs hP hD hS => ?_)
  refine lv_aload_n hx hb dX6_unrule_5 rfl (lv_at hl 0 rfl) ?_
  refine lv_iload_n hx hb dX6_unrule_6 rfl (lv_at hl 1 rfl) ?_
  refine kc_i (va_runV (As := [.int (nI i)]) (rest := []) ⟨hx, hb, hml, hown, htT⟩ (m_isSwitch l D cA _ am r (mS M 0 0) (nI i)) (cwV 1 htT (kg_V m_ml_X6_91 m_im_X6_isSwitch m_sl_X6_isSwitch m_in_X6 m_cd_X6_isSwitch) rfl rfl rfl (by decide +kernel) ⟨Nat.le_of_ble_eq_true rfl, Nat.le_of_ble_eq_true rfl⟩) (kp_V hK hP hD hTB (km_rc hK hP)) rfl rfl hl.1 rfl (lv_room (Nat.le_of_ble_eq_true rfl)) dX6_unrule_7 ⟨Nat.le_of_ble_eq_true rfl, Nat.le_of_ble_eq_true rfl⟩) hD hS hA (fun r_1 x_1 H locs hq_1 hP hD hS => ?_)
  rw [hq_1.1.trans hsw1]
  rw [hq_1.2] at hP hD
  refine lv_if_eq (tgt := 29) hx hb dX6_unrule_10 (by decide) (fun c_2 => absurd c_2 (by decide)) (fun _ => ?_)
  refine lv_iload_n hx hb dX6_unrule_13 rfl (lv_at hl 2 rfl) ?_
  refine lv_iconst (v := 0) hx hb dX6_unrule_14 (by decide) ?_
  refine lv_aload_n hx hb dX6_unrule_15 rfl (lv_at hl 0 rfl) ?_
  refine km_getr hx hb htT hown hK hP 17 (by decide) rfl (htT _ m_fl_X6_50) dX6_unrule_16 ?_
  refine lv_iload_n hx hb dX6_unrule_19 rfl (lv_at hl 1 rfl) ?_
  refine km_ialdv (x := nI rc) hx hb hK hP 17 rfl rfl (show vp_in (nI (i)) 8 from ki_in (by omega) (by decide)) ((congrArg _ (ki_cl (by omega))).trans h17) dX6_unrule_20 ?_
  refine lv_iconst (v := 1) hx hb dX6_unrule_21 (by decide) ?_
  refine lv_isub hx hb dX6_unrule_22 ?_
  refine kc_i (va_runS (As := [.int p1, .int 0, .int ((nI rc) - 1)]) (rest := []) ⟨hx, hb, hml, hown, htT⟩ (m_isIn l D cA _ am r (mS M 0 0) p1 0 ((nI rc) - 1)) (cwS 3 htT (kg_S m_ml_X6_87 m_st_X6_isIn m_in_X6 m_cd_X6_isIn) rfl rfl rfl (by decide +kernel) ⟨Nat.le_of_ble_eq_true rfl, Nat.le_of_ble_eq_true rfl⟩) (kp_S hK hP hD hTB) rfl rfl hl.1 rfl (lv_room (Nat.le_of_ble_eq_true rfl)) dX6_unrule_23 ⟨Nat.le_of_ble_eq_true rfl, Nat.le_of_ble_eq_true rfl⟩) hD hS hA (fun r_3 x_3 H locs hq_3 hP hD hS => ?_)
  rw [hq_3.1.trans h1]
  rw [hq_3.2] at hP hD
  refine lv_if_ne (tgt := 35) hx hb dX6_unrule_26 (by decide) (fun c_4 => absurd c_4 (by decide)) (fun _ => ?_)
  refine lv_aload_n hx hb dX6_unrule_29 rfl (lv_at hl 0 rfl) ?_
  refine lv_iconst (v := 1) hx hb dX6_unrule_30 (by decide) ?_
  refine kc_i (va_runV (As := [.int 1]) (rest := []) ⟨hx, hb, hml, hown, htT⟩ (m_no l D cA _ am r (mS M 0 0) 1) (cwV 1 htT (kg_V m_ml_X6_95 m_im_X6_no m_sl_X6_no m_in_X6 m_cd_X6_no) rfl rfl rfl (by decide +kernel) ⟨Nat.le_of_ble_eq_true rfl, Nat.le_of_ble_eq_true rfl⟩) (kp_V hK hP hD hTB (km_rc hK hP)) rfl rfl hl.1 rfl (lv_room (Nat.le_of_ble_eq_true rfl)) dX6_unrule_31 ⟨Nat.le_of_ble_eq_true rfl, Nat.le_of_ble_eq_true rfl⟩) hD hS hA (fun r_5 x_5 H locs hq_5 hP hD hS => ?_)
  rw [hq_5.1]
  rw [hq_5.2] at hP hD
  exact W.iret (v := 0) hx hb hr (fun t ht hW => ⟨⟨0, mS (mS M 0 0) 0 1, rfl, ⟨rfl, rfl⟩, by rw [ht]; exact hP, va_K.moved hW.alike hK, hD⟩, hS.F ht⟩) hS.2.2 dX6_unrule_34

set_option maxRecDepth 100000 in
set_option maxHeartbeats 4000000 in
theorem m_place (l : Launch) (D : va_G) (cA : Nat → ClassId) (sz : Nat) (am : Nat) (r : Nat → Nat) (M : MSt) (n i : Nat) (hi : i < n) (hn8 : n ≤ 8) (h3 : M.1 3 = nI n) (p1 p2 p3 : Int32) (hn1 : ¬ p1 = -1) (hin : kIn p1 (-1) 2 = 1) (hb0 : ¬ p2 < 0) (hb1 : ¬ p3 < p2) (hb2 : ¬ 1000 < p3) (htk : rTak M.2 i p1 p2 p3 n 0 = 0) : Met l yX6_place (Cond.code yX6_place cX6_place 6 (some .int) :: TT) ({ frames := 2, cells := 0, slots := 0, locals := 43 }) (va_Pc [.ref am, .int (nI i), .int p1, .int p2, .int p3] (kPre D cA (wM cA am r M) sz)) (va_Qi (fun (r_ : Int32) (x_ : MSt) => r_ = M.2 12 i ∧ x_ = mR (mR (mR (mS M 0 0) 12 i p1) 13 i p2) 14 i p3) (fun x_ => kB D cA (va_A (wM cA am r M) sz) (wM cA am r x_)) (va_A (wM cA am r M) sz)) 0 0 (va_A (wM cA am r M) sz) := by
  refine Met.ofW (cc := cX6_place) (maxL := 6) (ret := (some .int)) (by decide) rfl ?_
  intro p e s m args below meth c s₁ B hml hv
  obtain ⟨rfl, hsz, hP, hK, hD0, hTB⟩ := hv
  have hx := B.exec
  have hb := B.bytes
  have hr := B.returns
  have hts := atoms_spec (ws := Cond.code yX6_place cX6_place 6 (some .int) :: TT) B.pre
  have htT : ∀ w ∈ TT, w.before _ s = true := fun w h => hts w (List.mem_cons_of_mem _ h)
  have hown : s.vm.findClass RX6 = some m.cls := findClass_of_methodNamed B.named
  have hlocks := B.notSynchronized
  subst hsz
  have hD := hD0.self (sz := s.heap.size)
  generalize hAe : va_A (wM cA am r M) s.heap.size = A at hD ⊢
  have hA : ∀ q : Nat, s.heap.size ≤ q → A q := fun q h => by rw [← hAe]; exact Or.inr h
  have hS : va_S A s.heap s.heap [] := va_S.rf
  have hl := lv_entry ([.ref am, .int (nI i), .int p1, .int p2, .int p3]) (n := 6) (Nat.le_of_ble_eq_true rfl)
  rw [lg_entry_eq]
  generalize (lg_sl ([.ref am, .int (nI i), .int p1, .int p2, .int p3]) ++ List.replicate (6 - (lg_sl ([.ref am, .int (nI i), .int p1, .int p2, .int p3])).length) Slot.unset).toArray = ls at hl ⊢
  have hl : lv_has ls 6 [(0, .ref am), (1, .int (nI i)), (2, .int p1), (3, .int p2), (4, .int p3)] := hl
  have hsw1 := kIn_sw hi hn8 h3
  refine lv_aload_n hx hb dX6_place_0 rfl (lv_at hl 0 rfl) ?_
  refine lv_iconst (v := 0) hx hb dX6_place_1 (by decide) ?_
  refine km_puti hx hb htT hown hK hP hD hS 0 (by decide) rfl (htT _ m_fl_X6_80) rfl (by decide +kernel) dX6_place_2 (fun H locs hP hD hS => ?_)
  refine lv_aload_n hx hb dX6_place_5 rfl (lv_at hl 0 rfl) ?_
  refine lv_iload_n hx hb dX6_place_6 rfl (lv_at hl 1 rfl) ?_
  refine kc_i (va_runV (As := [.int (nI i)]) (rest := []) ⟨hx, hb, hml, hown, htT⟩ (m_isSwitch l D cA _ am r (mS M 0 0) (nI i)) (cwV 1 htT (kg_V m_ml_X6_91 m_im_X6_isSwitch m_sl_X6_isSwitch m_in_X6 m_cd_X6_isSwitch) rfl rfl rfl (by decide +kernel) ⟨Nat.le_of_ble_eq_true rfl, Nat.le_of_ble_eq_true rfl⟩) (kp_V hK hP hD hTB (km_rc hK hP)) rfl rfl hl.1 rfl (lv_room (Nat.le_of_ble_eq_true rfl)) dX6_place_7 ⟨Nat.le_of_ble_eq_true rfl, Nat.le_of_ble_eq_true rfl⟩) hD hS hA (fun r_1 x_1 H locs hq_1 hP hD hS => ?_)
  rw [hq_1.1.trans hsw1]
  rw [hq_1.2] at hP hD
  refine lv_if_ne (tgt := 19) hx hb dX6_place_10 (by decide) (fun _ => ?_) (fun c_2 => absurd c_2 (by decide))
  refine lv_iload_n hx hb dX6_place_19 rfl (lv_at hl 2 rfl) ?_
  refine lv_iconst (v := (-1)) hx hb dX6_place_20 (by decide) ?_
  refine lv_iconst (v := 2) hx hb dX6_place_21 (by decide) ?_
  refine kc_i (va_runS (As := [.int p1, .int (-1), .int 2]) (rest := []) ⟨hx, hb, hml, hown, htT⟩ (m_isIn l D cA _ am r (mS M 0 0) p1 (-1) 2) (cwS 3 htT (kg_S m_ml_X6_87 m_st_X6_isIn m_in_X6 m_cd_X6_isIn) rfl rfl rfl (by decide +kernel) ⟨Nat.le_of_ble_eq_true rfl, Nat.le_of_ble_eq_true rfl⟩) (kp_S hK hP hD hTB) rfl rfl hl.1 rfl (lv_room (Nat.le_of_ble_eq_true rfl)) dX6_place_22 ⟨Nat.le_of_ble_eq_true rfl, Nat.le_of_ble_eq_true rfl⟩) hD hS hA (fun r_3 x_3 H locs hq_3 hP hD hS => ?_)
  rw [hq_3.1.trans hin]
  rw [hq_3.2] at hP hD
  refine lv_if_eq (tgt := 51) hx hb dX6_place_25 (by decide) (fun c_4 => absurd c_4 (by decide)) (fun _ => ?_)
  refine lv_iload_n hx hb dX6_place_28 rfl (lv_at hl 2 rfl) ?_
  refine lv_iconst (v := (-1)) hx hb dX6_place_29 (by decide) ?_
  refine lv_icmp_eq (tgt := 57) hx hb dX6_place_30 (by decide) (fun c_5 => ?_) (fun c_5 => ?_)
  · exact absurd c_5 hn1
  · refine lv_iload_n hx hb dX6_place_33 rfl (lv_at hl 3 rfl) ?_
    refine lv_if_lt (tgt := 51) hx hb dX6_place_34 (by decide) (fun c_6 => ?_) (fun c_6 => ?_)
    · exact absurd c_6 hb0
    · refine lv_iload_n hx hb dX6_place_37 rfl (lv_at hl 3 rfl) ?_
      refine lv_iload hx hb dX6_place_38 (lv_at hl 4 rfl) ?_
      refine lv_icmp_gt (tgt := 51) hx hb dX6_place_40 (by decide) (fun c_7 => ?_) (fun c_7 => ?_)
      · exact absurd c_7 hb1
      · refine lv_iload hx hb dX6_place_43 (lv_at hl 4 rfl) ?_
        refine lv_sipush (v := 1000) hx hb dX6_place_45 (by decide) ?_
        refine lv_icmp_le (tgt := 57) hx hb dX6_place_48 (by decide) (fun c_8 => ?_) (fun c_8 => ?_)
        · replace c_8 := Int32.not_lt.mpr c_8
          refine lv_iconst (v := 0) hx hb dX6_place_57 (by decide) ?_
          refine lv_istore (lv' := [(5, .int 0), (0, .ref am), (1, .int (nI i)), (2, .int p1), (3, .int p2), (4, .int p3)]) hx hb dX6_place_58 hl (by decide) rfl (fun ls hl => ?_)
          refine kz_loop 60 (fun N9 H locs ls => ∃ (j : Nat), N9 = n - j ∧ j ≤ n ∧ rTak M.2 i p1 p2 p3 n 0 = rTak M.2 i p1 p2 p3 (n - j) j ∧ va_P D vwCl (wM cA am r (mS M 0 0)) H ∧ va_D A (wM cA am r (mS M 0 0)) ∧ va_S A s.heap H locs ∧ lv_has ls 6 [(5, .int (nI j)), (4, .int p3), (3, .int p2), (2, .int p1), (1, .int (nI i)), (0, .ref am)]) (fun N9 ih_60 H locs ls hI => ?_) ⟨0, rfl, by omega, rfl, hP, hD, hS, lv_sub hl [0, 5, 4, 3, 2, 1] rfl⟩
          obtain ⟨j, hn9, hj, hF, hP, hD, hS, hl⟩ := hI
          refine lv_iload hx hb dX6_place_60 (lv_at hl 0 rfl) ?_
          refine lv_aload_n hx hb dX6_place_62 rfl (lv_at hl 5 rfl) ?_
          refine km_getiv (x := nI n) hx hb htT hown hK hP 3 (by decide) rfl (htT _ m_fl_X6_84) h3 dX6_place_63 ?_
          refine lv_icmp_ge (tgt := 129) hx hb dX6_place_66 (by decide) (fun c_9 => ?_) (fun c_9 => ?_)
          · replace c_9 := (nI_leI (a := n) (b := j) (by omega) (by omega)).mp c_9
            refine lv_aload_n hx hb dX6_place_129 rfl (lv_at hl 5 rfl) ?_
            refine km_getr hx hb htT hown hK hP 12 (by decide) rfl (htT _ m_fl_X6_35) dX6_place_130 ?_
            refine lv_iload_n hx hb dX6_place_133 rfl (lv_at hl 4 rfl) ?_
            refine km_ialdv (x := (M.2 12) i) hx hb hK hP 12 rfl rfl (show vp_in (nI (i)) 8 from ki_in (by omega) (by decide)) (congrArg _ (ki_cl (by omega))) dX6_place_134 ?_
            refine lv_istore (lv' := [(5, .int ((M.2 12) i)), (4, .int p3), (3, .int p2), (2, .int p1), (1, .int (nI i)), (0, .ref am)]) hx hb dX6_place_135 hl (by decide) rfl (fun ls hl => ?_)
            refine lv_aload_n hx hb dX6_place_137 rfl (lv_at hl 5 rfl) ?_
            refine km_getr hx hb htT hown hK hP 12 (by decide) rfl (htT _ m_fl_X6_35) dX6_place_138 ?_
            refine lv_iload_n hx hb dX6_place_141 rfl (lv_at hl 4 rfl) ?_
            refine lv_iload_n hx hb dX6_place_142 rfl (lv_at hl 3 rfl) ?_
            refine km_iast hx hb hK hP hD hS 12 rfl rfl (show vp_in (nI (i)) 8 from ki_in (by omega) (by decide)) dX6_place_143 (fun H locs hP hD hS => ?_)
            rw [ki_cl (n := i) (by omega)] at hP hD
            refine lv_aload_n hx hb dX6_place_144 rfl (lv_at hl 5 rfl) ?_
            refine km_getr hx hb htT hown hK hP 13 (by decide) rfl (htT _ m_fl_X6_38) dX6_place_145 ?_
            refine lv_iload_n hx hb dX6_place_148 rfl (lv_at hl 4 rfl) ?_
            refine lv_iload_n hx hb dX6_place_149 rfl (lv_at hl 3 rfl) ?_
            refine lv_iconst (v := (-1)) hx hb dX6_place_150 (by decide) ?_
            refine lv_icmp_ne (tgt := 158) hx hb dX6_place_151 (by decide) (fun c_10 => ?_) (fun c_10 => ?_)
            · refine lv_iload_n hx hb dX6_place_158 rfl (lv_at hl 2 rfl) ?_
              refine km_iast hx hb hK hP hD hS 13 rfl rfl (show vp_in (nI (i)) 8 from ki_in (by omega) (by decide)) dX6_place_159 (fun H locs hP hD hS => ?_)
              rw [ki_cl (n := i) (by omega)] at hP hD
              refine lv_aload_n hx hb dX6_place_160 rfl (lv_at hl 5 rfl) ?_
              refine km_getr hx hb htT hown hK hP 14 (by decide) rfl (htT _ m_fl_X6_41) dX6_place_161 ?_
              refine lv_iload_n hx hb dX6_place_164 rfl (lv_at hl 4 rfl) ?_
              refine lv_iload_n hx hb dX6_place_165 rfl (lv_at hl 3 rfl) ?_
              refine lv_iconst (v := (-1)) hx hb dX6_place_166 (by decide) ?_
              refine lv_icmp_ne (tgt := 174) hx hb dX6_place_167 (by decide) (fun c_11 => ?_) (fun c_11 => ?_)
              · refine lv_iload hx hb dX6_place_174 (lv_at hl 1 rfl) ?_
                refine km_iast hx hb hK hP hD hS 14 rfl rfl (show vp_in (nI (i)) 8 from ki_in (by omega) (by decide)) dX6_place_176 (fun H locs hP hD hS => ?_)
                rw [ki_cl (n := i) (by omega)] at hP hD
                refine lv_iload hx hb dX6_place_177 (lv_at hl 0 rfl) ?_
                exact W.iret (v := (M.2 12) i) hx hb hr (fun t ht hW => ⟨⟨(M.2 12) i, mR (mR (mR (mS M 0 0) 12 i p1) 13 i p2) 14 i p3, rfl, ⟨rfl, rfl⟩, by rw [ht]; exact hP, va_K.moved hW.alike hK, hD⟩, hS.F ht⟩) hS.2.2 dX6_place_179
              · exact absurd c_11 hn1
            · exact absurd c_10 hn1
          · replace c_9 : ¬ (n ≤ j) := fun h9 => c_9 ((nI_leI (a := n) (b := j) (by omega) (by omega)).mpr h9)
            refine lv_iload_n hx hb dX6_place_69 rfl (lv_at hl 3 rfl) ?_
            refine lv_iconst (v := (-1)) hx hb dX6_place_70 (by decide) ?_
            refine lv_icmp_eq (tgt := 129) hx hb dX6_place_71 (by decide) (fun c_12 => ?_) (fun c_12 => ?_)
            · exact absurd c_12 hn1
            · refine lv_iload hx hb dX6_place_74 (lv_at hl 0 rfl) ?_
              refine lv_iload_n hx hb dX6_place_76 rfl (lv_at hl 4 rfl) ?_
              refine lv_icmp_eq (tgt := 123) hx hb dX6_place_77 (by decide) (fun c_13 => ?_) (fun c_13 => ?_)
              · replace c_13 := (nI_eq (a := j) (b := i) (by omega) (by omega)).mp c_13
                refine lv_iinc (v := nI (j + 1)) (lv' := [(5, .int (nI (j + 1))), (4, .int p3), (3, .int p2), (2, .int p1), (1, .int (nI i)), (0, .ref am)]) hx hb dX6_place_123 hl (k := 0) rfl (nI_1 _) (by decide) rfl (fun ls hl => ?_)
                refine lv_goto (tgt := 60) hx hb dX6_place_126 (by decide) ?_
                have hl := lv_sub hl [0, 1, 2, 3, 4, 5] rfl
                exact ih_60 _ (by omega) H locs ls ⟨j + 1, rfl, by omega, by rw [hF, show n - j = (n - (j + 1)) + 1 by omega]; simp [rTak, kMaxI, kMinI, c_5, c_6, c_7, c_8, c_12, c_9, c_13], hP, hD, hS, hl⟩
              · replace c_13 : ¬ (j = i) := fun h9 => c_13 ((nI_eq (a := j) (b := i) (by omega) (by omega)).mpr h9)
                refine lv_aload_n hx hb dX6_place_80 rfl (lv_at hl 5 rfl) ?_
                refine km_getr hx hb htT hown hK hP 12 (by decide) rfl (htT _ m_fl_X6_35) dX6_place_81 ?_
                refine lv_iload hx hb dX6_place_84 (lv_at hl 0 rfl) ?_
                refine km_ialdv (x := (M.2 12) j) hx hb hK hP 12 rfl rfl (show vp_in (nI (j)) 8 from ki_in (by omega) (by decide)) (congrArg _ (ki_cl (by omega))) dX6_place_86 ?_
                refine lv_iload_n hx hb dX6_place_87 rfl (lv_at hl 3 rfl) ?_
                refine lv_icmp_ne (tgt := 123) hx hb dX6_place_88 (by decide) (fun c_14 => ?_) (fun c_14 => ?_)
                · refine lv_iinc (v := nI (j + 1)) (lv' := [(5, .int (nI (j + 1))), (4, .int p3), (3, .int p2), (2, .int p1), (1, .int (nI i)), (0, .ref am)]) hx hb dX6_place_123 hl (k := 0) rfl (nI_1 _) (by decide) rfl (fun ls hl => ?_)
                  refine lv_goto (tgt := 60) hx hb dX6_place_126 (by decide) ?_
                  have hl := lv_sub hl [0, 1, 2, 3, 4, 5] rfl
                  exact ih_60 _ (by omega) H locs ls ⟨j + 1, rfl, by omega, by rw [hF, show n - j = (n - (j + 1)) + 1 by omega]; simp [rTak, kMaxI, kMinI, c_5, c_6, c_7, c_8, c_12, c_14, c_9, c_13], hP, hD, hS, hl⟩
                · refine lv_iload_n hx hb dX6_place_91 rfl (lv_at hl 2 rfl) ?_
                  refine lv_aload_n hx hb dX6_place_92 rfl (lv_at hl 5 rfl) ?_
                  refine km_getr hx hb htT hown hK hP 13 (by decide) rfl (htT _ m_fl_X6_38) dX6_place_93 ?_
                  refine lv_iload hx hb dX6_place_96 (lv_at hl 0 rfl) ?_
                  refine km_ialdv (x := (M.2 13) j) hx hb hK hP 13 rfl rfl (show vp_in (nI (j)) 8 from ki_in (by omega) (by decide)) (congrArg _ (ki_cl (by omega))) dX6_place_98 ?_
                  refine va_mmax hx hb (hml.trans hl.1.symm) hown (htT _ m_ml_X6_121) (htT _ m_st_J9_max_7cf53) (htT _ m_in_Math) (htT _ m_cd_J9_max_7cf53) (Nat.le_of_ble_eq_true rfl) (Nat.le_of_ble_eq_true rfl) (Nat.le_of_ble_eq_true rfl) (Nat.le_of_ble_eq_true rfl) dX6_place_99 ?_
                  refine lv_iload hx hb dX6_place_102 (lv_at hl 1 rfl) ?_
                  refine lv_aload_n hx hb dX6_place_104 rfl (lv_at hl 5 rfl) ?_
                  refine km_getr hx hb htT hown hK hP 14 (by decide) rfl (htT _ m_fl_X6_41) dX6_place_105 ?_
                  refine lv_iload hx hb dX6_place_108 (lv_at hl 0 rfl) ?_
                  refine km_ialdv (x := (M.2 14) j) hx hb hK hP 14 rfl rfl (show vp_in (nI (j)) 8 from ki_in (by omega) (by decide)) (congrArg _ (ki_cl (by omega))) dX6_place_110 ?_
                  refine va_mmin hx hb (hml.trans hl.1.symm) hown (htT _ m_ml_X6_124) (htT _ m_st_J9_min_7cf53) (htT _ m_in_Math) (htT _ m_cd_J9_min_7cf53) (Nat.le_of_ble_eq_true rfl) (Nat.le_of_ble_eq_true rfl) (Nat.le_of_ble_eq_true rfl) (Nat.le_of_ble_eq_true rfl) dX6_place_111 ?_
                  refine lv_icmp_ge (tgt := 123) hx hb dX6_place_114 (by decide) (fun c_15 => ?_) (fun c_15 => ?_)
                  · replace c_15 := Int32.not_lt.mpr c_15
                    refine lv_iinc (v := nI (j + 1)) (lv' := [(5, .int (nI (j + 1))), (4, .int p3), (3, .int p2), (2, .int p1), (1, .int (nI i)), (0, .ref am)]) hx hb dX6_place_123 hl (k := 0) rfl (nI_1 _) (by decide) rfl (fun ls hl => ?_)
                    refine lv_goto (tgt := 60) hx hb dX6_place_126 (by decide) ?_
                    have hl := lv_sub hl [0, 1, 2, 3, 4, 5] rfl
                    exact ih_60 _ (by omega) H locs ls ⟨j + 1, rfl, by omega, by rw [hF, show n - j = (n - (j + 1)) + 1 by omega]; simp [rTak, kMaxI, kMinI, c_5, c_6, c_7, c_8, c_12, c_14, c_15, c_9, c_13], hP, hD, hS, hl⟩
                  · replace c_15 := Int32.not_le.mp c_15
                    exact absurd (show rTak M.2 i p1 p2 p3 n 0 = 1 from (by rw [hF, show n - j = (n - (j + 1)) + 1 by omega]; simp [rTak, kMaxI, kMinI, c_5, c_6, c_7, c_8, c_12, c_14, c_15, c_9, c_13])) (by rw [htk]; decide)
        · exact absurd (Int32.not_le.mp c_8) hb2

set_option maxRecDepth 100000 in
set_option maxHeartbeats 4000000 in
theorem m_place_3 (l : Launch) (D : va_G) (cA : Nat → ClassId) (sz : Nat) (am : Nat) (r : Nat → Nat) (M : MSt) (n i : Nat) (hi : i < n) (hn8 : n ≤ 8) (h3 : M.1 3 = nI n) (p1 p2 p3 : Int32) (hn1 : ¬ p1 = -1) (hin : kIn p1 (-1) 2 = 1) (hb0 : ¬ p2 < 0) (hb1 : ¬ p3 < p2) (hb2 : ¬ 1000 < p3) (htk : rTak M.2 i p1 p2 p3 n 0 = 1) : Met l yX6_place (Cond.code yX6_place cX6_place 6 (some .int) :: TT) ({ frames := 2, cells := 0, slots := 0, locals := 43 }) (va_Pc [.ref am, .int (nI i), .int p1, .int p2, .int p3] (kPre D cA (wM cA am r M) sz)) (va_Qi (fun (r_ : Int32) (x_ : MSt) => r_ = 0 ∧ x_ = mS (mS M 0 0) 0 3) (fun x_ => kB D cA (va_A (wM cA am r M) sz) (wM cA am r x_)) (va_A (wM cA am r M) sz)) 0 0 (va_A (wM cA am r M) sz) := by
  refine Met.ofW (cc := cX6_place) (maxL := 6) (ret := (some .int)) (by decide) rfl ?_
  intro p e s m args below meth c s₁ B hml hv
  obtain ⟨rfl, hsz, hP, hK, hD0, hTB⟩ := hv
  have hx := B.exec
  have hb := B.bytes
  have hr := B.returns
  have hts := atoms_spec (ws := Cond.code yX6_place cX6_place 6 (some .int) :: TT) B.pre
  have htT : ∀ w ∈ TT, w.before _ s = true := fun w h => hts w (List.mem_cons_of_mem _ h)
  have hown : s.vm.findClass RX6 = some m.cls := findClass_of_methodNamed B.named
  have hlocks := B.notSynchronized
  subst hsz
  have hD := hD0.self (sz := s.heap.size)
  generalize hAe : va_A (wM cA am r M) s.heap.size = A at hD ⊢
  have hA : ∀ q : Nat, s.heap.size ≤ q → A q := fun q h => by rw [← hAe]; exact Or.inr h
  have hS : va_S A s.heap s.heap [] := va_S.rf
  have hl := lv_entry ([.ref am, .int (nI i), .int p1, .int p2, .int p3]) (n := 6) (Nat.le_of_ble_eq_true rfl)
  rw [lg_entry_eq]
  generalize (lg_sl ([.ref am, .int (nI i), .int p1, .int p2, .int p3]) ++ List.replicate (6 - (lg_sl ([.ref am, .int (nI i), .int p1, .int p2, .int p3])).length) Slot.unset).toArray = ls at hl ⊢
  have hl : lv_has ls 6 [(0, .ref am), (1, .int (nI i)), (2, .int p1), (3, .int p2), (4, .int p3)] := hl
  have hsw1 := kIn_sw hi hn8 h3
  refine lv_aload_n hx hb dX6_place_0 rfl (lv_at hl 0 rfl) ?_
  refine lv_iconst (v := 0) hx hb dX6_place_1 (by decide) ?_
  refine km_puti hx hb htT hown hK hP hD hS 0 (by decide) rfl (htT _ m_fl_X6_80) rfl (by decide +kernel) dX6_place_2 (fun H locs hP hD hS => ?_)
  refine lv_aload_n hx hb dX6_place_5 rfl (lv_at hl 0 rfl) ?_
  refine lv_iload_n hx hb dX6_place_6 rfl (lv_at hl 1 rfl) ?_
  refine kc_i (va_runV (As := [.int (nI i)]) (rest := []) ⟨hx, hb, hml, hown, htT⟩ (m_isSwitch l D cA _ am r (mS M 0 0) (nI i)) (cwV 1 htT (kg_V m_ml_X6_91 m_im_X6_isSwitch m_sl_X6_isSwitch m_in_X6 m_cd_X6_isSwitch) rfl rfl rfl (by decide +kernel) ⟨Nat.le_of_ble_eq_true rfl, Nat.le_of_ble_eq_true rfl⟩) (kp_V hK hP hD hTB (km_rc hK hP)) rfl rfl hl.1 rfl (lv_room (Nat.le_of_ble_eq_true rfl)) dX6_place_7 ⟨Nat.le_of_ble_eq_true rfl, Nat.le_of_ble_eq_true rfl⟩) hD hS hA (fun r_1 x_1 H locs hq_1 hP hD hS => ?_)
  rw [hq_1.1.trans hsw1]
  rw [hq_1.2] at hP hD
  refine lv_if_ne (tgt := 19) hx hb dX6_place_10 (by decide) (fun _ => ?_) (fun c_2 => absurd c_2 (by decide))
  refine lv_iload_n hx hb dX6_place_19 rfl (lv_at hl 2 rfl) ?_
  refine lv_iconst (v := (-1)) hx hb dX6_place_20 (by decide) ?_
  refine lv_iconst (v := 2) hx hb dX6_place_21 (by decide) ?_
  refine kc_i (va_runS (As := [.int p1, .int (-1), .int 2]) (rest := []) ⟨hx, hb, hml, hown, htT⟩ (m_isIn l D cA _ am r (mS M 0 0) p1 (-1) 2) (cwS 3 htT (kg_S m_ml_X6_87 m_st_X6_isIn m_in_X6 m_cd_X6_isIn) rfl rfl rfl (by decide +kernel) ⟨Nat.le_of_ble_eq_true rfl, Nat.le_of_ble_eq_true rfl⟩) (kp_S hK hP hD hTB) rfl rfl hl.1 rfl (lv_room (Nat.le_of_ble_eq_true rfl)) dX6_place_22 ⟨Nat.le_of_ble_eq_true rfl, Nat.le_of_ble_eq_true rfl⟩) hD hS hA (fun r_3 x_3 H locs hq_3 hP hD hS => ?_)
  rw [hq_3.1.trans hin]
  rw [hq_3.2] at hP hD
  refine lv_if_eq (tgt := 51) hx hb dX6_place_25 (by decide) (fun c_4 => absurd c_4 (by decide)) (fun _ => ?_)
  refine lv_iload_n hx hb dX6_place_28 rfl (lv_at hl 2 rfl) ?_
  refine lv_iconst (v := (-1)) hx hb dX6_place_29 (by decide) ?_
  refine lv_icmp_eq (tgt := 57) hx hb dX6_place_30 (by decide) (fun c_5 => ?_) (fun c_5 => ?_)
  · exact absurd c_5 hn1
  · refine lv_iload_n hx hb dX6_place_33 rfl (lv_at hl 3 rfl) ?_
    refine lv_if_lt (tgt := 51) hx hb dX6_place_34 (by decide) (fun c_6 => ?_) (fun c_6 => ?_)
    · exact absurd c_6 hb0
    · refine lv_iload_n hx hb dX6_place_37 rfl (lv_at hl 3 rfl) ?_
      refine lv_iload hx hb dX6_place_38 (lv_at hl 4 rfl) ?_
      refine lv_icmp_gt (tgt := 51) hx hb dX6_place_40 (by decide) (fun c_7 => ?_) (fun c_7 => ?_)
      · exact absurd c_7 hb1
      · refine lv_iload hx hb dX6_place_43 (lv_at hl 4 rfl) ?_
        refine lv_sipush (v := 1000) hx hb dX6_place_45 (by decide) ?_
        refine lv_icmp_le (tgt := 57) hx hb dX6_place_48 (by decide) (fun c_8 => ?_) (fun c_8 => ?_)
        · replace c_8 := Int32.not_lt.mpr c_8
          refine lv_iconst (v := 0) hx hb dX6_place_57 (by decide) ?_
          refine lv_istore (lv' := [(5, .int 0), (0, .ref am), (1, .int (nI i)), (2, .int p1), (3, .int p2), (4, .int p3)]) hx hb dX6_place_58 hl (by decide) rfl (fun ls hl => ?_)
          refine kz_loop 60 (fun N9 H locs ls => ∃ (j : Nat), N9 = n - j ∧ j ≤ n ∧ rTak M.2 i p1 p2 p3 n 0 = rTak M.2 i p1 p2 p3 (n - j) j ∧ va_P D vwCl (wM cA am r (mS M 0 0)) H ∧ va_D A (wM cA am r (mS M 0 0)) ∧ va_S A s.heap H locs ∧ lv_has ls 6 [(5, .int (nI j)), (4, .int p3), (3, .int p2), (2, .int p1), (1, .int (nI i)), (0, .ref am)]) (fun N9 ih_60 H locs ls hI => ?_) ⟨0, rfl, by omega, rfl, hP, hD, hS, lv_sub hl [0, 5, 4, 3, 2, 1] rfl⟩
          obtain ⟨j, hn9, hj, hF, hP, hD, hS, hl⟩ := hI
          refine lv_iload hx hb dX6_place_60 (lv_at hl 0 rfl) ?_
          refine lv_aload_n hx hb dX6_place_62 rfl (lv_at hl 5 rfl) ?_
          refine km_getiv (x := nI n) hx hb htT hown hK hP 3 (by decide) rfl (htT _ m_fl_X6_84) h3 dX6_place_63 ?_
          refine lv_icmp_ge (tgt := 129) hx hb dX6_place_66 (by decide) (fun c_9 => ?_) (fun c_9 => ?_)
          · replace c_9 := (nI_leI (a := n) (b := j) (by omega) (by omega)).mp c_9
            exact absurd (show rTak M.2 i p1 p2 p3 n 0 = 0 from (by rw [hF, show n - j = 0 by omega]; rfl)) (by rw [htk]; decide)
          · replace c_9 : ¬ (n ≤ j) := fun h9 => c_9 ((nI_leI (a := n) (b := j) (by omega) (by omega)).mpr h9)
            refine lv_iload_n hx hb dX6_place_69 rfl (lv_at hl 3 rfl) ?_
            refine lv_iconst (v := (-1)) hx hb dX6_place_70 (by decide) ?_
            refine lv_icmp_eq (tgt := 129) hx hb dX6_place_71 (by decide) (fun c_10 => ?_) (fun c_10 => ?_)
            · exact absurd c_10 hn1
            · refine lv_iload hx hb dX6_place_74 (lv_at hl 0 rfl) ?_
              refine lv_iload_n hx hb dX6_place_76 rfl (lv_at hl 4 rfl) ?_
              refine lv_icmp_eq (tgt := 123) hx hb dX6_place_77 (by decide) (fun c_11 => ?_) (fun c_11 => ?_)
              · replace c_11 := (nI_eq (a := j) (b := i) (by omega) (by omega)).mp c_11
                refine lv_iinc (v := nI (j + 1)) (lv' := [(5, .int (nI (j + 1))), (4, .int p3), (3, .int p2), (2, .int p1), (1, .int (nI i)), (0, .ref am)]) hx hb dX6_place_123 hl (k := 0) rfl (nI_1 _) (by decide) rfl (fun ls hl => ?_)
                refine lv_goto (tgt := 60) hx hb dX6_place_126 (by decide) ?_
                have hl := lv_sub hl [0, 1, 2, 3, 4, 5] rfl
                exact ih_60 _ (by omega) H locs ls ⟨j + 1, rfl, by omega, by rw [hF, show n - j = (n - (j + 1)) + 1 by omega]; simp [rTak, kMaxI, kMinI, c_5, c_6, c_7, c_8, c_10, c_9, c_11], hP, hD, hS, hl⟩
              · replace c_11 : ¬ (j = i) := fun h9 => c_11 ((nI_eq (a := j) (b := i) (by omega) (by omega)).mpr h9)
                refine lv_aload_n hx hb dX6_place_80 rfl (lv_at hl 5 rfl) ?_
                refine km_getr hx hb htT hown hK hP 12 (by decide) rfl (htT _ m_fl_X6_35) dX6_place_81 ?_
                refine lv_iload hx hb dX6_place_84 (lv_at hl 0 rfl) ?_
                refine km_ialdv (x := (M.2 12) j) hx hb hK hP 12 rfl rfl (show vp_in (nI (j)) 8 from ki_in (by omega) (by decide)) (congrArg _ (ki_cl (by omega))) dX6_place_86 ?_
                refine lv_iload_n hx hb dX6_place_87 rfl (lv_at hl 3 rfl) ?_
                refine lv_icmp_ne (tgt := 123) hx hb dX6_place_88 (by decide) (fun c_12 => ?_) (fun c_12 => ?_)
                · refine lv_iinc (v := nI (j + 1)) (lv' := [(5, .int (nI (j + 1))), (4, .int p3), (3, .int p2), (2, .int p1), (1, .int (nI i)), (0, .ref am)]) hx hb dX6_place_123 hl (k := 0) rfl (nI_1 _) (by decide) rfl (fun ls hl => ?_)
                  refine lv_goto (tgt := 60) hx hb dX6_place_126 (by decide) ?_
                  have hl := lv_sub hl [0, 1, 2, 3, 4, 5] rfl
                  exact ih_60 _ (by omega) H locs ls ⟨j + 1, rfl, by omega, by rw [hF, show n - j = (n - (j + 1)) + 1 by omega]; simp [rTak, kMaxI, kMinI, c_5, c_6, c_7, c_8, c_10, c_12, c_9, c_11], hP, hD, hS, hl⟩
                · refine lv_iload_n hx hb dX6_place_91 rfl (lv_at hl 2 rfl) ?_
                  refine lv_aload_n hx hb dX6_place_92 rfl (lv_at hl 5 rfl) ?_
                  refine km_getr hx hb htT hown hK hP 13 (by decide) rfl (htT _ m_fl_X6_38) dX6_place_93 ?_
                  refine lv_iload hx hb dX6_place_96 (lv_at hl 0 rfl) ?_
                  refine km_ialdv (x := (M.2 13) j) hx hb hK hP 13 rfl rfl (show vp_in (nI (j)) 8 from ki_in (by omega) (by decide)) (congrArg _ (ki_cl (by omega))) dX6_place_98 ?_
                  refine va_mmax hx hb (hml.trans hl.1.symm) hown (htT _ m_ml_X6_121) (htT _ m_st_J9_max_7cf53) (htT _ m_in_Math) (htT _ m_cd_J9_max_7cf53) (Nat.le_of_ble_eq_true rfl) (Nat.le_of_ble_eq_true rfl) (Nat.le_of_ble_eq_true rfl) (Nat.le_of_ble_eq_true rfl) dX6_place_99 ?_
                  refine lv_iload hx hb dX6_place_102 (lv_at hl 1 rfl) ?_
                  refine lv_aload_n hx hb dX6_place_104 rfl (lv_at hl 5 rfl) ?_
                  refine km_getr hx hb htT hown hK hP 14 (by decide) rfl (htT _ m_fl_X6_41) dX6_place_105 ?_
                  refine lv_iload hx hb dX6_place_108 (lv_at hl 0 rfl) ?_
                  refine km_ialdv (x := (M.2 14) j) hx hb hK hP 14 rfl rfl (show vp_in (nI (j)) 8 from ki_in (by omega) (by decide)) (congrArg _ (ki_cl (by omega))) dX6_place_110 ?_
                  refine va_mmin hx hb (hml.trans hl.1.symm) hown (htT _ m_ml_X6_124) (htT _ m_st_J9_min_7cf53) (htT _ m_in_Math) (htT _ m_cd_J9_min_7cf53) (Nat.le_of_ble_eq_true rfl) (Nat.le_of_ble_eq_true rfl) (Nat.le_of_ble_eq_true rfl) (Nat.le_of_ble_eq_true rfl) dX6_place_111 ?_
                  refine lv_icmp_ge (tgt := 123) hx hb dX6_place_114 (by decide) (fun c_13 => ?_) (fun c_13 => ?_)
                  · replace c_13 := Int32.not_lt.mpr c_13
                    refine lv_iinc (v := nI (j + 1)) (lv' := [(5, .int (nI (j + 1))), (4, .int p3), (3, .int p2), (2, .int p1), (1, .int (nI i)), (0, .ref am)]) hx hb dX6_place_123 hl (k := 0) rfl (nI_1 _) (by decide) rfl (fun ls hl => ?_)
                    refine lv_goto (tgt := 60) hx hb dX6_place_126 (by decide) ?_
                    have hl := lv_sub hl [0, 1, 2, 3, 4, 5] rfl
                    exact ih_60 _ (by omega) H locs ls ⟨j + 1, rfl, by omega, by rw [hF, show n - j = (n - (j + 1)) + 1 by omega]; simp [rTak, kMaxI, kMinI, c_5, c_6, c_7, c_8, c_10, c_12, c_13, c_9, c_11], hP, hD, hS, hl⟩
                  · replace c_13 := Int32.not_le.mp c_13
                    refine lv_aload_n hx hb dX6_place_117 rfl (lv_at hl 5 rfl) ?_
                    refine lv_iconst (v := 3) hx hb dX6_place_118 (by decide) ?_
                    refine kc_i (va_runV (As := [.int 3]) (rest := []) ⟨hx, hb, hml, hown, htT⟩ (m_no l D cA _ am r (mS M 0 0) 3) (cwV 1 htT (kg_V m_ml_X6_95 m_im_X6_no m_sl_X6_no m_in_X6 m_cd_X6_no) rfl rfl rfl (by decide +kernel) ⟨Nat.le_of_ble_eq_true rfl, Nat.le_of_ble_eq_true rfl⟩) (kp_V hK hP hD hTB (km_rc hK hP)) rfl rfl hl.1 rfl (lv_room (Nat.le_of_ble_eq_true rfl)) dX6_place_119 ⟨Nat.le_of_ble_eq_true rfl, Nat.le_of_ble_eq_true rfl⟩) hD hS hA (fun r_14 x_14 H locs hq_14 hP hD hS => ?_)
                    rw [hq_14.1]
                    rw [hq_14.2] at hP hD
                    exact W.iret (v := 0) hx hb hr (fun t ht hW => ⟨⟨0, mS (mS M 0 0) 0 3, rfl, ⟨rfl, rfl⟩, by rw [ht]; exact hP, va_K.moved hW.alike hK, hD⟩, hS.F ht⟩) hS.2.2 dX6_place_122
        · exact absurd (Int32.not_le.mp c_8) hb2

set_option maxRecDepth 100000 in
set_option maxHeartbeats 4000000 in
theorem m_place_2 (l : Launch) (D : va_G) (cA : Nat → ClassId) (sz : Nat) (am : Nat) (r : Nat → Nat) (M : MSt) (n i : Nat) (hi : i < n) (hn8 : n ≤ 8) (h3 : M.1 3 = nI n) (p1 p2 p3 : Int32) (hbad : ¬ (kIn p1 (-1) 2 = 1 ∧ (p1 = -1 ∨ (¬ p2 < 0 ∧ ¬ p3 < p2 ∧ ¬ 1000 < p3)))) : Met l yX6_place (Cond.code yX6_place cX6_place 6 (some .int) :: TT) ({ frames := 2, cells := 0, slots := 0, locals := 43 }) (va_Pc [.ref am, .int (nI i), .int p1, .int p2, .int p3] (kPre D cA (wM cA am r M) sz)) (va_Qi (fun (r_ : Int32) (x_ : MSt) => r_ = 0 ∧ x_ = mS (mS M 0 0) 0 2) (fun x_ => kB D cA (va_A (wM cA am r M) sz) (wM cA am r x_)) (va_A (wM cA am r M) sz)) 0 0 (va_A (wM cA am r M) sz) := by
  refine Met.ofW (cc := cX6_place) (maxL := 6) (ret := (some .int)) (by decide) rfl ?_
  intro p e s m args below meth c s₁ B hml hv
  obtain ⟨rfl, hsz, hP, hK, hD0, hTB⟩ := hv
  have hx := B.exec
  have hb := B.bytes
  have hr := B.returns
  have hts := atoms_spec (ws := Cond.code yX6_place cX6_place 6 (some .int) :: TT) B.pre
  have htT : ∀ w ∈ TT, w.before _ s = true := fun w h => hts w (List.mem_cons_of_mem _ h)
  have hown : s.vm.findClass RX6 = some m.cls := findClass_of_methodNamed B.named
  have hlocks := B.notSynchronized
  subst hsz
  have hD := hD0.self (sz := s.heap.size)
  generalize hAe : va_A (wM cA am r M) s.heap.size = A at hD ⊢
  have hA : ∀ q : Nat, s.heap.size ≤ q → A q := fun q h => by rw [← hAe]; exact Or.inr h
  have hS : va_S A s.heap s.heap [] := va_S.rf
  have hl := lv_entry ([.ref am, .int (nI i), .int p1, .int p2, .int p3]) (n := 6) (Nat.le_of_ble_eq_true rfl)
  rw [lg_entry_eq]
  generalize (lg_sl ([.ref am, .int (nI i), .int p1, .int p2, .int p3]) ++ List.replicate (6 - (lg_sl ([.ref am, .int (nI i), .int p1, .int p2, .int p3])).length) Slot.unset).toArray = ls at hl ⊢
  have hl : lv_has ls 6 [(0, .ref am), (1, .int (nI i)), (2, .int p1), (3, .int p2), (4, .int p3)] := hl
  have hsw1 := kIn_sw hi hn8 h3
  refine lv_aload_n hx hb dX6_place_0 rfl (lv_at hl 0 rfl) ?_
  refine lv_iconst (v := 0) hx hb dX6_place_1 (by decide) ?_
  refine km_puti hx hb htT hown hK hP hD hS 0 (by decide) rfl (htT _ m_fl_X6_80) rfl (by decide +kernel) dX6_place_2 (fun H locs hP hD hS => ?_)
  refine lv_aload_n hx hb dX6_place_5 rfl (lv_at hl 0 rfl) ?_
  refine lv_iload_n hx hb dX6_place_6 rfl (lv_at hl 1 rfl) ?_
  refine kc_i (va_runV (As := [.int (nI i)]) (rest := []) ⟨hx, hb, hml, hown, htT⟩ (m_isSwitch l D cA _ am r (mS M 0 0) (nI i)) (cwV 1 htT (kg_V m_ml_X6_91 m_im_X6_isSwitch m_sl_X6_isSwitch m_in_X6 m_cd_X6_isSwitch) rfl rfl rfl (by decide +kernel) ⟨Nat.le_of_ble_eq_true rfl, Nat.le_of_ble_eq_true rfl⟩) (kp_V hK hP hD hTB (km_rc hK hP)) rfl rfl hl.1 rfl (lv_room (Nat.le_of_ble_eq_true rfl)) dX6_place_7 ⟨Nat.le_of_ble_eq_true rfl, Nat.le_of_ble_eq_true rfl⟩) hD hS hA (fun r_1 x_1 H locs hq_1 hP hD hS => ?_)
  rw [hq_1.1.trans hsw1]
  rw [hq_1.2] at hP hD
  refine lv_if_ne (tgt := 19) hx hb dX6_place_10 (by decide) (fun _ => ?_) (fun c_2 => absurd c_2 (by decide))
  refine lv_iload_n hx hb dX6_place_19 rfl (lv_at hl 2 rfl) ?_
  refine lv_iconst (v := (-1)) hx hb dX6_place_20 (by decide) ?_
  refine lv_iconst (v := 2) hx hb dX6_place_21 (by decide) ?_
  refine kc_i (va_runS (As := [.int p1, .int (-1), .int 2]) (rest := []) ⟨hx, hb, hml, hown, htT⟩ (m_isIn l D cA _ am r (mS M 0 0) p1 (-1) 2) (cwS 3 htT (kg_S m_ml_X6_87 m_st_X6_isIn m_in_X6 m_cd_X6_isIn) rfl rfl rfl (by decide +kernel) ⟨Nat.le_of_ble_eq_true rfl, Nat.le_of_ble_eq_true rfl⟩) (kp_S hK hP hD hTB) rfl rfl hl.1 rfl (lv_room (Nat.le_of_ble_eq_true rfl)) dX6_place_22 ⟨Nat.le_of_ble_eq_true rfl, Nat.le_of_ble_eq_true rfl⟩) hD hS hA (fun r_3 x_3 H locs hq_3 hP hD hS => ?_)
  rw [hq_3.1]
  rw [hq_3.2] at hP hD
  refine lv_if_eq (tgt := 51) hx hb dX6_place_25 (by decide) (fun c_4 => ?_) (fun c_4 => ?_)
  · refine lv_aload_n hx hb dX6_place_51 rfl (lv_at hl 0 rfl) ?_
    refine lv_iconst (v := 2) hx hb dX6_place_52 (by decide) ?_
    refine kc_i (va_runV (As := [.int 2]) (rest := []) ⟨hx, hb, hml, hown, htT⟩ (m_no l D cA _ am r (mS M 0 0) 2) (cwV 1 htT (kg_V m_ml_X6_95 m_im_X6_no m_sl_X6_no m_in_X6 m_cd_X6_no) rfl rfl rfl (by decide +kernel) ⟨Nat.le_of_ble_eq_true rfl, Nat.le_of_ble_eq_true rfl⟩) (kp_V hK hP hD hTB (km_rc hK hP)) rfl rfl hl.1 rfl (lv_room (Nat.le_of_ble_eq_true rfl)) dX6_place_53 ⟨Nat.le_of_ble_eq_true rfl, Nat.le_of_ble_eq_true rfl⟩) hD hS hA (fun r_5 x_5 H locs hq_5 hP hD hS => ?_)
    rw [hq_5.1]
    rw [hq_5.2] at hP hD
    exact W.iret (v := 0) hx hb hr (fun t ht hW => ⟨⟨0, mS (mS M 0 0) 0 2, rfl, ⟨rfl, rfl⟩, by rw [ht]; exact hP, va_K.moved hW.alike hK, hD⟩, hS.F ht⟩) hS.2.2 dX6_place_56
  · refine lv_iload_n hx hb dX6_place_28 rfl (lv_at hl 2 rfl) ?_
    refine lv_iconst (v := (-1)) hx hb dX6_place_29 (by decide) ?_
    refine lv_icmp_eq (tgt := 57) hx hb dX6_place_30 (by decide) (fun c_6 => ?_) (fun c_6 => ?_)
    · exact absurd ⟨kIn_1 c_4, Or.inl c_6⟩ hbad
    · refine lv_iload_n hx hb dX6_place_33 rfl (lv_at hl 3 rfl) ?_
      refine lv_if_lt (tgt := 51) hx hb dX6_place_34 (by decide) (fun c_7 => ?_) (fun c_7 => ?_)
      · refine lv_aload_n hx hb dX6_place_51 rfl (lv_at hl 0 rfl) ?_
        refine lv_iconst (v := 2) hx hb dX6_place_52 (by decide) ?_
        refine kc_i (va_runV (As := [.int 2]) (rest := []) ⟨hx, hb, hml, hown, htT⟩ (m_no l D cA _ am r (mS M 0 0) 2) (cwV 1 htT (kg_V m_ml_X6_95 m_im_X6_no m_sl_X6_no m_in_X6 m_cd_X6_no) rfl rfl rfl (by decide +kernel) ⟨Nat.le_of_ble_eq_true rfl, Nat.le_of_ble_eq_true rfl⟩) (kp_V hK hP hD hTB (km_rc hK hP)) rfl rfl hl.1 rfl (lv_room (Nat.le_of_ble_eq_true rfl)) dX6_place_53 ⟨Nat.le_of_ble_eq_true rfl, Nat.le_of_ble_eq_true rfl⟩) hD hS hA (fun r_8 x_8 H locs hq_8 hP hD hS => ?_)
        rw [hq_8.1]
        rw [hq_8.2] at hP hD
        exact W.iret (v := 0) hx hb hr (fun t ht hW => ⟨⟨0, mS (mS M 0 0) 0 2, rfl, ⟨rfl, rfl⟩, by rw [ht]; exact hP, va_K.moved hW.alike hK, hD⟩, hS.F ht⟩) hS.2.2 dX6_place_56
      · refine lv_iload_n hx hb dX6_place_37 rfl (lv_at hl 3 rfl) ?_
        refine lv_iload hx hb dX6_place_38 (lv_at hl 4 rfl) ?_
        refine lv_icmp_gt (tgt := 51) hx hb dX6_place_40 (by decide) (fun c_9 => ?_) (fun c_9 => ?_)
        · refine lv_aload_n hx hb dX6_place_51 rfl (lv_at hl 0 rfl) ?_
          refine lv_iconst (v := 2) hx hb dX6_place_52 (by decide) ?_
          refine kc_i (va_runV (As := [.int 2]) (rest := []) ⟨hx, hb, hml, hown, htT⟩ (m_no l D cA _ am r (mS M 0 0) 2) (cwV 1 htT (kg_V m_ml_X6_95 m_im_X6_no m_sl_X6_no m_in_X6 m_cd_X6_no) rfl rfl rfl (by decide +kernel) ⟨Nat.le_of_ble_eq_true rfl, Nat.le_of_ble_eq_true rfl⟩) (kp_V hK hP hD hTB (km_rc hK hP)) rfl rfl hl.1 rfl (lv_room (Nat.le_of_ble_eq_true rfl)) dX6_place_53 ⟨Nat.le_of_ble_eq_true rfl, Nat.le_of_ble_eq_true rfl⟩) hD hS hA (fun r_10 x_10 H locs hq_10 hP hD hS => ?_)
          rw [hq_10.1]
          rw [hq_10.2] at hP hD
          exact W.iret (v := 0) hx hb hr (fun t ht hW => ⟨⟨0, mS (mS M 0 0) 0 2, rfl, ⟨rfl, rfl⟩, by rw [ht]; exact hP, va_K.moved hW.alike hK, hD⟩, hS.F ht⟩) hS.2.2 dX6_place_56
        · refine lv_iload hx hb dX6_place_43 (lv_at hl 4 rfl) ?_
          refine lv_sipush (v := 1000) hx hb dX6_place_45 (by decide) ?_
          refine lv_icmp_le (tgt := 57) hx hb dX6_place_48 (by decide) (fun c_11 => ?_) (fun c_11 => ?_)
          · replace c_11 := Int32.not_lt.mpr c_11
            exact absurd ⟨kIn_1 c_4, Or.inr ⟨c_7, c_9, c_11⟩⟩ hbad
          · replace c_11 := Int32.not_le.mp c_11
            refine lv_aload_n hx hb dX6_place_51 rfl (lv_at hl 0 rfl) ?_
            refine lv_iconst (v := 2) hx hb dX6_place_52 (by decide) ?_
            refine kc_i (va_runV (As := [.int 2]) (rest := []) ⟨hx, hb, hml, hown, htT⟩ (m_no l D cA _ am r (mS M 0 0) 2) (cwV 1 htT (kg_V m_ml_X6_95 m_im_X6_no m_sl_X6_no m_in_X6 m_cd_X6_no) rfl rfl rfl (by decide +kernel) ⟨Nat.le_of_ble_eq_true rfl, Nat.le_of_ble_eq_true rfl⟩) (kp_V hK hP hD hTB (km_rc hK hP)) rfl rfl hl.1 rfl (lv_room (Nat.le_of_ble_eq_true rfl)) dX6_place_53 ⟨Nat.le_of_ble_eq_true rfl, Nat.le_of_ble_eq_true rfl⟩) hD hS hA (fun r_12 x_12 H locs hq_12 hP hD hS => ?_)
            rw [hq_12.1]
            rw [hq_12.2] at hP hD
            exact W.iret (v := 0) hx hb hr (fun t ht hW => ⟨⟨0, mS (mS M 0 0) 0 2, rfl, ⟨rfl, rfl⟩, by rw [ht]; exact hP, va_K.moved hW.alike hK, hD⟩, hS.F ht⟩) hS.2.2 dX6_place_56

set_option maxRecDepth 100000 in
set_option maxHeartbeats 4000000 in
theorem m_place_n (l : Launch) (D : va_G) (cA : Nat → ClassId) (sz : Nat) (am : Nat) (r : Nat → Nat) (M : MSt) (n i : Nat) (hi : i < n) (hn8 : n ≤ 8) (h3 : M.1 3 = nI n) (p2 p3 : Int32) : Met l yX6_place (Cond.code yX6_place cX6_place 6 (some .int) :: TT) ({ frames := 2, cells := 0, slots := 0, locals := 43 }) (va_Pc [.ref am, .int (nI i), .int (-1), .int p2, .int p3] (kPre D cA (wM cA am r M) sz)) (va_Qi (fun (r_ : Int32) (x_ : MSt) => r_ = M.2 12 i ∧ x_ = mR (mR (mR (mS M 0 0) 12 i (-1)) 13 i 0) 14 i 0) (fun x_ => kB D cA (va_A (wM cA am r M) sz) (wM cA am r x_)) (va_A (wM cA am r M) sz)) 0 0 (va_A (wM cA am r M) sz) := by
  refine Met.ofW (cc := cX6_place) (maxL := 6) (ret := (some .int)) (by decide) rfl ?_
  intro p e s m args below meth c s₁ B hml hv
  obtain ⟨rfl, hsz, hP, hK, hD0, hTB⟩ := hv
  have hx := B.exec
  have hb := B.bytes
  have hr := B.returns
  have hts := atoms_spec (ws := Cond.code yX6_place cX6_place 6 (some .int) :: TT) B.pre
  have htT : ∀ w ∈ TT, w.before _ s = true := fun w h => hts w (List.mem_cons_of_mem _ h)
  have hown : s.vm.findClass RX6 = some m.cls := findClass_of_methodNamed B.named
  have hlocks := B.notSynchronized
  subst hsz
  have hD := hD0.self (sz := s.heap.size)
  generalize hAe : va_A (wM cA am r M) s.heap.size = A at hD ⊢
  have hA : ∀ q : Nat, s.heap.size ≤ q → A q := fun q h => by rw [← hAe]; exact Or.inr h
  have hS : va_S A s.heap s.heap [] := va_S.rf
  have hl := lv_entry ([.ref am, .int (nI i), .int (-1), .int p2, .int p3]) (n := 6) (Nat.le_of_ble_eq_true rfl)
  rw [lg_entry_eq]
  generalize (lg_sl ([.ref am, .int (nI i), .int (-1), .int p2, .int p3]) ++ List.replicate (6 - (lg_sl ([.ref am, .int (nI i), .int (-1), .int p2, .int p3])).length) Slot.unset).toArray = ls at hl ⊢
  have hl : lv_has ls 6 [(0, .ref am), (1, .int (nI i)), (2, .int (-1)), (3, .int p2), (4, .int p3)] := hl
  have hsw1 := kIn_sw hi hn8 h3
  refine lv_aload_n hx hb dX6_place_0 rfl (lv_at hl 0 rfl) ?_
  refine lv_iconst (v := 0) hx hb dX6_place_1 (by decide) ?_
  refine km_puti hx hb htT hown hK hP hD hS 0 (by decide) rfl (htT _ m_fl_X6_80) rfl (by decide +kernel) dX6_place_2 (fun H locs hP hD hS => ?_)
  refine lv_aload_n hx hb dX6_place_5 rfl (lv_at hl 0 rfl) ?_
  refine lv_iload_n hx hb dX6_place_6 rfl (lv_at hl 1 rfl) ?_
  refine kc_i (va_runV (As := [.int (nI i)]) (rest := []) ⟨hx, hb, hml, hown, htT⟩ (m_isSwitch l D cA _ am r (mS M 0 0) (nI i)) (cwV 1 htT (kg_V m_ml_X6_91 m_im_X6_isSwitch m_sl_X6_isSwitch m_in_X6 m_cd_X6_isSwitch) rfl rfl rfl (by decide +kernel) ⟨Nat.le_of_ble_eq_true rfl, Nat.le_of_ble_eq_true rfl⟩) (kp_V hK hP hD hTB (km_rc hK hP)) rfl rfl hl.1 rfl (lv_room (Nat.le_of_ble_eq_true rfl)) dX6_place_7 ⟨Nat.le_of_ble_eq_true rfl, Nat.le_of_ble_eq_true rfl⟩) hD hS hA (fun r_1 x_1 H locs hq_1 hP hD hS => ?_)
  rw [hq_1.1.trans hsw1]
  rw [hq_1.2] at hP hD
  refine lv_if_ne (tgt := 19) hx hb dX6_place_10 (by decide) (fun _ => ?_) (fun c_2 => absurd c_2 (by decide))
  refine lv_iload_n hx hb dX6_place_19 rfl (lv_at hl 2 rfl) ?_
  refine lv_iconst (v := (-1)) hx hb dX6_place_20 (by decide) ?_
  refine lv_iconst (v := 2) hx hb dX6_place_21 (by decide) ?_
  refine kc_i (va_runS (As := [.int (-1), .int (-1), .int 2]) (rest := []) ⟨hx, hb, hml, hown, htT⟩ (m_isIn l D cA _ am r (mS M 0 0) (-1) (-1) 2) (cwS 3 htT (kg_S m_ml_X6_87 m_st_X6_isIn m_in_X6 m_cd_X6_isIn) rfl rfl rfl (by decide +kernel) ⟨Nat.le_of_ble_eq_true rfl, Nat.le_of_ble_eq_true rfl⟩) (kp_S hK hP hD hTB) rfl rfl hl.1 rfl (lv_room (Nat.le_of_ble_eq_true rfl)) dX6_place_22 ⟨Nat.le_of_ble_eq_true rfl, Nat.le_of_ble_eq_true rfl⟩) hD hS hA (fun r_3 x_3 H locs hq_3 hP hD hS => ?_)
  rw [hq_3.1.trans (show kIn (-1) (-1) 2 = 1 by decide)]
  rw [hq_3.2] at hP hD
  refine lv_if_eq (tgt := 51) hx hb dX6_place_25 (by decide) (fun c_4 => absurd c_4 (by decide)) (fun _ => ?_)
  refine lv_iload_n hx hb dX6_place_28 rfl (lv_at hl 2 rfl) ?_
  refine lv_iconst (v := (-1)) hx hb dX6_place_29 (by decide) ?_
  refine lv_icmp_eq (tgt := 57) hx hb dX6_place_30 (by decide) (fun _ => ?_) (fun c_5 => absurd c_5 (by decide))
  refine lv_iconst (v := 0) hx hb dX6_place_57 (by decide) ?_
  refine lv_istore (lv' := [(5, .int 0), (0, .ref am), (1, .int (nI i)), (2, .int (-1)), (3, .int p2), (4, .int p3)]) hx hb dX6_place_58 hl (by decide) rfl (fun ls hl => ?_)
  refine kz_loop 60 (fun N9 H locs ls => ∃ (j : Nat), N9 = n - j ∧ j ≤ n ∧ va_P D vwCl (wM cA am r (mS M 0 0)) H ∧ va_D A (wM cA am r (mS M 0 0)) ∧ va_S A s.heap H locs ∧ lv_has ls 6 [(5, .int (nI j)), (4, .int p3), (3, .int p2), (2, .int (-1)), (1, .int (nI i)), (0, .ref am)]) (fun N9 ih_60 H locs ls hI => ?_) ⟨0, rfl, by omega, hP, hD, hS, lv_sub hl [0, 5, 4, 3, 2, 1] rfl⟩
  obtain ⟨j, hn9, hj, hP, hD, hS, hl⟩ := hI
  refine lv_iload hx hb dX6_place_60 (lv_at hl 0 rfl) ?_
  refine lv_aload_n hx hb dX6_place_62 rfl (lv_at hl 5 rfl) ?_
  refine km_getiv (x := nI n) hx hb htT hown hK hP 3 (by decide) rfl (htT _ m_fl_X6_84) h3 dX6_place_63 ?_
  refine lv_icmp_ge (tgt := 129) hx hb dX6_place_66 (by decide) (fun c_6 => ?_) (fun c_6 => ?_)
  · replace c_6 := (nI_leI (a := n) (b := j) (by omega) (by omega)).mp c_6
    refine lv_aload_n hx hb dX6_place_129 rfl (lv_at hl 5 rfl) ?_
    refine km_getr hx hb htT hown hK hP 12 (by decide) rfl (htT _ m_fl_X6_35) dX6_place_130 ?_
    refine lv_iload_n hx hb dX6_place_133 rfl (lv_at hl 4 rfl) ?_
    refine km_ialdv (x := (M.2 12) i) hx hb hK hP 12 rfl rfl (show vp_in (nI (i)) 8 from ki_in (by omega) (by decide)) (congrArg _ (ki_cl (by omega))) dX6_place_134 ?_
    refine lv_istore (lv' := [(5, .int ((M.2 12) i)), (4, .int p3), (3, .int p2), (2, .int (-1)), (1, .int (nI i)), (0, .ref am)]) hx hb dX6_place_135 hl (by decide) rfl (fun ls hl => ?_)
    refine lv_aload_n hx hb dX6_place_137 rfl (lv_at hl 5 rfl) ?_
    refine km_getr hx hb htT hown hK hP 12 (by decide) rfl (htT _ m_fl_X6_35) dX6_place_138 ?_
    refine lv_iload_n hx hb dX6_place_141 rfl (lv_at hl 4 rfl) ?_
    refine lv_iload_n hx hb dX6_place_142 rfl (lv_at hl 3 rfl) ?_
    refine km_iast hx hb hK hP hD hS 12 rfl rfl (show vp_in (nI (i)) 8 from ki_in (by omega) (by decide)) dX6_place_143 (fun H locs hP hD hS => ?_)
    rw [ki_cl (n := i) (by omega)] at hP hD
    refine lv_aload_n hx hb dX6_place_144 rfl (lv_at hl 5 rfl) ?_
    refine km_getr hx hb htT hown hK hP 13 (by decide) rfl (htT _ m_fl_X6_38) dX6_place_145 ?_
    refine lv_iload_n hx hb dX6_place_148 rfl (lv_at hl 4 rfl) ?_
    refine lv_iload_n hx hb dX6_place_149 rfl (lv_at hl 3 rfl) ?_
    refine lv_iconst (v := (-1)) hx hb dX6_place_150 (by decide) ?_
    refine lv_icmp_ne (tgt := 158) hx hb dX6_place_151 (by decide) (fun c_7 => absurd c_7 (by decide)) (fun _ => ?_)
    refine lv_iconst (v := 0) hx hb dX6_place_154 (by decide) ?_
    refine lv_goto (tgt := 159) hx hb dX6_place_155 (by decide) ?_
    refine km_iast hx hb hK hP hD hS 13 rfl rfl (show vp_in (nI (i)) 8 from ki_in (by omega) (by decide)) dX6_place_159 (fun H locs hP hD hS => ?_)
    rw [ki_cl (n := i) (by omega)] at hP hD
    refine lv_aload_n hx hb dX6_place_160 rfl (lv_at hl 5 rfl) ?_
    refine km_getr hx hb htT hown hK hP 14 (by decide) rfl (htT _ m_fl_X6_41) dX6_place_161 ?_
    refine lv_iload_n hx hb dX6_place_164 rfl (lv_at hl 4 rfl) ?_
    refine lv_iload_n hx hb dX6_place_165 rfl (lv_at hl 3 rfl) ?_
    refine lv_iconst (v := (-1)) hx hb dX6_place_166 (by decide) ?_
    refine lv_icmp_ne (tgt := 174) hx hb dX6_place_167 (by decide) (fun c_8 => absurd c_8 (by decide)) (fun _ => ?_)
    refine lv_iconst (v := 0) hx hb dX6_place_170 (by decide) ?_
    refine lv_goto (tgt := 176) hx hb dX6_place_171 (by decide) ?_
    refine km_iast hx hb hK hP hD hS 14 rfl rfl (show vp_in (nI (i)) 8 from ki_in (by omega) (by decide)) dX6_place_176 (fun H locs hP hD hS => ?_)
    rw [ki_cl (n := i) (by omega)] at hP hD
    refine lv_iload hx hb dX6_place_177 (lv_at hl 0 rfl) ?_
    exact W.iret (v := (M.2 12) i) hx hb hr (fun t ht hW => ⟨⟨(M.2 12) i, mR (mR (mR (mS M 0 0) 12 i (-1)) 13 i 0) 14 i 0, rfl, ⟨rfl, rfl⟩, by rw [ht]; exact hP, va_K.moved hW.alike hK, hD⟩, hS.F ht⟩) hS.2.2 dX6_place_179
  · replace c_6 : ¬ (n ≤ j) := fun h9 => c_6 ((nI_leI (a := n) (b := j) (by omega) (by omega)).mpr h9)
    refine lv_iload_n hx hb dX6_place_69 rfl (lv_at hl 3 rfl) ?_
    refine lv_iconst (v := (-1)) hx hb dX6_place_70 (by decide) ?_
    refine lv_icmp_eq (tgt := 129) hx hb dX6_place_71 (by decide) (fun _ => ?_) (fun c_9 => absurd c_9 (by decide))
    refine lv_aload_n hx hb dX6_place_129 rfl (lv_at hl 5 rfl) ?_
    refine km_getr hx hb htT hown hK hP 12 (by decide) rfl (htT _ m_fl_X6_35) dX6_place_130 ?_
    refine lv_iload_n hx hb dX6_place_133 rfl (lv_at hl 4 rfl) ?_
    refine km_ialdv (x := (M.2 12) i) hx hb hK hP 12 rfl rfl (show vp_in (nI (i)) 8 from ki_in (by omega) (by decide)) (congrArg _ (ki_cl (by omega))) dX6_place_134 ?_
    refine lv_istore (lv' := [(5, .int ((M.2 12) i)), (4, .int p3), (3, .int p2), (2, .int (-1)), (1, .int (nI i)), (0, .ref am)]) hx hb dX6_place_135 hl (by decide) rfl (fun ls hl => ?_)
    refine lv_aload_n hx hb dX6_place_137 rfl (lv_at hl 5 rfl) ?_
    refine km_getr hx hb htT hown hK hP 12 (by decide) rfl (htT _ m_fl_X6_35) dX6_place_138 ?_
    refine lv_iload_n hx hb dX6_place_141 rfl (lv_at hl 4 rfl) ?_
    refine lv_iload_n hx hb dX6_place_142 rfl (lv_at hl 3 rfl) ?_
    refine km_iast hx hb hK hP hD hS 12 rfl rfl (show vp_in (nI (i)) 8 from ki_in (by omega) (by decide)) dX6_place_143 (fun H locs hP hD hS => ?_)
    rw [ki_cl (n := i) (by omega)] at hP hD
    refine lv_aload_n hx hb dX6_place_144 rfl (lv_at hl 5 rfl) ?_
    refine km_getr hx hb htT hown hK hP 13 (by decide) rfl (htT _ m_fl_X6_38) dX6_place_145 ?_
    refine lv_iload_n hx hb dX6_place_148 rfl (lv_at hl 4 rfl) ?_
    refine lv_iload_n hx hb dX6_place_149 rfl (lv_at hl 3 rfl) ?_
    refine lv_iconst (v := (-1)) hx hb dX6_place_150 (by decide) ?_
    refine lv_icmp_ne (tgt := 158) hx hb dX6_place_151 (by decide) (fun c_10 => absurd c_10 (by decide)) (fun _ => ?_)
    refine lv_iconst (v := 0) hx hb dX6_place_154 (by decide) ?_
    refine lv_goto (tgt := 159) hx hb dX6_place_155 (by decide) ?_
    refine km_iast hx hb hK hP hD hS 13 rfl rfl (show vp_in (nI (i)) 8 from ki_in (by omega) (by decide)) dX6_place_159 (fun H locs hP hD hS => ?_)
    rw [ki_cl (n := i) (by omega)] at hP hD
    refine lv_aload_n hx hb dX6_place_160 rfl (lv_at hl 5 rfl) ?_
    refine km_getr hx hb htT hown hK hP 14 (by decide) rfl (htT _ m_fl_X6_41) dX6_place_161 ?_
    refine lv_iload_n hx hb dX6_place_164 rfl (lv_at hl 4 rfl) ?_
    refine lv_iload_n hx hb dX6_place_165 rfl (lv_at hl 3 rfl) ?_
    refine lv_iconst (v := (-1)) hx hb dX6_place_166 (by decide) ?_
    refine lv_icmp_ne (tgt := 174) hx hb dX6_place_167 (by decide) (fun c_11 => absurd c_11 (by decide)) (fun _ => ?_)
    refine lv_iconst (v := 0) hx hb dX6_place_170 (by decide) ?_
    refine lv_goto (tgt := 176) hx hb dX6_place_171 (by decide) ?_
    refine km_iast hx hb hK hP hD hS 14 rfl rfl (show vp_in (nI (i)) 8 from ki_in (by omega) (by decide)) dX6_place_176 (fun H locs hP hD hS => ?_)
    rw [ki_cl (n := i) (by omega)] at hP hD
    refine lv_iload hx hb dX6_place_177 (lv_at hl 0 rfl) ?_
    exact W.iret (v := (M.2 12) i) hx hb hr (fun t ht hW => ⟨⟨(M.2 12) i, mR (mR (mR (mS M 0 0) 12 i (-1)) 13 i 0) 14 i 0, rfl, ⟨rfl, rfl⟩, by rw [ht]; exact hP, va_K.moved hW.alike hK, hD⟩, hS.F ht⟩) hS.2.2 dX6_place_179

