set_option maxRecDepth 100000 in
set_option maxHeartbeats 4000000 in
theorem m_rule_n (l : Launch) (D : va_G) (cA : Nat → ClassId) (sz : Nat) (am : Nat) (r : Nat → Nat) (M : MSt) (n i : Nat) (hi : i < n) (hn8 : n ≤ 8) (h3 : M.1 3 = nI n) (q : Nat) (hq5 : q < 5) (h17 : M.2 17 i = nI q) (p1 p2 p3 : Int32) (h1 : kIn p1 0 1 = 1) (h2 : kIn p2 1 3 = 1) (hh3 : kIn p3 0 9 = 1) : Met l yX6_rule (Cond.code yX6_rule cX6_rule 7 (some .int) :: TT) ({ frames := 2, cells := 0, slots := 0, locals := 43 }) (va_Pc [.ref am, .int (nI i), .int p1, .int p2, .int p3, .int (-1)] (kPre D cA (wM cA am r M) sz)) (va_Qi (fun (r_ : Int32) (x_ : MSt) => r_ = nI (q + 1) ∧ x_ = mR (mR (mR (mR (mR (mS M 0 0) 18 (5 * i + q) p1) 19 (5 * i + q) p2) 20 (5 * i + q) p3) 21 (5 * i + q) (-1)) 17 i (nI (q + 1))) (fun x_ => kB D cA (va_A (wM cA am r M) sz) (wM cA am r x_)) (va_A (wM cA am r M) sz)) 0 0 (va_A (wM cA am r M) sz) := by
  refine Met.ofW (cc := cX6_rule) (maxL := 7) (ret := (some .int)) (by decide) rfl ?_
  intro p e s m args below meth c s₁ B hml hv
  obtain ⟨rfl, hsz, hP, hK, hD0, hTB⟩ := hv
  have hx := B.exec
  have hb := B.bytes
  have hr := B.returns
  have hts := atoms_spec (ws := Cond.code yX6_rule cX6_rule 7 (some .int) :: TT) B.pre
  have htT : ∀ w ∈ TT, w.before _ s = true := fun w h => hts w (List.mem_cons_of_mem _ h)
  have hown : s.vm.findClass RX6 = some m.cls := findClass_of_methodNamed B.named
  have hlocks := B.notSynchronized
  subst hsz
  have hD := hD0.self (sz := s.heap.size)
  generalize hAe : va_A (wM cA am r M) s.heap.size = A at hD ⊢
  have hA : ∀ q : Nat, s.heap.size ≤ q → A q := fun q h => by rw [← hAe]; exact Or.inr h
  have hS : va_S A s.heap s.heap [] := va_S.rf
  have hl := lv_entry ([.ref am, .int (nI i), .int p1, .int p2, .int p3, .int (-1)]) (n := 7) (Nat.le_of_ble_eq_true rfl)
  rw [lg_entry_eq]
  generalize (lg_sl ([.ref am, .int (nI i), .int p1, .int p2, .int p3, .int (-1)]) ++ List.replicate (7 - (lg_sl ([.ref am, .int (nI i), .int p1, .int p2, .int p3, .int (-1)])).length) Slot.unset).toArray = ls at hl ⊢
  have hl : lv_has ls 7 [(0, .ref am), (1, .int (nI i)), (2, .int p1), (3, .int p2), (4, .int p3), (5, .int (-1))] := hl
  have hsw1 := kIn_sw hi hn8 h3
  refine lv_aload_n hx hb dX6_rule_0 rfl (lv_at hl 0 rfl) ?_
  refine lv_iconst (v := 0) hx hb dX6_rule_1 (by decide) ?_
  refine km_puti hx hb htT hown hK hP hD hS 0 (by decide) rfl (htT _ m_fl_X6_80) rfl (by decide +kernel) dX6_rule_2 (fun H locs hP hD hS => ?_)
  refine lv_aload_n hx hb dX6_rule_5 rfl (lv_at hl 0 rfl) ?_
  refine lv_iload_n hx hb dX6_rule_6 rfl (lv_at hl 1 rfl) ?_
  refine kc_i (va_runV (As := [.int (nI i)]) (rest := []) ⟨hx, hb, hml, hown, htT⟩ (m_isSwitch l D cA _ am r (mS M 0 0) (nI i)) (cwV 1 htT (kg_V m_ml_X6_91 m_im_X6_isSwitch m_sl_X6_isSwitch m_in_X6 m_cd_X6_isSwitch) rfl rfl rfl (by decide +kernel) ⟨Nat.le_of_ble_eq_true rfl, Nat.le_of_ble_eq_true rfl⟩) (kp_V hK hP hD hTB (km_rc hK hP)) rfl rfl hl.1 rfl (lv_room (Nat.le_of_ble_eq_true rfl)) dX6_rule_7 ⟨Nat.le_of_ble_eq_true rfl, Nat.le_of_ble_eq_true rfl⟩) hD hS hA (fun r_1 x_1 H locs hq_1 hP hD hS => ?_)
  rw [hq_1.1.trans hsw1]
  rw [hq_1.2] at hP hD
  refine lv_if_eq (tgt := 29) hx hb dX6_rule_10 (by decide) (fun c_2 => absurd c_2 (by decide)) (fun _ => ?_)
  refine lv_iload hx hb dX6_rule_13 (lv_at hl 5 rfl) ?_
  refine lv_iconst (v := (-1)) hx hb dX6_rule_15 (by decide) ?_
  refine lv_icmp_eq (tgt := 35) hx hb dX6_rule_16 (by decide) (fun _ => ?_) (fun c_3 => absurd c_3 (by decide))
  refine lv_iload_n hx hb dX6_rule_35 rfl (lv_at hl 2 rfl) ?_
  refine lv_iconst (v := 0) hx hb dX6_rule_36 (by decide) ?_
  refine lv_iconst (v := 1) hx hb dX6_rule_37 (by decide) ?_
  refine kc_i (va_runS (As := [.int p1, .int 0, .int 1]) (rest := []) ⟨hx, hb, hml, hown, htT⟩ (m_isIn l D cA _ am r (mS M 0 0) p1 0 1) (cwS 3 htT (kg_S m_ml_X6_87 m_st_X6_isIn m_in_X6 m_cd_X6_isIn) rfl rfl rfl (by decide +kernel) ⟨Nat.le_of_ble_eq_true rfl, Nat.le_of_ble_eq_true rfl⟩) (kp_S hK hP hD hTB) rfl rfl hl.1 rfl (lv_room (Nat.le_of_ble_eq_true rfl)) dX6_rule_38 ⟨Nat.le_of_ble_eq_true rfl, Nat.le_of_ble_eq_true rfl⟩) hD hS hA (fun r_4 x_4 H locs hq_4 hP hD hS => ?_)
  rw [hq_4.1.trans h1]
  rw [hq_4.2] at hP hD
  refine lv_if_eq (tgt := 64) hx hb dX6_rule_41 (by decide) (fun c_5 => absurd c_5 (by decide)) (fun _ => ?_)
  refine lv_iload_n hx hb dX6_rule_44 rfl (lv_at hl 3 rfl) ?_
  refine lv_iconst (v := 1) hx hb dX6_rule_45 (by decide) ?_
  refine lv_iconst (v := 3) hx hb dX6_rule_46 (by decide) ?_
  refine kc_i (va_runS (As := [.int p2, .int 1, .int 3]) (rest := []) ⟨hx, hb, hml, hown, htT⟩ (m_isIn l D cA _ am r (mS M 0 0) p2 1 3) (cwS 3 htT (kg_S m_ml_X6_87 m_st_X6_isIn m_in_X6 m_cd_X6_isIn) rfl rfl rfl (by decide +kernel) ⟨Nat.le_of_ble_eq_true rfl, Nat.le_of_ble_eq_true rfl⟩) (kp_S hK hP hD hTB) rfl rfl hl.1 rfl (lv_room (Nat.le_of_ble_eq_true rfl)) dX6_rule_47 ⟨Nat.le_of_ble_eq_true rfl, Nat.le_of_ble_eq_true rfl⟩) hD hS hA (fun r_6 x_6 H locs hq_6 hP hD hS => ?_)
  rw [hq_6.1.trans h2]
  rw [hq_6.2] at hP hD
  refine lv_if_eq (tgt := 64) hx hb dX6_rule_50 (by decide) (fun c_7 => absurd c_7 (by decide)) (fun _ => ?_)
  refine lv_iload hx hb dX6_rule_53 (lv_at hl 4 rfl) ?_
  refine lv_iconst (v := 0) hx hb dX6_rule_55 (by decide) ?_
  refine lv_bipush (v := 9) hx hb dX6_rule_56 (by decide) ?_
  refine kc_i (va_runS (As := [.int p3, .int 0, .int 9]) (rest := []) ⟨hx, hb, hml, hown, htT⟩ (m_isIn l D cA _ am r (mS M 0 0) p3 0 9) (cwS 3 htT (kg_S m_ml_X6_87 m_st_X6_isIn m_in_X6 m_cd_X6_isIn) rfl rfl rfl (by decide +kernel) ⟨Nat.le_of_ble_eq_true rfl, Nat.le_of_ble_eq_true rfl⟩) (kp_S hK hP hD hTB) rfl rfl hl.1 rfl (lv_room (Nat.le_of_ble_eq_true rfl)) dX6_rule_58 ⟨Nat.le_of_ble_eq_true rfl, Nat.le_of_ble_eq_true rfl⟩) hD hS hA (fun r_8 x_8 H locs hq_8 hP hD hS => ?_)
  rw [hq_8.1.trans hh3]
  rw [hq_8.2] at hP hD
  refine lv_if_ne (tgt := 70) hx hb dX6_rule_61 (by decide) (fun _ => ?_) (fun c_9 => absurd c_9 (by decide))
  refine lv_aload_n hx hb dX6_rule_70 rfl (lv_at hl 0 rfl) ?_
  refine km_getr hx hb htT hown hK hP 17 (by decide) rfl (htT _ m_fl_X6_50) dX6_rule_71 ?_
  refine lv_iload_n hx hb dX6_rule_74 rfl (lv_at hl 1 rfl) ?_
  refine km_ialdv (x := nI q) hx hb hK hP 17 rfl rfl (show vp_in (nI (i)) 8 from ki_in (by omega) (by decide)) ((congrArg _ (ki_cl (by omega))).trans h17) dX6_rule_75 ?_
  refine lv_iconst (v := 5) hx hb dX6_rule_76 (by decide) ?_
  refine lv_icmp_ne (tgt := 86) hx hb dX6_rule_77 (by decide) (fun c_10 => ?_) (fun c_10 => ?_)
  · replace c_10 : ¬ (q = 5) := fun h9 => c_10 ((nI_eq (a := q) (b := 5) (by omega) (by omega)).mpr h9)
    refine lv_iload_n hx hb dX6_rule_86 rfl (lv_at hl 1 rfl) ?_
    refine lv_iconst (v := 5) hx hb dX6_rule_87 (by decide) ?_
    refine lv_imul hx hb dX6_rule_88 ?_
    rw [show ((nI i) * 5 : Int32) = nI (5 * i) from (pk_mul i 5).trans (congrArg nI (by omega))]
    refine lv_aload_n hx hb dX6_rule_89 rfl (lv_at hl 0 rfl) ?_
    refine km_getr hx hb htT hown hK hP 17 (by decide) rfl (htT _ m_fl_X6_50) dX6_rule_90 ?_
    refine lv_iload_n hx hb dX6_rule_93 rfl (lv_at hl 1 rfl) ?_
    refine km_ialdv (x := nI q) hx hb hK hP 17 rfl rfl (show vp_in (nI (i)) 8 from ki_in (by omega) (by decide)) ((congrArg _ (ki_cl (by omega))).trans h17) dX6_rule_94 ?_
    refine lv_iadd hx hb dX6_rule_95 ?_
    rw [show ((nI (5 * i)) + (nI q) : Int32) = nI (5 * i + q) from (nI_add (5 * i) q).trans (congrArg nI (by omega))]
    refine lv_istore (lv' := [(6, .int (nI (5 * i + q))), (0, .ref am), (1, .int (nI i)), (2, .int p1), (3, .int p2), (4, .int p3), (5, .int (-1))]) hx hb dX6_rule_96 hl (by decide) rfl (fun ls hl => ?_)
    refine lv_aload_n hx hb dX6_rule_98 rfl (lv_at hl 1 rfl) ?_
    refine km_getr hx hb htT hown hK hP 18 (by decide) rfl (htT _ m_fl_X6_53) dX6_rule_99 ?_
    refine lv_iload hx hb dX6_rule_102 (lv_at hl 0 rfl) ?_
    refine lv_iload_n hx hb dX6_rule_104 rfl (lv_at hl 3 rfl) ?_
    refine km_iast hx hb hK hP hD hS 18 rfl rfl (show vp_in (nI (5 * i + q)) 40 from ki_in (by omega) (by decide)) dX6_rule_105 (fun H locs hP hD hS => ?_)
    rw [ki_cl (n := 5 * i + q) (by omega)] at hP hD
    refine lv_aload_n hx hb dX6_rule_106 rfl (lv_at hl 1 rfl) ?_
    refine km_getr hx hb htT hown hK hP 19 (by decide) rfl (htT _ m_fl_X6_56) dX6_rule_107 ?_
    refine lv_iload hx hb dX6_rule_110 (lv_at hl 0 rfl) ?_
    refine lv_iload_n hx hb dX6_rule_112 rfl (lv_at hl 4 rfl) ?_
    refine km_iast hx hb hK hP hD hS 19 rfl rfl (show vp_in (nI (5 * i + q)) 40 from ki_in (by omega) (by decide)) dX6_rule_113 (fun H locs hP hD hS => ?_)
    rw [ki_cl (n := 5 * i + q) (by omega)] at hP hD
    refine lv_aload_n hx hb dX6_rule_114 rfl (lv_at hl 1 rfl) ?_
    refine km_getr hx hb htT hown hK hP 20 (by decide) rfl (htT _ m_fl_X6_59) dX6_rule_115 ?_
    refine lv_iload hx hb dX6_rule_118 (lv_at hl 0 rfl) ?_
    refine lv_iload hx hb dX6_rule_120 (lv_at hl 5 rfl) ?_
    refine km_iast hx hb hK hP hD hS 20 rfl rfl (show vp_in (nI (5 * i + q)) 40 from ki_in (by omega) (by decide)) dX6_rule_122 (fun H locs hP hD hS => ?_)
    rw [ki_cl (n := 5 * i + q) (by omega)] at hP hD
    refine lv_aload_n hx hb dX6_rule_123 rfl (lv_at hl 1 rfl) ?_
    refine km_getr hx hb htT hown hK hP 21 (by decide) rfl (htT _ m_fl_X6_62) dX6_rule_124 ?_
    refine lv_iload hx hb dX6_rule_127 (lv_at hl 0 rfl) ?_
    refine lv_iload hx hb dX6_rule_129 (lv_at hl 6 rfl) ?_
    refine km_iast hx hb hK hP hD hS 21 rfl rfl (show vp_in (nI (5 * i + q)) 40 from ki_in (by omega) (by decide)) dX6_rule_131 (fun H locs hP hD hS => ?_)
    rw [ki_cl (n := 5 * i + q) (by omega)] at hP hD
    refine lv_aload_n hx hb dX6_rule_132 rfl (lv_at hl 1 rfl) ?_
    refine km_getr hx hb htT hown hK hP 17 (by decide) rfl (htT _ m_fl_X6_50) dX6_rule_133 ?_
    refine lv_iload_n hx hb dX6_rule_136 rfl (lv_at hl 2 rfl) ?_
    refine lv_dup2_11 hx hb dX6_rule_137 rfl rfl ?_
    refine km_ialdv (x := nI q) hx hb hK hP 17 rfl rfl (show vp_in (nI (i)) 8 from ki_in (by omega) (by decide)) ((congrArg _ (ki_cl (by omega))).trans h17) dX6_rule_138 ?_
    refine lv_iconst (v := 1) hx hb dX6_rule_139 (by decide) ?_
    refine lv_iadd hx hb dX6_rule_140 ?_
    rw [show ((nI q) + 1 : Int32) = nI (q + 1) from nI_add q 1]
    refine lv_dup_x2 hx hb dX6_rule_141 rfl rfl rfl ?_
    refine km_iast hx hb hK hP hD hS 17 rfl rfl (show vp_in (nI (i)) 8 from ki_in (by omega) (by decide)) dX6_rule_142 (fun H locs hP hD hS => ?_)
    rw [ki_cl (n := i) (by omega)] at hP hD
    exact W.iret (v := nI (q + 1)) hx hb hr (fun t ht hW => ⟨⟨nI (q + 1), mR (mR (mR (mR (mR (mS M 0 0) 18 (5 * i + q) p1) 19 (5 * i + q) p2) 20 (5 * i + q) p3) 21 (5 * i + q) (-1)) 17 i (nI (q + 1)), rfl, ⟨rfl, rfl⟩, by rw [ht]; exact hP, va_K.moved hW.alike hK, hD⟩, hS.F ht⟩) hS.2.2 dX6_rule_143
  · exact absurd ((nI_eq (a := q) (b := 5) (by omega) (by omega)).mp c_10) (by omega)

set_option maxRecDepth 100000 in
set_option maxHeartbeats 4000000 in
theorem m_rule (l : Launch) (D : va_G) (cA : Nat → ClassId) (sz : Nat) (am : Nat) (r : Nat → Nat) (M : MSt) (n i : Nat) (hi : i < n) (hn8 : n ≤ 8) (h3 : M.1 3 = nI n) (q : Nat) (hq5 : q < 5) (h17 : M.2 17 i = nI q) (p1 p2 p3 : Int32) (h1 : kIn p1 0 1 = 1) (h2 : kIn p2 1 3 = 1) (hh3 : kIn p3 0 9 = 1) (v : Nat) (hv4 : v < 4) (hv : kIn (nI v) 0 (M.2 5 i - 1) = 1) : Met l yX6_rule (Cond.code yX6_rule cX6_rule 7 (some .int) :: TT) ({ frames := 3, cells := 0, slots := 0, locals := 65 }) (va_Pc [.ref am, .int (nI i), .int p1, .int p2, .int p3, .int (nI v)] (kPre D cA (wM cA am r M) sz)) (va_Qi (fun (r_ : Int32) (x_ : MSt) => r_ = nI (q + 1) ∧ x_ = mR (mR (mR (mR (mR (mS M 0 0) 18 (5 * i + q) p1) 19 (5 * i + q) p2) 20 (5 * i + q) p3) 21 (5 * i + q) (nI v)) 17 i (nI (q + 1))) (fun x_ => kB D cA (va_A (wM cA am r M) sz) (wM cA am r x_)) (va_A (wM cA am r M) sz)) 0 0 (va_A (wM cA am r M) sz) := by
  refine Met.ofW (cc := cX6_rule) (maxL := 7) (ret := (some .int)) (by decide) rfl ?_
  intro p e s m args below meth c s₁ B hml hv
  obtain ⟨rfl, hsz, hP, hK, hD0, hTB⟩ := hv
  have hx := B.exec
  have hb := B.bytes
  have hr := B.returns
  have hts := atoms_spec (ws := Cond.code yX6_rule cX6_rule 7 (some .int) :: TT) B.pre
  have htT : ∀ w ∈ TT, w.before _ s = true := fun w h => hts w (List.mem_cons_of_mem _ h)
  have hown : s.vm.findClass RX6 = some m.cls := findClass_of_methodNamed B.named
  have hlocks := B.notSynchronized
  subst hsz
  have hD := hD0.self (sz := s.heap.size)
  generalize hAe : va_A (wM cA am r M) s.heap.size = A at hD ⊢
  have hA : ∀ q : Nat, s.heap.size ≤ q → A q := fun q h => by rw [← hAe]; exact Or.inr h
  have hS : va_S A s.heap s.heap [] := va_S.rf
  have hl := lv_entry ([.ref am, .int (nI i), .int p1, .int p2, .int p3, .int (nI v)]) (n := 7) (Nat.le_of_ble_eq_true rfl)
  rw [lg_entry_eq]
  generalize (lg_sl ([.ref am, .int (nI i), .int p1, .int p2, .int p3, .int (nI v)]) ++ List.replicate (7 - (lg_sl ([.ref am, .int (nI i), .int p1, .int p2, .int p3, .int (nI v)])).length) Slot.unset).toArray = ls at hl ⊢
  have hl : lv_has ls 7 [(0, .ref am), (1, .int (nI i)), (2, .int p1), (3, .int p2), (4, .int p3), (5, .int (nI v))] := hl
  have hsw1 := kIn_sw hi hn8 h3
  refine lv_aload_n hx hb dX6_rule_0 rfl (lv_at hl 0 rfl) ?_
  refine lv_iconst (v := 0) hx hb dX6_rule_1 (by decide) ?_
  refine km_puti hx hb htT hown hK hP hD hS 0 (by decide) rfl (htT _ m_fl_X6_80) rfl (by decide +kernel) dX6_rule_2 (fun H locs hP hD hS => ?_)
  refine lv_aload_n hx hb dX6_rule_5 rfl (lv_at hl 0 rfl) ?_
  refine lv_iload_n hx hb dX6_rule_6 rfl (lv_at hl 1 rfl) ?_
  refine kc_i (va_runV (As := [.int (nI i)]) (rest := []) ⟨hx, hb, hml, hown, htT⟩ (m_isSwitch l D cA _ am r (mS M 0 0) (nI i)) (cwV 1 htT (kg_V m_ml_X6_91 m_im_X6_isSwitch m_sl_X6_isSwitch m_in_X6 m_cd_X6_isSwitch) rfl rfl rfl (by decide +kernel) ⟨Nat.le_of_ble_eq_true rfl, Nat.le_of_ble_eq_true rfl⟩) (kp_V hK hP hD hTB (km_rc hK hP)) rfl rfl hl.1 rfl (lv_room (Nat.le_of_ble_eq_true rfl)) dX6_rule_7 ⟨Nat.le_of_ble_eq_true rfl, Nat.le_of_ble_eq_true rfl⟩) hD hS hA (fun r_1 x_1 H locs hq_1 hP hD hS => ?_)
  rw [hq_1.1.trans hsw1]
  rw [hq_1.2] at hP hD
  refine lv_if_eq (tgt := 29) hx hb dX6_rule_10 (by decide) (fun c_2 => absurd c_2 (by decide)) (fun _ => ?_)
  refine lv_iload hx hb dX6_rule_13 (lv_at hl 5 rfl) ?_
  refine lv_iconst (v := (-1)) hx hb dX6_rule_15 (by decide) ?_
  refine lv_icmp_eq (tgt := 35) hx hb dX6_rule_16 (by decide) (fun c_3 => ?_) (fun c_3 => ?_)
  · exact absurd c_3 (nI_m1 (by omega))
  · refine lv_aload_n hx hb dX6_rule_19 rfl (lv_at hl 0 rfl) ?_
    refine lv_iload_n hx hb dX6_rule_20 rfl (lv_at hl 1 rfl) ?_
    refine lv_iload hx hb dX6_rule_21 (lv_at hl 5 rfl) ?_
    refine kc_i (va_runV (As := [.int (nI i), .int (nI v)]) (rest := []) ⟨hx, hb, hml, hown, htT⟩ (m_isVariant_1 l D cA _ am r (mS M 0 0) n i hi hn8 h3 (nI v)) (cwV 2 htT (kg_V m_ml_X6_102 m_im_X6_isVariant m_sl_X6_isVariant m_in_X6 m_cd_X6_isVariant) rfl rfl rfl (by decide +kernel) ⟨Nat.le_of_ble_eq_true rfl, Nat.le_of_ble_eq_true rfl⟩) (kp_V hK hP hD hTB (km_rc hK hP)) rfl rfl hl.1 rfl (lv_room (Nat.le_of_ble_eq_true rfl)) dX6_rule_23 ⟨Nat.le_of_ble_eq_true rfl, Nat.le_of_ble_eq_true rfl⟩) hD hS hA (fun r_4 x_4 H locs hq_4 hP hD hS => ?_)
    rw [hq_4.1.trans hv]
    rw [hq_4.2] at hP hD
    refine lv_if_ne (tgt := 35) hx hb dX6_rule_26 (by decide) (fun _ => ?_) (fun c_5 => absurd c_5 (by decide))
    refine lv_iload_n hx hb dX6_rule_35 rfl (lv_at hl 2 rfl) ?_
    refine lv_iconst (v := 0) hx hb dX6_rule_36 (by decide) ?_
    refine lv_iconst (v := 1) hx hb dX6_rule_37 (by decide) ?_
    refine kc_i (va_runS (As := [.int p1, .int 0, .int 1]) (rest := []) ⟨hx, hb, hml, hown, htT⟩ (m_isIn l D cA _ am r (mS M 0 0) p1 0 1) (cwS 3 htT (kg_S m_ml_X6_87 m_st_X6_isIn m_in_X6 m_cd_X6_isIn) rfl rfl rfl (by decide +kernel) ⟨Nat.le_of_ble_eq_true rfl, Nat.le_of_ble_eq_true rfl⟩) (kp_S hK hP hD hTB) rfl rfl hl.1 rfl (lv_room (Nat.le_of_ble_eq_true rfl)) dX6_rule_38 ⟨Nat.le_of_ble_eq_true rfl, Nat.le_of_ble_eq_true rfl⟩) hD hS hA (fun r_6 x_6 H locs hq_6 hP hD hS => ?_)
    rw [hq_6.1.trans h1]
    rw [hq_6.2] at hP hD
    refine lv_if_eq (tgt := 64) hx hb dX6_rule_41 (by decide) (fun c_7 => absurd c_7 (by decide)) (fun _ => ?_)
    refine lv_iload_n hx hb dX6_rule_44 rfl (lv_at hl 3 rfl) ?_
    refine lv_iconst (v := 1) hx hb dX6_rule_45 (by decide) ?_
    refine lv_iconst (v := 3) hx hb dX6_rule_46 (by decide) ?_
    refine kc_i (va_runS (As := [.int p2, .int 1, .int 3]) (rest := []) ⟨hx, hb, hml, hown, htT⟩ (m_isIn l D cA _ am r (mS M 0 0) p2 1 3) (cwS 3 htT (kg_S m_ml_X6_87 m_st_X6_isIn m_in_X6 m_cd_X6_isIn) rfl rfl rfl (by decide +kernel) ⟨Nat.le_of_ble_eq_true rfl, Nat.le_of_ble_eq_true rfl⟩) (kp_S hK hP hD hTB) rfl rfl hl.1 rfl (lv_room (Nat.le_of_ble_eq_true rfl)) dX6_rule_47 ⟨Nat.le_of_ble_eq_true rfl, Nat.le_of_ble_eq_true rfl⟩) hD hS hA (fun r_8 x_8 H locs hq_8 hP hD hS => ?_)
    rw [hq_8.1.trans h2]
    rw [hq_8.2] at hP hD
    refine lv_if_eq (tgt := 64) hx hb dX6_rule_50 (by decide) (fun c_9 => absurd c_9 (by decide)) (fun _ => ?_)
    refine lv_iload hx hb dX6_rule_53 (lv_at hl 4 rfl) ?_
    refine lv_iconst (v := 0) hx hb dX6_rule_55 (by decide) ?_
    refine lv_bipush (v := 9) hx hb dX6_rule_56 (by decide) ?_
    refine kc_i (va_runS (As := [.int p3, .int 0, .int 9]) (rest := []) ⟨hx, hb, hml, hown, htT⟩ (m_isIn l D cA _ am r (mS M 0 0) p3 0 9) (cwS 3 htT (kg_S m_ml_X6_87 m_st_X6_isIn m_in_X6 m_cd_X6_isIn) rfl rfl rfl (by decide +kernel) ⟨Nat.le_of_ble_eq_true rfl, Nat.le_of_ble_eq_true rfl⟩) (kp_S hK hP hD hTB) rfl rfl hl.1 rfl (lv_room (Nat.le_of_ble_eq_true rfl)) dX6_rule_58 ⟨Nat.le_of_ble_eq_true rfl, Nat.le_of_ble_eq_true rfl⟩) hD hS hA (fun r_10 x_10 H locs hq_10 hP hD hS => ?_)
    rw [hq_10.1.trans hh3]
    rw [hq_10.2] at hP hD
    refine lv_if_ne (tgt := 70) hx hb dX6_rule_61 (by decide) (fun _ => ?_) (fun c_11 => absurd c_11 (by decide))
    refine lv_aload_n hx hb dX6_rule_70 rfl (lv_at hl 0 rfl) ?_
    refine km_getr hx hb htT hown hK hP 17 (by decide) rfl (htT _ m_fl_X6_50) dX6_rule_71 ?_
    refine lv_iload_n hx hb dX6_rule_74 rfl (lv_at hl 1 rfl) ?_
    refine km_ialdv (x := nI q) hx hb hK hP 17 rfl rfl (show vp_in (nI (i)) 8 from ki_in (by omega) (by decide)) ((congrArg _ (ki_cl (by omega))).trans h17) dX6_rule_75 ?_
    refine lv_iconst (v := 5) hx hb dX6_rule_76 (by decide) ?_
    refine lv_icmp_ne (tgt := 86) hx hb dX6_rule_77 (by decide) (fun c_12 => ?_) (fun c_12 => ?_)
    · replace c_12 : ¬ (q = 5) := fun h9 => c_12 ((nI_eq (a := q) (b := 5) (by omega) (by omega)).mpr h9)
      refine lv_iload_n hx hb dX6_rule_86 rfl (lv_at hl 1 rfl) ?_
      refine lv_iconst (v := 5) hx hb dX6_rule_87 (by decide) ?_
      refine lv_imul hx hb dX6_rule_88 ?_
      rw [show ((nI i) * 5 : Int32) = nI (5 * i) from (pk_mul i 5).trans (congrArg nI (by omega))]
      refine lv_aload_n hx hb dX6_rule_89 rfl (lv_at hl 0 rfl) ?_
      refine km_getr hx hb htT hown hK hP 17 (by decide) rfl (htT _ m_fl_X6_50) dX6_rule_90 ?_
      refine lv_iload_n hx hb dX6_rule_93 rfl (lv_at hl 1 rfl) ?_
      refine km_ialdv (x := nI q) hx hb hK hP 17 rfl rfl (show vp_in (nI (i)) 8 from ki_in (by omega) (by decide)) ((congrArg _ (ki_cl (by omega))).trans h17) dX6_rule_94 ?_
      refine lv_iadd hx hb dX6_rule_95 ?_
      rw [show ((nI (5 * i)) + (nI q) : Int32) = nI (5 * i + q) from (nI_add (5 * i) q).trans (congrArg nI (by omega))]
      refine lv_istore (lv' := [(6, .int (nI (5 * i + q))), (0, .ref am), (1, .int (nI i)), (2, .int p1), (3, .int p2), (4, .int p3), (5, .int (nI v))]) hx hb dX6_rule_96 hl (by decide) rfl (fun ls hl => ?_)
      refine lv_aload_n hx hb dX6_rule_98 rfl (lv_at hl 1 rfl) ?_
      refine km_getr hx hb htT hown hK hP 18 (by decide) rfl (htT _ m_fl_X6_53) dX6_rule_99 ?_
      refine lv_iload hx hb dX6_rule_102 (lv_at hl 0 rfl) ?_
      refine lv_iload_n hx hb dX6_rule_104 rfl (lv_at hl 3 rfl) ?_
      refine km_iast hx hb hK hP hD hS 18 rfl rfl (show vp_in (nI (5 * i + q)) 40 from ki_in (by omega) (by decide)) dX6_rule_105 (fun H locs hP hD hS => ?_)
      rw [ki_cl (n := 5 * i + q) (by omega)] at hP hD
      refine lv_aload_n hx hb dX6_rule_106 rfl (lv_at hl 1 rfl) ?_
      refine km_getr hx hb htT hown hK hP 19 (by decide) rfl (htT _ m_fl_X6_56) dX6_rule_107 ?_
      refine lv_iload hx hb dX6_rule_110 (lv_at hl 0 rfl) ?_
      refine lv_iload_n hx hb dX6_rule_112 rfl (lv_at hl 4 rfl) ?_
      refine km_iast hx hb hK hP hD hS 19 rfl rfl (show vp_in (nI (5 * i + q)) 40 from ki_in (by omega) (by decide)) dX6_rule_113 (fun H locs hP hD hS => ?_)
      rw [ki_cl (n := 5 * i + q) (by omega)] at hP hD
      refine lv_aload_n hx hb dX6_rule_114 rfl (lv_at hl 1 rfl) ?_
      refine km_getr hx hb htT hown hK hP 20 (by decide) rfl (htT _ m_fl_X6_59) dX6_rule_115 ?_
      refine lv_iload hx hb dX6_rule_118 (lv_at hl 0 rfl) ?_
      refine lv_iload hx hb dX6_rule_120 (lv_at hl 5 rfl) ?_
      refine km_iast hx hb hK hP hD hS 20 rfl rfl (show vp_in (nI (5 * i + q)) 40 from ki_in (by omega) (by decide)) dX6_rule_122 (fun H locs hP hD hS => ?_)
      rw [ki_cl (n := 5 * i + q) (by omega)] at hP hD
      refine lv_aload_n hx hb dX6_rule_123 rfl (lv_at hl 1 rfl) ?_
      refine km_getr hx hb htT hown hK hP 21 (by decide) rfl (htT _ m_fl_X6_62) dX6_rule_124 ?_
      refine lv_iload hx hb dX6_rule_127 (lv_at hl 0 rfl) ?_
      refine lv_iload hx hb dX6_rule_129 (lv_at hl 6 rfl) ?_
      refine km_iast hx hb hK hP hD hS 21 rfl rfl (show vp_in (nI (5 * i + q)) 40 from ki_in (by omega) (by decide)) dX6_rule_131 (fun H locs hP hD hS => ?_)
      rw [ki_cl (n := 5 * i + q) (by omega)] at hP hD
      refine lv_aload_n hx hb dX6_rule_132 rfl (lv_at hl 1 rfl) ?_
      refine km_getr hx hb htT hown hK hP 17 (by decide) rfl (htT _ m_fl_X6_50) dX6_rule_133 ?_
      refine lv_iload_n hx hb dX6_rule_136 rfl (lv_at hl 2 rfl) ?_
      refine lv_dup2_11 hx hb dX6_rule_137 rfl rfl ?_
      refine km_ialdv (x := nI q) hx hb hK hP 17 rfl rfl (show vp_in (nI (i)) 8 from ki_in (by omega) (by decide)) ((congrArg _ (ki_cl (by omega))).trans h17) dX6_rule_138 ?_
      refine lv_iconst (v := 1) hx hb dX6_rule_139 (by decide) ?_
      refine lv_iadd hx hb dX6_rule_140 ?_
      rw [show ((nI q) + 1 : Int32) = nI (q + 1) from nI_add q 1]
      refine lv_dup_x2 hx hb dX6_rule_141 rfl rfl rfl ?_
      refine km_iast hx hb hK hP hD hS 17 rfl rfl (show vp_in (nI (i)) 8 from ki_in (by omega) (by decide)) dX6_rule_142 (fun H locs hP hD hS => ?_)
      rw [ki_cl (n := i) (by omega)] at hP hD
      exact W.iret (v := nI (q + 1)) hx hb hr (fun t ht hW => ⟨⟨nI (q + 1), mR (mR (mR (mR (mR (mS M 0 0) 18 (5 * i + q) p1) 19 (5 * i + q) p2) 20 (5 * i + q) p3) 21 (5 * i + q) (nI v)) 17 i (nI (q + 1)), rfl, ⟨rfl, rfl⟩, by rw [ht]; exact hP, va_K.moved hW.alike hK, hD⟩, hS.F ht⟩) hS.2.2 dX6_rule_143
    · exact absurd ((nI_eq (a := q) (b := 5) (by omega) (by omega)).mp c_12) (by omega)

