set_option maxRecDepth 100000 in
set_option maxHeartbeats 4000000 in
/-- add, where there is room -/
theorem m_addn (l : Launch) (D : va_G) (cA : Nat → ClassId) (sz : Nat) (am : Nat) (r : Nat → Nat) (M : MSt) (n : Nat) (hn8 : n < 8) (h3 : M.1 3 = nI n) (p0 p1 p2 : Int32) (hz : p2 = 0 ∨ p2 = 1) (h1 : kIn p0 0 498 = 1) (h2 : kIn p1 2 4 = 1) : Met l yX6_add (Cond.code yX6_add cX6_add 4 (some .int) :: TT) ({ frames := 1, cells := 0, slots := 0, locals := 22 }) (va_Pc [.ref am, .int p0, .int p1, .int p2] (kPre D cA (wM cA am r M) sz)) (va_Qi (fun (r_ : Int32) (x_ : MSt) => r_ = nI n ∧ x_ = mS (mR (mR (mR (mR (mR (mR (mR (mR (mS M 0 0) 4 n p0) 5 n p1) 6 (4 * n) 1000) 7 n 1000) 9 n (M.1 1)) 10 n p2) 12 n (-1)) 15 n (-1)) 3 (nI (n + 1))) (fun x_ => kB D cA (va_A (wM cA am r M) sz) (wM cA am r x_)) (va_A (wM cA am r M) sz)) 0 0 (va_A (wM cA am r M) sz) := by
  refine Met.ofW (cc := cX6_add) (maxL := 4) (ret := (some .int)) (by decide) rfl ?_
  intro p e s m args below meth c s₁ B hml hv
  obtain ⟨rfl, hsz, hP, hK, hD0, hTB⟩ := hv
  have hx := B.exec
  have hb := B.bytes
  have hr := B.returns
  have hts := atoms_spec (ws := Cond.code yX6_add cX6_add 4 (some .int) :: TT) B.pre
  have htT : ∀ w ∈ TT, w.before _ s = true := fun w h => hts w (List.mem_cons_of_mem _ h)
  have hown : s.vm.findClass RX6 = some m.cls := findClass_of_methodNamed B.named
  have hlocks := B.notSynchronized
  subst hsz
  have hD := hD0.self (sz := s.heap.size)
  generalize hAe : va_A (wM cA am r M) s.heap.size = A at hD ⊢
  have hA : ∀ q : Nat, s.heap.size ≤ q → A q := fun q h => by rw [← hAe]; exact Or.inr h
  have hS : va_S A s.heap s.heap [] := va_S.rf
  have hl := lv_entry ([.ref am, .int p0, .int p1, .int p2]) (n := 4) (Nat.le_of_ble_eq_true rfl)
  rw [lg_entry_eq]
  generalize (lg_sl ([.ref am, .int p0, .int p1, .int p2]) ++ List.replicate (4 - (lg_sl ([.ref am, .int p0, .int p1, .int p2])).length) Slot.unset).toArray = ls at hl ⊢
  have hl : lv_has ls 4 [(0, .ref am), (1, .int p0), (2, .int p1), (3, .int p2)] := hl
  refine lv_aload_n hx hb dX6_add_0 rfl (lv_at hl 0 rfl) ?_
  refine lv_iconst (v := 0) hx hb dX6_add_1 (by decide) ?_
  refine km_puti hx hb htT hown hK hP hD hS 0 (by decide) rfl (htT _ m_fl_X6_80) rfl (by decide +kernel) dX6_add_2 (fun H locs hP hD hS => ?_)
  refine lv_iload_n hx hb dX6_add_5 rfl (lv_at hl 1 rfl) ?_
  refine lv_iconst (v := 0) hx hb dX6_add_6 (by decide) ?_
  refine lv_sipush (v := 498) hx hb dX6_add_7 (by decide) ?_
  refine kc_i (va_runS (As := [.int p0, .int 0, .int 498]) (rest := []) ⟨hx, hb, hml, hown, htT⟩ (m_isIn l D cA _ am r (mS M 0 0) p0 0 498) (cwS 3 htT (kg_S m_ml_X6_87 m_st_X6_isIn m_in_X6 m_cd_X6_isIn) rfl rfl rfl (by decide +kernel) ⟨Nat.le_of_ble_eq_true rfl, Nat.le_of_ble_eq_true rfl⟩) (kp_S hK hP hD hTB) rfl rfl hl.1 rfl (lv_room (Nat.le_of_ble_eq_true rfl)) dX6_add_10 ⟨Nat.le_of_ble_eq_true rfl, Nat.le_of_ble_eq_true rfl⟩) hD hS hA (fun r_1 x_1 H locs hq_1 hP hD hS => ?_)
  rw [hq_1.1.trans h1]
  rw [hq_1.2] at hP hD
  refine lv_if_eq (tgt := 25) hx hb dX6_add_13 (by decide) (fun c_2 => absurd c_2 (by decide)) (fun _ => ?_)
  refine lv_iload_n hx hb dX6_add_16 rfl (lv_at hl 2 rfl) ?_
  refine lv_iconst (v := 2) hx hb dX6_add_17 (by decide) ?_
  refine lv_iconst (v := 4) hx hb dX6_add_18 (by decide) ?_
  refine kc_i (va_runS (As := [.int p1, .int 2, .int 4]) (rest := []) ⟨hx, hb, hml, hown, htT⟩ (m_isIn l D cA _ am r (mS M 0 0) p1 2 4) (cwS 3 htT (kg_S m_ml_X6_87 m_st_X6_isIn m_in_X6 m_cd_X6_isIn) rfl rfl rfl (by decide +kernel) ⟨Nat.le_of_ble_eq_true rfl, Nat.le_of_ble_eq_true rfl⟩) (kp_S hK hP hD hTB) rfl rfl hl.1 rfl (lv_room (Nat.le_of_ble_eq_true rfl)) dX6_add_19 ⟨Nat.le_of_ble_eq_true rfl, Nat.le_of_ble_eq_true rfl⟩) hD hS hA (fun r_3 x_3 H locs hq_3 hP hD hS => ?_)
  rw [hq_3.1.trans h2]
  rw [hq_3.2] at hP hD
  refine lv_if_ne (tgt := 31) hx hb dX6_add_22 (by decide) (fun _ => ?_) (fun c_4 => absurd c_4 (by decide))
  refine lv_aload_n hx hb dX6_add_31 rfl (lv_at hl 0 rfl) ?_
  refine km_getiv (x := nI n) hx hb htT hown hK hP 3 (by decide) rfl (htT _ m_fl_X6_84) h3 dX6_add_32 ?_
  refine lv_bipush (v := 8) hx hb dX6_add_35 (by decide) ?_
  refine lv_icmp_ne (tgt := 46) hx hb dX6_add_37 (by decide) (fun c_5 => ?_) (fun c_5 => ?_)
  · replace c_5 : ¬ (n = 8) := fun h9 => c_5 ((nI_eq (a := n) (b := 8) (by omega) (by omega)).mpr h9)
    refine lv_aload_n hx hb dX6_add_46 rfl (lv_at hl 0 rfl) ?_
    refine km_getr hx hb htT hown hK hP 4 (by decide) rfl (htT _ m_fl_X6_9) dX6_add_47 ?_
    refine lv_aload_n hx hb dX6_add_50 rfl (lv_at hl 0 rfl) ?_
    refine km_getiv (x := nI n) hx hb htT hown hK hP 3 (by decide) rfl (htT _ m_fl_X6_84) h3 dX6_add_51 ?_
    refine lv_iload_n hx hb dX6_add_54 rfl (lv_at hl 1 rfl) ?_
    refine km_iast hx hb hK hP hD hS 4 rfl rfl (show vp_in (nI (n)) 8 from ki_in (by omega) (by decide)) dX6_add_55 (fun H locs hP hD hS => ?_)
    rw [ki_cl (n := n) (by omega)] at hP hD
    refine lv_aload_n hx hb dX6_add_56 rfl (lv_at hl 0 rfl) ?_
    refine km_getr hx hb htT hown hK hP 5 (by decide) rfl (htT _ m_fl_X6_13) dX6_add_57 ?_
    refine lv_aload_n hx hb dX6_add_60 rfl (lv_at hl 0 rfl) ?_
    refine km_getiv (x := nI n) hx hb htT hown hK hP 3 (by decide) rfl (htT _ m_fl_X6_84) h3 dX6_add_61 ?_
    refine lv_iload_n hx hb dX6_add_64 rfl (lv_at hl 2 rfl) ?_
    refine km_iast hx hb hK hP hD hS 5 rfl rfl (show vp_in (nI (n)) 8 from ki_in (by omega) (by decide)) dX6_add_65 (fun H locs hP hD hS => ?_)
    rw [ki_cl (n := n) (by omega)] at hP hD
    refine lv_aload_n hx hb dX6_add_66 rfl (lv_at hl 0 rfl) ?_
    refine km_getr hx hb htT hown hK hP 6 (by decide) rfl (htT _ m_fl_X6_16) dX6_add_67 ?_
    refine lv_aload_n hx hb dX6_add_70 rfl (lv_at hl 0 rfl) ?_
    refine km_getiv (x := nI n) hx hb htT hown hK hP 3 (by decide) rfl (htT _ m_fl_X6_84) h3 dX6_add_71 ?_
    refine lv_iconst (v := 4) hx hb dX6_add_74 (by decide) ?_
    refine lv_imul hx hb dX6_add_75 ?_
    rw [show ((nI n) * 4 : Int32) = nI (4 * n) from (pk_mul n 4).trans (congrArg nI (by omega))]
    refine lv_sipush (v := 1000) hx hb dX6_add_76 (by decide) ?_
    refine km_iast hx hb hK hP hD hS 6 rfl rfl (show vp_in (nI (4 * n)) 32 from ki_in (by omega) (by decide)) dX6_add_79 (fun H locs hP hD hS => ?_)
    rw [ki_cl (n := 4 * n) (by omega)] at hP hD
    refine lv_aload_n hx hb dX6_add_80 rfl (lv_at hl 0 rfl) ?_
    refine km_getr hx hb htT hown hK hP 7 (by decide) rfl (htT _ m_fl_X6_19) dX6_add_81 ?_
    refine lv_aload_n hx hb dX6_add_84 rfl (lv_at hl 0 rfl) ?_
    refine km_getiv (x := nI n) hx hb htT hown hK hP 3 (by decide) rfl (htT _ m_fl_X6_84) h3 dX6_add_85 ?_
    refine lv_sipush (v := 1000) hx hb dX6_add_88 (by decide) ?_
    refine km_iast hx hb hK hP hD hS 7 rfl rfl (show vp_in (nI (n)) 8 from ki_in (by omega) (by decide)) dX6_add_91 (fun H locs hP hD hS => ?_)
    rw [ki_cl (n := n) (by omega)] at hP hD
    refine lv_aload_n hx hb dX6_add_92 rfl (lv_at hl 0 rfl) ?_
    refine km_getr hx hb htT hown hK hP 9 (by decide) rfl (htT _ m_fl_X6_25) dX6_add_93 ?_
    refine lv_aload_n hx hb dX6_add_96 rfl (lv_at hl 0 rfl) ?_
    refine km_getiv (x := nI n) hx hb htT hown hK hP 3 (by decide) rfl (htT _ m_fl_X6_84) h3 dX6_add_97 ?_
    refine lv_aload_n hx hb dX6_add_100 rfl (lv_at hl 0 rfl) ?_
    refine km_getiv (x := M.1 1) hx hb htT hown hK hP 1 (by decide) rfl (htT _ m_fl_X6_99) rfl dX6_add_101 ?_
    refine km_iast hx hb hK hP hD hS 9 rfl rfl (show vp_in (nI (n)) 8 from ki_in (by omega) (by decide)) dX6_add_104 (fun H locs hP hD hS => ?_)
    rw [ki_cl (n := n) (by omega)] at hP hD
    refine lv_aload_n hx hb dX6_add_105 rfl (lv_at hl 0 rfl) ?_
    refine km_getr hx hb htT hown hK hP 10 (by decide) rfl (htT _ m_fl_X6_28) dX6_add_106 ?_
    refine lv_aload_n hx hb dX6_add_109 rfl (lv_at hl 0 rfl) ?_
    refine km_getiv (x := nI n) hx hb htT hown hK hP 3 (by decide) rfl (htT _ m_fl_X6_84) h3 dX6_add_110 ?_
    refine lv_iload_n hx hb dX6_add_113 rfl (lv_at hl 3 rfl) ?_
    refine km_zast hx hb hK hP hD hS 10 rfl rfl hz (show vp_in (nI (n)) 8 from ki_in (by omega) (by decide)) dX6_add_114 (fun H locs hP hD hS => ?_)
    rw [ki_cl (n := n) (by omega)] at hP hD
    refine lv_aload_n hx hb dX6_add_115 rfl (lv_at hl 0 rfl) ?_
    refine km_getr hx hb htT hown hK hP 12 (by decide) rfl (htT _ m_fl_X6_35) dX6_add_116 ?_
    refine lv_aload_n hx hb dX6_add_119 rfl (lv_at hl 0 rfl) ?_
    refine km_getiv (x := nI n) hx hb htT hown hK hP 3 (by decide) rfl (htT _ m_fl_X6_84) h3 dX6_add_120 ?_
    refine lv_iconst (v := (-1)) hx hb dX6_add_123 (by decide) ?_
    refine km_iast hx hb hK hP hD hS 12 rfl rfl (show vp_in (nI (n)) 8 from ki_in (by omega) (by decide)) dX6_add_124 (fun H locs hP hD hS => ?_)
    rw [ki_cl (n := n) (by omega)] at hP hD
    refine lv_aload_n hx hb dX6_add_125 rfl (lv_at hl 0 rfl) ?_
    refine km_getr hx hb htT hown hK hP 15 (by decide) rfl (htT _ m_fl_X6_44) dX6_add_126 ?_
    refine lv_aload_n hx hb dX6_add_129 rfl (lv_at hl 0 rfl) ?_
    refine km_getiv (x := nI n) hx hb htT hown hK hP 3 (by decide) rfl (htT _ m_fl_X6_84) h3 dX6_add_130 ?_
    refine lv_iconst (v := (-1)) hx hb dX6_add_133 (by decide) ?_
    refine km_iast hx hb hK hP hD hS 15 rfl rfl (show vp_in (nI (n)) 8 from ki_in (by omega) (by decide)) dX6_add_134 (fun H locs hP hD hS => ?_)
    rw [ki_cl (n := n) (by omega)] at hP hD
    refine lv_aload_n hx hb dX6_add_135 rfl (lv_at hl 0 rfl) ?_
    refine lv_dup hx hb dX6_add_136 rfl ?_
    refine km_getiv (x := nI n) hx hb htT hown hK hP 3 (by decide) rfl (htT _ m_fl_X6_84) h3 dX6_add_137 ?_
    refine lv_dup_x1 hx hb dX6_add_140 rfl rfl ?_
    refine lv_iconst (v := 1) hx hb dX6_add_141 (by decide) ?_
    refine lv_iadd hx hb dX6_add_142 ?_
    rw [show ((nI n) + 1 : Int32) = nI (n + 1) from nI_add n 1]
    refine km_puti hx hb htT hown hK hP hD hS 3 (by decide) rfl (htT _ m_fl_X6_84) rfl (by decide +kernel) dX6_add_143 (fun H locs hP hD hS => ?_)
    exact W.iret (v := nI n) hx hb hr (fun t ht hW => ⟨⟨nI n, mS (mR (mR (mR (mR (mR (mR (mR (mR (mS M 0 0) 4 n p0) 5 n p1) 6 (4 * n) 1000) 7 n 1000) 9 n (M.1 1)) 10 n p2) 12 n (-1)) 15 n (-1)) 3 (nI (n + 1)), rfl, ⟨rfl, rfl⟩, by rw [ht]; exact hP, va_K.moved hW.alike hK, hD⟩, hS.F ht⟩) hS.2.2 dX6_add_146
  · exact absurd ((nI_eq (a := n) (b := 8) (by omega) (by omega)).mp c_5) (by omega)

set_option maxRecDepth 100000 in
set_option maxHeartbeats 4000000 in
/-- add, where all are there -/
theorem m_add_full (l : Launch) (D : va_G) (cA : Nat → ClassId) (sz : Nat) (am : Nat) (r : Nat → Nat) (M : MSt) (n : Nat) (hn8 : n = 8) (h3 : M.1 3 = nI n) (p0 p1 p2 : Int32) (hz : p2 = 0 ∨ p2 = 1) (h1 : kIn p0 0 498 = 1) (h2 : kIn p1 2 4 = 1) : Met l yX6_add (Cond.code yX6_add cX6_add 4 (some .int) :: TT) ({ frames := 1, cells := 0, slots := 0, locals := 22 }) (va_Pc [.ref am, .int p0, .int p1, .int p2] (kPre D cA (wM cA am r M) sz)) (va_Qi (fun (r_ : Int32) (x_ : MSt) => r_ = 0 ∧ x_ = mS (mS M 0 0) 0 2) (fun x_ => kB D cA (va_A (wM cA am r M) sz) (wM cA am r x_)) (va_A (wM cA am r M) sz)) 0 0 (va_A (wM cA am r M) sz) := by
  refine Met.ofW (cc := cX6_add) (maxL := 4) (ret := (some .int)) (by decide) rfl ?_
  intro p e s m args below meth c s₁ B hml hv
  obtain ⟨rfl, hsz, hP, hK, hD0, hTB⟩ := hv
  have hx := B.exec
  have hb := B.bytes
  have hr := B.returns
  have hts := atoms_spec (ws := Cond.code yX6_add cX6_add 4 (some .int) :: TT) B.pre
  have htT : ∀ w ∈ TT, w.before _ s = true := fun w h => hts w (List.mem_cons_of_mem _ h)
  have hown : s.vm.findClass RX6 = some m.cls := findClass_of_methodNamed B.named
  have hlocks := B.notSynchronized
  subst hsz
  have hD := hD0.self (sz := s.heap.size)
  generalize hAe : va_A (wM cA am r M) s.heap.size = A at hD ⊢
  have hA : ∀ q : Nat, s.heap.size ≤ q → A q := fun q h => by rw [← hAe]; exact Or.inr h
  have hS : va_S A s.heap s.heap [] := va_S.rf
  have hl := lv_entry ([.ref am, .int p0, .int p1, .int p2]) (n := 4) (Nat.le_of_ble_eq_true rfl)
  rw [lg_entry_eq]
  generalize (lg_sl ([.ref am, .int p0, .int p1, .int p2]) ++ List.replicate (4 - (lg_sl ([.ref am, .int p0, .int p1, .int p2])).length) Slot.unset).toArray = ls at hl ⊢
  have hl : lv_has ls 4 [(0, .ref am), (1, .int p0), (2, .int p1), (3, .int p2)] := hl
  refine lv_aload_n hx hb dX6_add_0 rfl (lv_at hl 0 rfl) ?_
  refine lv_iconst (v := 0) hx hb dX6_add_1 (by decide) ?_
  refine km_puti hx hb htT hown hK hP hD hS 0 (by decide) rfl (htT _ m_fl_X6_80) rfl (by decide +kernel) dX6_add_2 (fun H locs hP hD hS => ?_)
  refine lv_iload_n hx hb dX6_add_5 rfl (lv_at hl 1 rfl) ?_
  refine lv_iconst (v := 0) hx hb dX6_add_6 (by decide) ?_
  refine lv_sipush (v := 498) hx hb dX6_add_7 (by decide) ?_
  refine kc_i (va_runS (As := [.int p0, .int 0, .int 498]) (rest := []) ⟨hx, hb, hml, hown, htT⟩ (m_isIn l D cA _ am r (mS M 0 0) p0 0 498) (cwS 3 htT (kg_S m_ml_X6_87 m_st_X6_isIn m_in_X6 m_cd_X6_isIn) rfl rfl rfl (by decide +kernel) ⟨Nat.le_of_ble_eq_true rfl, Nat.le_of_ble_eq_true rfl⟩) (kp_S hK hP hD hTB) rfl rfl hl.1 rfl (lv_room (Nat.le_of_ble_eq_true rfl)) dX6_add_10 ⟨Nat.le_of_ble_eq_true rfl, Nat.le_of_ble_eq_true rfl⟩) hD hS hA (fun r_1 x_1 H locs hq_1 hP hD hS => ?_)
  rw [hq_1.1.trans h1]
  rw [hq_1.2] at hP hD
  refine lv_if_eq (tgt := 25) hx hb dX6_add_13 (by decide) (fun c_2 => absurd c_2 (by decide)) (fun _ => ?_)
  refine lv_iload_n hx hb dX6_add_16 rfl (lv_at hl 2 rfl) ?_
  refine lv_iconst (v := 2) hx hb dX6_add_17 (by decide) ?_
  refine lv_iconst (v := 4) hx hb dX6_add_18 (by decide) ?_
  refine kc_i (va_runS (As := [.int p1, .int 2, .int 4]) (rest := []) ⟨hx, hb, hml, hown, htT⟩ (m_isIn l D cA _ am r (mS M 0 0) p1 2 4) (cwS 3 htT (kg_S m_ml_X6_87 m_st_X6_isIn m_in_X6 m_cd_X6_isIn) rfl rfl rfl (by decide +kernel) ⟨Nat.le_of_ble_eq_true rfl, Nat.le_of_ble_eq_true rfl⟩) (kp_S hK hP hD hTB) rfl rfl hl.1 rfl (lv_room (Nat.le_of_ble_eq_true rfl)) dX6_add_19 ⟨Nat.le_of_ble_eq_true rfl, Nat.le_of_ble_eq_true rfl⟩) hD hS hA (fun r_3 x_3 H locs hq_3 hP hD hS => ?_)
  rw [hq_3.1.trans h2]
  rw [hq_3.2] at hP hD
  refine lv_if_ne (tgt := 31) hx hb dX6_add_22 (by decide) (fun _ => ?_) (fun c_4 => absurd c_4 (by decide))
  refine lv_aload_n hx hb dX6_add_31 rfl (lv_at hl 0 rfl) ?_
  refine km_getiv (x := nI n) hx hb htT hown hK hP 3 (by decide) rfl (htT _ m_fl_X6_84) h3 dX6_add_32 ?_
  refine lv_bipush (v := 8) hx hb dX6_add_35 (by decide) ?_
  refine lv_icmp_ne (tgt := 46) hx hb dX6_add_37 (by decide) (fun c_5 => ?_) (fun c_5 => ?_)
  · exact absurd ((nI_eq (a := n) (b := 8) (by omega) (by omega)).mpr hn8) c_5
  · replace c_5 := (nI_eq (a := n) (b := 8) (by omega) (by omega)).mp c_5
    refine lv_aload_n hx hb dX6_add_40 rfl (lv_at hl 0 rfl) ?_
    refine lv_iconst (v := 2) hx hb dX6_add_41 (by decide) ?_
    refine kc_i (va_runV (As := [.int 2]) (rest := []) ⟨hx, hb, hml, hown, htT⟩ (m_no l D cA _ am r (mS M 0 0) 2) (cwV 1 htT (kg_V m_ml_X6_95 m_im_X6_no m_sl_X6_no m_in_X6 m_cd_X6_no) rfl rfl rfl (by decide +kernel) ⟨Nat.le_of_ble_eq_true rfl, Nat.le_of_ble_eq_true rfl⟩) (kp_V hK hP hD hTB (km_rc hK hP)) rfl rfl hl.1 rfl (lv_room (Nat.le_of_ble_eq_true rfl)) dX6_add_42 ⟨Nat.le_of_ble_eq_true rfl, Nat.le_of_ble_eq_true rfl⟩) hD hS hA (fun r_6 x_6 H locs hq_6 hP hD hS => ?_)
    rw [hq_6.1]
    rw [hq_6.2] at hP hD
    exact W.iret (v := 0) hx hb hr (fun t ht hW => ⟨⟨0, mS (mS M 0 0) 0 2, rfl, ⟨rfl, rfl⟩, by rw [ht]; exact hP, va_K.moved hW.alike hK, hD⟩, hS.F ht⟩) hS.2.2 dX6_add_45

