set_option maxRecDepth 100000 in
set_option maxHeartbeats 4000000 in
/-- how far a ramp is -/
theorem m_farIn (l : Launch) (D : va_G) (cA : Nat → ClassId) (sz : Nat) (am : Nat) (r : Nat → Nat) (M : MSt) (i : Nat) (hi : i < 8) (tk : Int32) : Met l yX6_farIn (Cond.code yX6_farIn cX6_farIn 3 (some .int) :: TT) ({ frames := 1, cells := 0, slots := 0, locals := 15 }) (va_Pc [.ref am, .int (nI i), .int tk] (kPre D cA (wM cA am r M) sz)) (va_Qi (fun (r_ : Int32) (x_ : MSt) => r_ = rFar M.2 i (M.1 1 + tk) ∧ x_ = M) (fun x_ => kB D cA (va_A (wM cA am r M) sz) (wM cA am r x_)) (va_A (wM cA am r M) sz)) 0 0 (va_A (wM cA am r M) sz) := by
  refine Met.ofW (cc := cX6_farIn) (maxL := 3) (ret := (some .int)) (by decide) rfl ?_
  intro p e s m args below meth c s₁ B hml hv
  obtain ⟨rfl, hsz, hP, hK, hD0, hTB⟩ := hv
  have hx := B.exec
  have hb := B.bytes
  have hr := B.returns
  have hts := atoms_spec (ws := Cond.code yX6_farIn cX6_farIn 3 (some .int) :: TT) B.pre
  have htT : ∀ w ∈ TT, w.before _ s = true := fun w h => hts w (List.mem_cons_of_mem _ h)
  have hown : s.vm.findClass RX6 = some m.cls := findClass_of_methodNamed B.named
  have hlocks := B.notSynchronized
  subst hsz
  have hD := hD0.self (sz := s.heap.size)
  generalize hAe : va_A (wM cA am r M) s.heap.size = A at hD ⊢
  have hA : ∀ q : Nat, s.heap.size ≤ q → A q := fun q h => by rw [← hAe]; exact Or.inr h
  have hS : va_S A s.heap s.heap [] := va_S.rf
  have hl := lv_entry ([.ref am, .int (nI i), .int tk]) (n := 3) (Nat.le_of_ble_eq_true rfl)
  rw [lg_entry_eq]
  generalize (lg_sl ([.ref am, .int (nI i), .int tk]) ++ List.replicate (3 - (lg_sl ([.ref am, .int (nI i), .int tk])).length) Slot.unset).toArray = ls at hl ⊢
  have hl : lv_has ls 3 [(0, .ref am), (1, .int (nI i)), (2, .int tk)] := hl
  refine lv_ldc2 (v := 1000) hx hb hown (htT _ m_lc_X6_109) dX6_farIn_0 ?_
  refine lv_aload_n hx hb dX6_farIn_3 rfl (lv_at hl 0 rfl) ?_
  refine km_getr hx hb htT hown hK hP 7 (by decide) rfl (htT _ m_fl_X6_19) dX6_farIn_4 ?_
  refine lv_iload_n hx hb dX6_farIn_7 rfl (lv_at hl 1 rfl) ?_
  refine km_ialdv (x := (M.2 7) i) hx hb hK hP 7 rfl rfl (show vp_in (nI (i)) 8 from ki_in (by omega) (by decide)) (congrArg _ (ki_cl (by omega))) dX6_farIn_8 ?_
  refine lv_i2l (v := ((M.2 7) i).toInt64) hx hb dX6_farIn_9 rfl ?_
  refine lv_aload_n hx hb dX6_farIn_10 rfl (lv_at hl 0 rfl) ?_
  refine km_getr hx hb htT hown hK hP 8 (by decide) rfl (htT _ m_fl_X6_22) dX6_farIn_11 ?_
  refine lv_iload_n hx hb dX6_farIn_14 rfl (lv_at hl 1 rfl) ?_
  refine km_ialdv (x := (M.2 8) i) hx hb hK hP 8 rfl rfl (show vp_in (nI (i)) 8 from ki_in (by omega) (by decide)) (congrArg _ (ki_cl (by omega))) dX6_farIn_15 ?_
  refine lv_i2l (v := ((M.2 8) i).toInt64) hx hb dX6_farIn_16 rfl ?_
  refine lv_aload_n hx hb dX6_farIn_17 rfl (lv_at hl 0 rfl) ?_
  refine km_getiv (x := M.1 1) hx hb htT hown hK hP 1 (by decide) rfl (htT _ m_fl_X6_99) rfl dX6_farIn_18 ?_
  refine lv_iload_n hx hb dX6_farIn_21 rfl (lv_at hl 2 rfl) ?_
  refine lv_iadd hx hb dX6_farIn_22 ?_
  refine lv_aload_n hx hb dX6_farIn_23 rfl (lv_at hl 0 rfl) ?_
  refine km_getr hx hb htT hown hK hP 9 (by decide) rfl (htT _ m_fl_X6_25) dX6_farIn_24 ?_
  refine lv_iload_n hx hb dX6_farIn_27 rfl (lv_at hl 1 rfl) ?_
  refine km_ialdv (x := (M.2 9) i) hx hb hK hP 9 rfl rfl (show vp_in (nI (i)) 8 from ki_in (by omega) (by decide)) (congrArg _ (ki_cl (by omega))) dX6_farIn_28 ?_
  refine lv_isub hx hb dX6_farIn_29 ?_
  refine lv_i2l (v := (((M.1 1) + tk) - ((M.2 9) i)).toInt64) hx hb dX6_farIn_30 rfl ?_
  refine lv_lmul hx hb dX6_farIn_31 ?_
  refine lv_ladd hx hb dX6_farIn_32 ?_
  refine va_mmin_long hx hb (hml.trans hl.1.symm) hown (htT _ m_ml_X6_111) (htT _ m_st_J9_min_f86c9) (htT _ m_in_Math) (htT _ m_cd_J9_min_f86c9) (Nat.le_of_ble_eq_true rfl) (Nat.le_of_ble_eq_true rfl) (Nat.le_of_ble_eq_true rfl) (Nat.le_of_ble_eq_true rfl) dX6_farIn_33 ?_
  refine lv_l2i (v := (kMin 1000 ((((M.2 7) i).toInt64) + ((((M.2 8) i).toInt64) * ((((M.1 1) + tk) - ((M.2 9) i)).toInt64)))).toInt32) hx hb dX6_farIn_36 rfl ?_
  exact W.iret (v := (kMin 1000 ((((M.2 7) i).toInt64) + ((((M.2 8) i).toInt64) * ((((M.1 1) + tk) - ((M.2 9) i)).toInt64)))).toInt32) hx hb hr (fun t ht hW => ⟨⟨(kMin 1000 ((((M.2 7) i).toInt64) + ((((M.2 8) i).toInt64) * ((((M.1 1) + tk) - ((M.2 9) i)).toInt64)))).toInt32, M, rfl, ⟨rfl, rfl⟩, by rw [ht]; exact hP, va_K.moved hW.alike hK, hD⟩, hS.F ht⟩) hS.2.2 dX6_farIn_37

set_option maxRecDepth 100000 in
set_option maxHeartbeats 4000000 in
/-- the place of an arm -/
theorem m_armAt (l : Launch) (D : va_G) (cA : Nat → ClassId) (sz : Nat) (am : Nat) (r : Nat → Nat) (M : MSt) (na : Nat) (hna : na ≤ 100) (h22 : M.1 22 = nI na) (one u : Int32) : Met l yX6_armAt (Cond.code yX6_armAt cX6_armAt 4 (some .int) :: TT) ({ frames := 0, cells := 0, slots := 0, locals := 0 }) (va_Pc [.ref am, .int one, .int u] (kPre D cA (wM cA am r M) sz)) (va_Qi (fun (r_ : Int32) (x_ : MSt) => r_ = rArm M.2 one u na 0 ∧ x_ = M) (fun x_ => kB D cA (va_A (wM cA am r M) sz) (wM cA am r x_)) (va_A (wM cA am r M) sz)) 0 0 (va_A (wM cA am r M) sz) := by
  refine Met.ofW (cc := cX6_armAt) (maxL := 4) (ret := (some .int)) (by decide) rfl ?_
  intro p e s m args below meth c s₁ B hml hv
  obtain ⟨rfl, hsz, hP, hK, hD0, hTB⟩ := hv
  have hx := B.exec
  have hb := B.bytes
  have hr := B.returns
  have hts := atoms_spec (ws := Cond.code yX6_armAt cX6_armAt 4 (some .int) :: TT) B.pre
  have htT : ∀ w ∈ TT, w.before _ s = true := fun w h => hts w (List.mem_cons_of_mem _ h)
  have hown : s.vm.findClass RX6 = some m.cls := findClass_of_methodNamed B.named
  have hlocks := B.notSynchronized
  subst hsz
  have hD := hD0.self (sz := s.heap.size)
  generalize hAe : va_A (wM cA am r M) s.heap.size = A at hD ⊢
  have hA : ∀ q : Nat, s.heap.size ≤ q → A q := fun q h => by rw [← hAe]; exact Or.inr h
  have hS : va_S A s.heap s.heap [] := va_S.rf
  have hl := lv_entry ([.ref am, .int one, .int u]) (n := 4) (Nat.le_of_ble_eq_true rfl)
  rw [lg_entry_eq]
  generalize (lg_sl ([.ref am, .int one, .int u]) ++ List.replicate (4 - (lg_sl ([.ref am, .int one, .int u])).length) Slot.unset).toArray = ls at hl ⊢
  have hl : lv_has ls 4 [(0, .ref am), (1, .int one), (2, .int u)] := hl
  refine lv_iconst (v := 0) hx hb dX6_armAt_0 (by decide) ?_
  refine lv_istore_n (lv' := [(3, .int 0), (0, .ref am), (1, .int one), (2, .int u)]) hx hb dX6_armAt_1 rfl hl (by decide) rfl (fun ls hl => ?_)
  refine kz_loop 2 (fun n H locs ls => ∃ (j : Nat), n = na - j ∧ j ≤ na ∧ rArm M.2 one u na 0 = rArm M.2 one u (na - j) j ∧ va_P D vwCl (wM cA am r M) H ∧ va_D A (wM cA am r M) ∧ va_S A s.heap H locs ∧ lv_has ls 4 [(3, .int (nI j)), (2, .int u), (1, .int one), (0, .ref am)]) (fun n ih_2 H locs ls hI => ?_) ⟨0, rfl, by omega, rfl, hP, hD, hS, lv_sub hl [0, 3, 2, 1] rfl⟩
  obtain ⟨j, hn9, hj, hF, hP, hD, hS, hl⟩ := hI
  refine lv_iload_n hx hb dX6_armAt_2 rfl (lv_at hl 0 rfl) ?_
  refine lv_aload_n hx hb dX6_armAt_3 rfl (lv_at hl 3 rfl) ?_
  refine km_getiv (x := nI na) hx hb htT hown hK hP 22 (by decide) rfl (htT _ m_fl_X6_151) h22 dX6_armAt_4 ?_
  refine lv_icmp_ge (tgt := 38) hx hb dX6_armAt_7 (by decide) (fun c_1 => ?_) (fun c_1 => ?_)
  · replace c_1 := (nI_leI (a := na) (b := j) (by omega) (by omega)).mp c_1
    refine lv_iconst (v := (-1)) hx hb dX6_armAt_38 (by decide) ?_
    exact W.iret (v := -1) hx hb hr (fun t ht hW => ⟨⟨-1, M, rfl, ⟨by rw [hF, show na - j = 0 by omega]; rfl, rfl⟩, by rw [ht]; exact hP, va_K.moved hW.alike hK, hD⟩, hS.F ht⟩) hS.2.2 dX6_armAt_39
  · replace c_1 : ¬ (na ≤ j) := fun h9 => c_1 ((nI_leI (a := na) (b := j) (by omega) (by omega)).mpr h9)
    refine lv_aload_n hx hb dX6_armAt_10 rfl (lv_at hl 3 rfl) ?_
    refine km_getr hx hb htT hown hK hP 23 (by decide) rfl (htT _ m_fl_X6_65) dX6_armAt_11 ?_
    refine lv_iload_n hx hb dX6_armAt_14 rfl (lv_at hl 0 rfl) ?_
    refine km_ialdv (x := (M.2 23) j) hx hb hK hP 23 rfl rfl (show vp_in (nI (j)) 100 from ki_in (by omega) (by decide)) (congrArg _ (ki_cl (by omega))) dX6_armAt_15 ?_
    refine lv_iload_n hx hb dX6_armAt_16 rfl (lv_at hl 2 rfl) ?_
    refine lv_icmp_ne (tgt := 32) hx hb dX6_armAt_17 (by decide) (fun c_2 => ?_) (fun c_2 => ?_)
    · refine lv_iinc (v := nI (j + 1)) (lv' := [(3, .int (nI (j + 1))), (2, .int u), (1, .int one), (0, .ref am)]) hx hb dX6_armAt_32 hl (k := 0) rfl (nI_1 _) (by decide) rfl (fun ls hl => ?_)
      refine lv_goto (tgt := 2) hx hb dX6_armAt_35 (by decide) ?_
      have hl := lv_sub hl [0, 1, 2, 3] rfl
      exact ih_2 _ (by omega) H locs ls ⟨j + 1, rfl, by omega, by rw [hF, show na - j = (na - (j + 1)) + 1 by omega]; simp [rArm, c_2], hP, hD, hS, hl⟩
    · refine lv_aload_n hx hb dX6_armAt_20 rfl (lv_at hl 3 rfl) ?_
      refine km_getr hx hb htT hown hK hP 24 (by decide) rfl (htT _ m_fl_X6_68) dX6_armAt_21 ?_
      refine lv_iload_n hx hb dX6_armAt_24 rfl (lv_at hl 0 rfl) ?_
      refine km_ialdv (x := (M.2 24) j) hx hb hK hP 24 rfl rfl (show vp_in (nI (j)) 100 from ki_in (by omega) (by decide)) (congrArg _ (ki_cl (by omega))) dX6_armAt_25 ?_
      refine lv_iload_n hx hb dX6_armAt_26 rfl (lv_at hl 1 rfl) ?_
      refine lv_icmp_ne (tgt := 32) hx hb dX6_armAt_27 (by decide) (fun c_3 => ?_) (fun c_3 => ?_)
      · refine lv_iinc (v := nI (j + 1)) (lv' := [(3, .int (nI (j + 1))), (2, .int u), (1, .int one), (0, .ref am)]) hx hb dX6_armAt_32 hl (k := 0) rfl (nI_1 _) (by decide) rfl (fun ls hl => ?_)
        refine lv_goto (tgt := 2) hx hb dX6_armAt_35 (by decide) ?_
        have hl := lv_sub hl [0, 1, 2, 3] rfl
        exact ih_2 _ (by omega) H locs ls ⟨j + 1, rfl, by omega, by rw [hF, show na - j = (na - (j + 1)) + 1 by omega]; simp [rArm, c_2, c_3], hP, hD, hS, hl⟩
      · refine lv_iload_n hx hb dX6_armAt_30 rfl (lv_at hl 0 rfl) ?_
        exact W.iret (v := nI j) hx hb hr (fun t ht hW => ⟨⟨nI j, M, rfl, ⟨by rw [hF, show na - j = (na - (j + 1)) + 1 by omega]; simp [rArm, c_2, c_3], rfl⟩, by rw [ht]; exact hP, va_K.moved hW.alike hK, hD⟩, hS.F ht⟩) hS.2.2 dX6_armAt_31

set_option maxRecDepth 100000 in
set_option maxHeartbeats 4000000 in
/-- the first rule that holds -/
theorem m_holdsNow (l : Launch) (D : va_G) (cA : Nat → ClassId) (sz : Nat) (am : Nat) (r : Nat → Nat) (M : MSt) (i : Nat) (hi : i < 8) (ru : Nat) (hru : ru ≤ 5) (h17 : M.2 17 i = nI ru) (f g : Int32) : Met l yX6_holdsNow (Cond.code yX6_holdsNow cX6_holdsNow 6 (some .int) :: TT) ({ frames := 0, cells := 0, slots := 0, locals := 0 }) (va_Pc [.ref am, .int (nI i), .int f, .int g] (kPre D cA (wM cA am r M) sz)) (va_Qi (fun (r_ : Int32) (x_ : MSt) => r_ = rHold M.2 i f g ru 0 ∧ x_ = M) (fun x_ => kB D cA (va_A (wM cA am r M) sz) (wM cA am r x_)) (va_A (wM cA am r M) sz)) 0 0 (va_A (wM cA am r M) sz) := by
  refine Met.ofW (cc := cX6_holdsNow) (maxL := 6) (ret := (some .int)) (by decide) rfl ?_
  intro p e s m args below meth c s₁ B hml hv
  obtain ⟨rfl, hsz, hP, hK, hD0, hTB⟩ := hv
  have hx := B.exec
  have hb := B.bytes
  have hr := B.returns
  have hts := atoms_spec (ws := Cond.code yX6_holdsNow cX6_holdsNow 6 (some .int) :: TT) B.pre
  have htT : ∀ w ∈ TT, w.before _ s = true := fun w h => hts w (List.mem_cons_of_mem _ h)
  have hown : s.vm.findClass RX6 = some m.cls := findClass_of_methodNamed B.named
  have hlocks := B.notSynchronized
  subst hsz
  have hD := hD0.self (sz := s.heap.size)
  generalize hAe : va_A (wM cA am r M) s.heap.size = A at hD ⊢
  have hA : ∀ q : Nat, s.heap.size ≤ q → A q := fun q h => by rw [← hAe]; exact Or.inr h
  have hS : va_S A s.heap s.heap [] := va_S.rf
  have hl := lv_entry ([.ref am, .int (nI i), .int f, .int g]) (n := 6) (Nat.le_of_ble_eq_true rfl)
  rw [lg_entry_eq]
  generalize (lg_sl ([.ref am, .int (nI i), .int f, .int g]) ++ List.replicate (6 - (lg_sl ([.ref am, .int (nI i), .int f, .int g])).length) Slot.unset).toArray = ls at hl ⊢
  have hl : lv_has ls 6 [(0, .ref am), (1, .int (nI i)), (2, .int f), (3, .int g)] := hl
  refine lv_iload_n hx hb dX6_holdsNow_0 rfl (lv_at hl 1 rfl) ?_
  refine lv_iconst (v := 5) hx hb dX6_holdsNow_1 (by decide) ?_
  refine lv_imul hx hb dX6_holdsNow_2 ?_
  rw [show ((nI i) * 5 : Int32) = nI (5 * i) from (pk_mul i 5).trans (congrArg nI (by omega))]
  refine lv_istore (lv' := [(4, .int (nI (5 * i))), (0, .ref am), (1, .int (nI i)), (2, .int f), (3, .int g)]) hx hb dX6_holdsNow_3 hl (by decide) rfl (fun ls hl => ?_)
  refine kz_loop 5 (fun n H locs ls => ∃ (j : Nat), n = ru - j ∧ j ≤ ru ∧ rHold M.2 i f g ru 0 = rHold M.2 i f g (ru - j) j ∧ va_P D vwCl (wM cA am r M) H ∧ va_D A (wM cA am r M) ∧ va_S A s.heap H locs ∧ lv_has ls 6 [(4, .int (nI (5 * i + j))), (3, .int g), (2, .int f), (1, .int (nI i)), (0, .ref am)]) (fun n ih_5 H locs ls hI => ?_) ⟨0, rfl, by omega, rfl, hP, hD, hS, lv_sub hl [0, 4, 3, 2, 1] rfl⟩
  obtain ⟨j, hn9, hj, hF, hP, hD, hS, hl⟩ := hI
  refine lv_iload hx hb dX6_holdsNow_5 (lv_at hl 0 rfl) ?_
  refine lv_iload_n hx hb dX6_holdsNow_7 rfl (lv_at hl 3 rfl) ?_
  refine lv_iconst (v := 5) hx hb dX6_holdsNow_8 (by decide) ?_
  refine lv_imul hx hb dX6_holdsNow_9 ?_
  rw [show ((nI i) * 5 : Int32) = nI (5 * i) from (pk_mul i 5).trans (congrArg nI (by omega))]
  refine lv_aload_n hx hb dX6_holdsNow_10 rfl (lv_at hl 4 rfl) ?_
  refine km_getr hx hb htT hown hK hP 17 (by decide) rfl (htT _ m_fl_X6_50) dX6_holdsNow_11 ?_
  refine lv_iload_n hx hb dX6_holdsNow_14 rfl (lv_at hl 3 rfl) ?_
  refine km_ialdv (x := nI ru) hx hb hK hP 17 rfl rfl (show vp_in (nI (i)) 8 from ki_in (by omega) (by decide)) ((congrArg _ (ki_cl (by omega))).trans h17) dX6_holdsNow_15 ?_
  refine lv_iadd hx hb dX6_holdsNow_16 ?_
  rw [show ((nI (5 * i)) + (nI ru) : Int32) = nI (5 * i + ru) from (nI_add (5 * i) ru).trans (congrArg nI (by omega))]
  refine lv_icmp_ge (tgt := 114) hx hb dX6_holdsNow_17 (by decide) (fun c_1 => ?_) (fun c_1 => ?_)
  · replace c_1 := (nI_leI (a := 5 * i + ru) (b := 5 * i + j) (by omega) (by omega)).mp c_1
    refine lv_iconst (v := (-1)) hx hb dX6_holdsNow_114 (by decide) ?_
    exact W.iret (v := -1) hx hb hr (fun t ht hW => ⟨⟨-1, M, rfl, ⟨by rw [hF, show ru - j = 0 by omega]; rfl, rfl⟩, by rw [ht]; exact hP, va_K.moved hW.alike hK, hD⟩, hS.F ht⟩) hS.2.2 dX6_holdsNow_115
  · replace c_1 : ¬ (5 * i + ru ≤ 5 * i + j) := fun h9 => c_1 ((nI_leI (a := 5 * i + ru) (b := 5 * i + j) (by omega) (by omega)).mpr h9)
    refine lv_aload_n hx hb dX6_holdsNow_20 rfl (lv_at hl 4 rfl) ?_
    refine km_getr hx hb htT hown hK hP 18 (by decide) rfl (htT _ m_fl_X6_53) dX6_holdsNow_21 ?_
    refine lv_iload hx hb dX6_holdsNow_24 (lv_at hl 0 rfl) ?_
    refine km_ialdv (x := (M.2 18) (5 * i + j)) hx hb hK hP 18 rfl rfl (show vp_in (nI (5 * i + j)) 40 from ki_in (by omega) (by decide)) (congrArg _ (ki_cl (by omega))) dX6_holdsNow_26 ?_
    refine lv_if_ne (tgt := 34) hx hb dX6_holdsNow_27 (by decide) (fun c_2 => ?_) (fun c_2 => ?_)
    · refine lv_iload_n hx hb dX6_holdsNow_34 rfl (lv_at hl 1 rfl) ?_
      refine lv_istore (lv' := [(5, .int g), (4, .int (nI (5 * i + j))), (3, .int g), (2, .int f), (1, .int (nI i)), (0, .ref am)]) hx hb dX6_holdsNow_35 hl (by decide) rfl (fun ls hl => ?_)
      refine lv_aload_n hx hb dX6_holdsNow_37 rfl (lv_at hl 5 rfl) ?_
      refine km_getr hx hb htT hown hK hP 19 (by decide) rfl (htT _ m_fl_X6_56) dX6_holdsNow_38 ?_
      refine lv_iload hx hb dX6_holdsNow_41 (lv_at hl 1 rfl) ?_
      refine km_ialdv (x := (M.2 19) (5 * i + j)) hx hb hK hP 19 rfl rfl (show vp_in (nI (5 * i + j)) 40 from ki_in (by omega) (by decide)) (congrArg _ (ki_cl (by omega))) dX6_holdsNow_43 ?_
      refine lv_iconst (v := 1) hx hb dX6_holdsNow_44 (by decide) ?_
      refine lv_icmp_ne (tgt := 63) hx hb dX6_holdsNow_45 (by decide) (fun c_3 => ?_) (fun c_3 => ?_)
      · refine lv_aload_n hx hb dX6_holdsNow_63 rfl (lv_at hl 5 rfl) ?_
        refine km_getr hx hb htT hown hK hP 19 (by decide) rfl (htT _ m_fl_X6_56) dX6_holdsNow_64 ?_
        refine lv_iload hx hb dX6_holdsNow_67 (lv_at hl 1 rfl) ?_
        refine km_ialdv (x := (M.2 19) (5 * i + j)) hx hb hK hP 19 rfl rfl (show vp_in (nI (5 * i + j)) 40 from ki_in (by omega) (by decide)) (congrArg _ (ki_cl (by omega))) dX6_holdsNow_69 ?_
        refine lv_iconst (v := 2) hx hb dX6_holdsNow_70 (by decide) ?_
        refine lv_icmp_ne (tgt := 89) hx hb dX6_holdsNow_71 (by decide) (fun c_4 => ?_) (fun c_4 => ?_)
        · refine lv_iload hx hb dX6_holdsNow_89 (lv_at hl 0 rfl) ?_
          refine lv_aload_n hx hb dX6_holdsNow_91 rfl (lv_at hl 5 rfl) ?_
          refine km_getr hx hb htT hown hK hP 20 (by decide) rfl (htT _ m_fl_X6_59) dX6_holdsNow_92 ?_
          refine lv_iload hx hb dX6_holdsNow_95 (lv_at hl 1 rfl) ?_
          refine km_ialdv (x := (M.2 20) (5 * i + j)) hx hb hK hP 20 rfl rfl (show vp_in (nI (5 * i + j)) 40 from ki_in (by omega) (by decide)) (congrArg _ (ki_cl (by omega))) dX6_holdsNow_97 ?_
          refine lv_icmp_le (tgt := 108) hx hb dX6_holdsNow_98 (by decide) (fun c_5 => ?_) (fun c_5 => ?_)
          · replace c_5 := Int32.not_lt.mpr c_5
            refine lv_iinc (v := nI ((5 * i + j) + 1)) (lv' := [(4, .int (nI ((5 * i + j) + 1))), (5, .int g), (3, .int g), (2, .int f), (1, .int (nI i)), (0, .ref am)]) hx hb dX6_holdsNow_108 hl (k := 1) rfl (nI_1 _) (by decide) rfl (fun ls hl => ?_)
            refine lv_goto (tgt := 5) hx hb dX6_holdsNow_111 (by decide) ?_
            have hl := lv_sub hl [0, 2, 3, 4, 5] rfl
            exact ih_5 _ (by omega) H locs ls ⟨j + 1, rfl, by omega, by rw [hF, show ru - j = (ru - (j + 1)) + 1 by omega]; simp [rHold, rMeets, c_2, c_3, c_4, c_5], hP, hD, hS, hl⟩
          · replace c_5 := Int32.not_le.mp c_5
            refine lv_iload hx hb dX6_holdsNow_101 (lv_at hl 1 rfl) ?_
            refine lv_iload_n hx hb dX6_holdsNow_103 rfl (lv_at hl 4 rfl) ?_
            refine lv_iconst (v := 5) hx hb dX6_holdsNow_104 (by decide) ?_
            refine lv_imul hx hb dX6_holdsNow_105 ?_
            rw [show ((nI i) * 5 : Int32) = nI (5 * i) from (pk_mul i 5).trans (congrArg nI (by omega))]
            refine lv_isub hx hb dX6_holdsNow_106 ?_
            rw [show ((nI (5 * i + j)) - (nI (5 * i)) : Int32) = nI (j) from (pk_sub (a := 5 * i + j) (b := 5 * i) (by omega)).trans (congrArg nI (by omega))]
            exact W.iret (v := nI (j)) hx hb hr (fun t ht hW => ⟨⟨nI (j), M, rfl, ⟨by rw [hF, show ru - j = (ru - (j + 1)) + 1 by omega]; simp [rHold, rMeets, c_2, c_3, c_4, c_5], rfl⟩, by rw [ht]; exact hP, va_K.moved hW.alike hK, hD⟩, hS.F ht⟩) hS.2.2 dX6_holdsNow_107
        · refine lv_iload hx hb dX6_holdsNow_74 (lv_at hl 0 rfl) ?_
          refine lv_aload_n hx hb dX6_holdsNow_76 rfl (lv_at hl 5 rfl) ?_
          refine km_getr hx hb htT hown hK hP 20 (by decide) rfl (htT _ m_fl_X6_59) dX6_holdsNow_77 ?_
          refine lv_iload hx hb dX6_holdsNow_80 (lv_at hl 1 rfl) ?_
          refine km_ialdv (x := (M.2 20) (5 * i + j)) hx hb hK hP 20 rfl rfl (show vp_in (nI (5 * i + j)) 40 from ki_in (by omega) (by decide)) (congrArg _ (ki_cl (by omega))) dX6_holdsNow_82 ?_
          refine lv_icmp_ne (tgt := 108) hx hb dX6_holdsNow_83 (by decide) (fun c_6 => ?_) (fun c_6 => ?_)
          · refine lv_iinc (v := nI ((5 * i + j) + 1)) (lv' := [(4, .int (nI ((5 * i + j) + 1))), (5, .int g), (3, .int g), (2, .int f), (1, .int (nI i)), (0, .ref am)]) hx hb dX6_holdsNow_108 hl (k := 1) rfl (nI_1 _) (by decide) rfl (fun ls hl => ?_)
            refine lv_goto (tgt := 5) hx hb dX6_holdsNow_111 (by decide) ?_
            have hl := lv_sub hl [0, 2, 3, 4, 5] rfl
            exact ih_5 _ (by omega) H locs ls ⟨j + 1, rfl, by omega, by rw [hF, show ru - j = (ru - (j + 1)) + 1 by omega]; simp [rHold, rMeets, c_2, c_3, c_4, c_6], hP, hD, hS, hl⟩
          · refine lv_goto (tgt := 101) hx hb dX6_holdsNow_86 (by decide) ?_
            refine lv_iload hx hb dX6_holdsNow_101 (lv_at hl 1 rfl) ?_
            refine lv_iload_n hx hb dX6_holdsNow_103 rfl (lv_at hl 4 rfl) ?_
            refine lv_iconst (v := 5) hx hb dX6_holdsNow_104 (by decide) ?_
            refine lv_imul hx hb dX6_holdsNow_105 ?_
            rw [show ((nI i) * 5 : Int32) = nI (5 * i) from (pk_mul i 5).trans (congrArg nI (by omega))]
            refine lv_isub hx hb dX6_holdsNow_106 ?_
            rw [show ((nI (5 * i + j)) - (nI (5 * i)) : Int32) = nI (j) from (pk_sub (a := 5 * i + j) (b := 5 * i) (by omega)).trans (congrArg nI (by omega))]
            exact W.iret (v := nI (j)) hx hb hr (fun t ht hW => ⟨⟨nI (j), M, rfl, ⟨by rw [hF, show ru - j = (ru - (j + 1)) + 1 by omega]; simp [rHold, rMeets, c_2, c_3, c_4, c_6], rfl⟩, by rw [ht]; exact hP, va_K.moved hW.alike hK, hD⟩, hS.F ht⟩) hS.2.2 dX6_holdsNow_107
      · refine lv_iload hx hb dX6_holdsNow_48 (lv_at hl 0 rfl) ?_
        refine lv_aload_n hx hb dX6_holdsNow_50 rfl (lv_at hl 5 rfl) ?_
        refine km_getr hx hb htT hown hK hP 20 (by decide) rfl (htT _ m_fl_X6_59) dX6_holdsNow_51 ?_
        refine lv_iload hx hb dX6_holdsNow_54 (lv_at hl 1 rfl) ?_
        refine km_ialdv (x := (M.2 20) (5 * i + j)) hx hb hK hP 20 rfl rfl (show vp_in (nI (5 * i + j)) 40 from ki_in (by omega) (by decide)) (congrArg _ (ki_cl (by omega))) dX6_holdsNow_56 ?_
        refine lv_icmp_ge (tgt := 108) hx hb dX6_holdsNow_57 (by decide) (fun c_7 => ?_) (fun c_7 => ?_)
        · replace c_7 := Int32.not_lt.mpr c_7
          refine lv_iinc (v := nI ((5 * i + j) + 1)) (lv' := [(4, .int (nI ((5 * i + j) + 1))), (5, .int g), (3, .int g), (2, .int f), (1, .int (nI i)), (0, .ref am)]) hx hb dX6_holdsNow_108 hl (k := 1) rfl (nI_1 _) (by decide) rfl (fun ls hl => ?_)
          refine lv_goto (tgt := 5) hx hb dX6_holdsNow_111 (by decide) ?_
          have hl := lv_sub hl [0, 2, 3, 4, 5] rfl
          exact ih_5 _ (by omega) H locs ls ⟨j + 1, rfl, by omega, by rw [hF, show ru - j = (ru - (j + 1)) + 1 by omega]; simp [rHold, rMeets, c_2, c_3, c_7], hP, hD, hS, hl⟩
        · replace c_7 := Int32.not_le.mp c_7
          refine lv_goto (tgt := 101) hx hb dX6_holdsNow_60 (by decide) ?_
          refine lv_iload hx hb dX6_holdsNow_101 (lv_at hl 1 rfl) ?_
          refine lv_iload_n hx hb dX6_holdsNow_103 rfl (lv_at hl 4 rfl) ?_
          refine lv_iconst (v := 5) hx hb dX6_holdsNow_104 (by decide) ?_
          refine lv_imul hx hb dX6_holdsNow_105 ?_
          rw [show ((nI i) * 5 : Int32) = nI (5 * i) from (pk_mul i 5).trans (congrArg nI (by omega))]
          refine lv_isub hx hb dX6_holdsNow_106 ?_
          rw [show ((nI (5 * i + j)) - (nI (5 * i)) : Int32) = nI (j) from (pk_sub (a := 5 * i + j) (b := 5 * i) (by omega)).trans (congrArg nI (by omega))]
          exact W.iret (v := nI (j)) hx hb hr (fun t ht hW => ⟨⟨nI (j), M, rfl, ⟨by rw [hF, show ru - j = (ru - (j + 1)) + 1 by omega]; simp [rHold, rMeets, c_2, c_3, c_7], rfl⟩, by rw [ht]; exact hP, va_K.moved hW.alike hK, hD⟩, hS.F ht⟩) hS.2.2 dX6_holdsNow_107
    · refine lv_iload_n hx hb dX6_holdsNow_30 rfl (lv_at hl 2 rfl) ?_
      refine lv_goto (tgt := 35) hx hb dX6_holdsNow_31 (by decide) ?_
      refine lv_istore (lv' := [(5, .int f), (4, .int (nI (5 * i + j))), (3, .int g), (2, .int f), (1, .int (nI i)), (0, .ref am)]) hx hb dX6_holdsNow_35 hl (by decide) rfl (fun ls hl => ?_)
      refine lv_aload_n hx hb dX6_holdsNow_37 rfl (lv_at hl 5 rfl) ?_
      refine km_getr hx hb htT hown hK hP 19 (by decide) rfl (htT _ m_fl_X6_56) dX6_holdsNow_38 ?_
      refine lv_iload hx hb dX6_holdsNow_41 (lv_at hl 1 rfl) ?_
      refine km_ialdv (x := (M.2 19) (5 * i + j)) hx hb hK hP 19 rfl rfl (show vp_in (nI (5 * i + j)) 40 from ki_in (by omega) (by decide)) (congrArg _ (ki_cl (by omega))) dX6_holdsNow_43 ?_
      refine lv_iconst (v := 1) hx hb dX6_holdsNow_44 (by decide) ?_
      refine lv_icmp_ne (tgt := 63) hx hb dX6_holdsNow_45 (by decide) (fun c_8 => ?_) (fun c_8 => ?_)
      · refine lv_aload_n hx hb dX6_holdsNow_63 rfl (lv_at hl 5 rfl) ?_
        refine km_getr hx hb htT hown hK hP 19 (by decide) rfl (htT _ m_fl_X6_56) dX6_holdsNow_64 ?_
        refine lv_iload hx hb dX6_holdsNow_67 (lv_at hl 1 rfl) ?_
        refine km_ialdv (x := (M.2 19) (5 * i + j)) hx hb hK hP 19 rfl rfl (show vp_in (nI (5 * i + j)) 40 from ki_in (by omega) (by decide)) (congrArg _ (ki_cl (by omega))) dX6_holdsNow_69 ?_
        refine lv_iconst (v := 2) hx hb dX6_holdsNow_70 (by decide) ?_
        refine lv_icmp_ne (tgt := 89) hx hb dX6_holdsNow_71 (by decide) (fun c_9 => ?_) (fun c_9 => ?_)
        · refine lv_iload hx hb dX6_holdsNow_89 (lv_at hl 0 rfl) ?_
          refine lv_aload_n hx hb dX6_holdsNow_91 rfl (lv_at hl 5 rfl) ?_
          refine km_getr hx hb htT hown hK hP 20 (by decide) rfl (htT _ m_fl_X6_59) dX6_holdsNow_92 ?_
          refine lv_iload hx hb dX6_holdsNow_95 (lv_at hl 1 rfl) ?_
          refine km_ialdv (x := (M.2 20) (5 * i + j)) hx hb hK hP 20 rfl rfl (show vp_in (nI (5 * i + j)) 40 from ki_in (by omega) (by decide)) (congrArg _ (ki_cl (by omega))) dX6_holdsNow_97 ?_
          refine lv_icmp_le (tgt := 108) hx hb dX6_holdsNow_98 (by decide) (fun c_10 => ?_) (fun c_10 => ?_)
          · replace c_10 := Int32.not_lt.mpr c_10
            refine lv_iinc (v := nI ((5 * i + j) + 1)) (lv' := [(4, .int (nI ((5 * i + j) + 1))), (5, .int f), (3, .int g), (2, .int f), (1, .int (nI i)), (0, .ref am)]) hx hb dX6_holdsNow_108 hl (k := 1) rfl (nI_1 _) (by decide) rfl (fun ls hl => ?_)
            refine lv_goto (tgt := 5) hx hb dX6_holdsNow_111 (by decide) ?_
            have hl := lv_sub hl [0, 2, 3, 4, 5] rfl
            exact ih_5 _ (by omega) H locs ls ⟨j + 1, rfl, by omega, by rw [hF, show ru - j = (ru - (j + 1)) + 1 by omega]; simp [rHold, rMeets, c_2, c_8, c_9, c_10], hP, hD, hS, hl⟩
          · replace c_10 := Int32.not_le.mp c_10
            refine lv_iload hx hb dX6_holdsNow_101 (lv_at hl 1 rfl) ?_
            refine lv_iload_n hx hb dX6_holdsNow_103 rfl (lv_at hl 4 rfl) ?_
            refine lv_iconst (v := 5) hx hb dX6_holdsNow_104 (by decide) ?_
            refine lv_imul hx hb dX6_holdsNow_105 ?_
            rw [show ((nI i) * 5 : Int32) = nI (5 * i) from (pk_mul i 5).trans (congrArg nI (by omega))]
            refine lv_isub hx hb dX6_holdsNow_106 ?_
            rw [show ((nI (5 * i + j)) - (nI (5 * i)) : Int32) = nI (j) from (pk_sub (a := 5 * i + j) (b := 5 * i) (by omega)).trans (congrArg nI (by omega))]
            exact W.iret (v := nI (j)) hx hb hr (fun t ht hW => ⟨⟨nI (j), M, rfl, ⟨by rw [hF, show ru - j = (ru - (j + 1)) + 1 by omega]; simp [rHold, rMeets, c_2, c_8, c_9, c_10], rfl⟩, by rw [ht]; exact hP, va_K.moved hW.alike hK, hD⟩, hS.F ht⟩) hS.2.2 dX6_holdsNow_107
        · refine lv_iload hx hb dX6_holdsNow_74 (lv_at hl 0 rfl) ?_
          refine lv_aload_n hx hb dX6_holdsNow_76 rfl (lv_at hl 5 rfl) ?_
          refine km_getr hx hb htT hown hK hP 20 (by decide) rfl (htT _ m_fl_X6_59) dX6_holdsNow_77 ?_
          refine lv_iload hx hb dX6_holdsNow_80 (lv_at hl 1 rfl) ?_
          refine km_ialdv (x := (M.2 20) (5 * i + j)) hx hb hK hP 20 rfl rfl (show vp_in (nI (5 * i + j)) 40 from ki_in (by omega) (by decide)) (congrArg _ (ki_cl (by omega))) dX6_holdsNow_82 ?_
          refine lv_icmp_ne (tgt := 108) hx hb dX6_holdsNow_83 (by decide) (fun c_11 => ?_) (fun c_11 => ?_)
          · refine lv_iinc (v := nI ((5 * i + j) + 1)) (lv' := [(4, .int (nI ((5 * i + j) + 1))), (5, .int f), (3, .int g), (2, .int f), (1, .int (nI i)), (0, .ref am)]) hx hb dX6_holdsNow_108 hl (k := 1) rfl (nI_1 _) (by decide) rfl (fun ls hl => ?_)
            refine lv_goto (tgt := 5) hx hb dX6_holdsNow_111 (by decide) ?_
            have hl := lv_sub hl [0, 2, 3, 4, 5] rfl
            exact ih_5 _ (by omega) H locs ls ⟨j + 1, rfl, by omega, by rw [hF, show ru - j = (ru - (j + 1)) + 1 by omega]; simp [rHold, rMeets, c_2, c_8, c_9, c_11], hP, hD, hS, hl⟩
          · refine lv_goto (tgt := 101) hx hb dX6_holdsNow_86 (by decide) ?_
            refine lv_iload hx hb dX6_holdsNow_101 (lv_at hl 1 rfl) ?_
            refine lv_iload_n hx hb dX6_holdsNow_103 rfl (lv_at hl 4 rfl) ?_
            refine lv_iconst (v := 5) hx hb dX6_holdsNow_104 (by decide) ?_
            refine lv_imul hx hb dX6_holdsNow_105 ?_
            rw [show ((nI i) * 5 : Int32) = nI (5 * i) from (pk_mul i 5).trans (congrArg nI (by omega))]
            refine lv_isub hx hb dX6_holdsNow_106 ?_
            rw [show ((nI (5 * i + j)) - (nI (5 * i)) : Int32) = nI (j) from (pk_sub (a := 5 * i + j) (b := 5 * i) (by omega)).trans (congrArg nI (by omega))]
            exact W.iret (v := nI (j)) hx hb hr (fun t ht hW => ⟨⟨nI (j), M, rfl, ⟨by rw [hF, show ru - j = (ru - (j + 1)) + 1 by omega]; simp [rHold, rMeets, c_2, c_8, c_9, c_11], rfl⟩, by rw [ht]; exact hP, va_K.moved hW.alike hK, hD⟩, hS.F ht⟩) hS.2.2 dX6_holdsNow_107
      · refine lv_iload hx hb dX6_holdsNow_48 (lv_at hl 0 rfl) ?_
        refine lv_aload_n hx hb dX6_holdsNow_50 rfl (lv_at hl 5 rfl) ?_
        refine km_getr hx hb htT hown hK hP 20 (by decide) rfl (htT _ m_fl_X6_59) dX6_holdsNow_51 ?_
        refine lv_iload hx hb dX6_holdsNow_54 (lv_at hl 1 rfl) ?_
        refine km_ialdv (x := (M.2 20) (5 * i + j)) hx hb hK hP 20 rfl rfl (show vp_in (nI (5 * i + j)) 40 from ki_in (by omega) (by decide)) (congrArg _ (ki_cl (by omega))) dX6_holdsNow_56 ?_
        refine lv_icmp_ge (tgt := 108) hx hb dX6_holdsNow_57 (by decide) (fun c_12 => ?_) (fun c_12 => ?_)
        · replace c_12 := Int32.not_lt.mpr c_12
          refine lv_iinc (v := nI ((5 * i + j) + 1)) (lv' := [(4, .int (nI ((5 * i + j) + 1))), (5, .int f), (3, .int g), (2, .int f), (1, .int (nI i)), (0, .ref am)]) hx hb dX6_holdsNow_108 hl (k := 1) rfl (nI_1 _) (by decide) rfl (fun ls hl => ?_)
          refine lv_goto (tgt := 5) hx hb dX6_holdsNow_111 (by decide) ?_
          have hl := lv_sub hl [0, 2, 3, 4, 5] rfl
          exact ih_5 _ (by omega) H locs ls ⟨j + 1, rfl, by omega, by rw [hF, show ru - j = (ru - (j + 1)) + 1 by omega]; simp [rHold, rMeets, c_2, c_8, c_12], hP, hD, hS, hl⟩
        · replace c_12 := Int32.not_le.mp c_12
          refine lv_goto (tgt := 101) hx hb dX6_holdsNow_60 (by decide) ?_
          refine lv_iload hx hb dX6_holdsNow_101 (lv_at hl 1 rfl) ?_
          refine lv_iload_n hx hb dX6_holdsNow_103 rfl (lv_at hl 4 rfl) ?_
          refine lv_iconst (v := 5) hx hb dX6_holdsNow_104 (by decide) ?_
          refine lv_imul hx hb dX6_holdsNow_105 ?_
          rw [show ((nI i) * 5 : Int32) = nI (5 * i) from (pk_mul i 5).trans (congrArg nI (by omega))]
          refine lv_isub hx hb dX6_holdsNow_106 ?_
          rw [show ((nI (5 * i + j)) - (nI (5 * i)) : Int32) = nI (j) from (pk_sub (a := 5 * i + j) (b := 5 * i) (by omega)).trans (congrArg nI (by omega))]
          exact W.iret (v := nI (j)) hx hb hr (fun t ht hW => ⟨⟨nI (j), M, rfl, ⟨by rw [hF, show ru - j = (ru - (j + 1)) + 1 by omega]; simp [rHold, rMeets, c_2, c_8, c_12], rfl⟩, by rw [ht]; exact hP, va_K.moved hW.alike hK, hD⟩, hS.F ht⟩) hS.2.2 dX6_holdsNow_107

set_option maxRecDepth 100000 in
set_option maxHeartbeats 4000000 in
/-- the variant of a bucket -/
theorem m_split (l : Launch) (D : va_G) (cA : Nat → ClassId) (sz : Nat) (am : Nat) (r : Nat → Nat) (M : MSt) (i : Nat) (hi : i < 8) (sa uu : Nat) (hsa : sa ≤ 498) (huu : uu ≤ 9999) (h4 : M.2 4 i = nI sa) (hacc : rAcc M.2 i 3 = 1000) : Met l yX6_split (Cond.code yX6_split cX6_split 6 (some .int) :: TT) ({ frames := 1, cells := 0, slots := 0, locals := 22 }) (va_Pc [.ref am, .int (nI i), .int (nI uu)] (kPre D cA (wM cA am r M) sz)) (va_Qi (fun (r_ : Int32) (x_ : MSt) => r_ = rSplit M.2 i (kBkt (M.2 4 i) (nI uu)) 4 0 (M.2 6 (4 * i)) ∧ x_ = M) (fun x_ => kB D cA (va_A (wM cA am r M) sz) (wM cA am r x_)) (va_A (wM cA am r M) sz)) 0 0 (va_A (wM cA am r M) sz) := by
  refine Met.ofW (cc := cX6_split) (maxL := 6) (ret := (some .int)) (by decide) rfl ?_
  intro p e s m args below meth c s₁ B hml hv
  obtain ⟨rfl, hsz, hP, hK, hD0, hTB⟩ := hv
  have hx := B.exec
  have hb := B.bytes
  have hr := B.returns
  have hts := atoms_spec (ws := Cond.code yX6_split cX6_split 6 (some .int) :: TT) B.pre
  have htT : ∀ w ∈ TT, w.before _ s = true := fun w h => hts w (List.mem_cons_of_mem _ h)
  have hown : s.vm.findClass RX6 = some m.cls := findClass_of_methodNamed B.named
  have hlocks := B.notSynchronized
  subst hsz
  have hD := hD0.self (sz := s.heap.size)
  generalize hAe : va_A (wM cA am r M) s.heap.size = A at hD ⊢
  have hA : ∀ q : Nat, s.heap.size ≤ q → A q := fun q h => by rw [← hAe]; exact Or.inr h
  have hS : va_S A s.heap s.heap [] := va_S.rf
  have hl := lv_entry ([.ref am, .int (nI i), .int (nI uu)]) (n := 6) (Nat.le_of_ble_eq_true rfl)
  rw [lg_entry_eq]
  generalize (lg_sl ([.ref am, .int (nI i), .int (nI uu)]) ++ List.replicate (6 - (lg_sl ([.ref am, .int (nI i), .int (nI uu)])).length) Slot.unset).toArray = ls at hl ⊢
  have hl : lv_has ls 6 [(0, .ref am), (1, .int (nI i)), (2, .int (nI uu))] := hl
  refine lv_aload_n hx hb dX6_split_0 rfl (lv_at hl 0 rfl) ?_
  refine km_getr hx hb htT hown hK hP 4 (by decide) rfl (htT _ m_fl_X6_9) dX6_split_1 ?_
  refine lv_iload_n hx hb dX6_split_4 rfl (lv_at hl 1 rfl) ?_
  refine km_ialdv (x := nI sa) hx hb hK hP 4 rfl rfl (show vp_in (nI (i)) 8 from ki_in (by omega) (by decide)) ((congrArg _ (ki_cl (by omega))).trans h4) dX6_split_5 ?_
  refine lv_iload_n hx hb dX6_split_6 rfl (lv_at hl 2 rfl) ?_
  refine kc_i (va_runS (As := [.int (nI sa), .int (nI uu)]) (rest := []) ⟨hx, hb, hml, hown, htT⟩ (m_bucketOf l D cA _ am r M (nI sa) (nI uu)) (cwS 2 htT (kg_S m_ml_X6_148 m_st_X6_bucketOf m_in_X6 m_cd_X6_bucketOf) rfl rfl rfl (by decide +kernel) ⟨Nat.le_of_ble_eq_true rfl, Nat.le_of_ble_eq_true rfl⟩) (kp_S hK hP hD hTB) rfl rfl hl.1 rfl (lv_room (Nat.le_of_ble_eq_true rfl)) dX6_split_7 ⟨Nat.le_of_ble_eq_true rfl, Nat.le_of_ble_eq_true rfl⟩) hD hS hA (fun r_1 x_1 H locs hq_1 hP hD hS => ?_)
  rw [hq_1.1.trans (kBkt_n (by omega) huu)]
  rw [hq_1.2] at hP hD
  refine lv_istore_n (lv' := [(3, .int (nI (nBkt sa uu))), (0, .ref am), (1, .int (nI i)), (2, .int (nI uu))]) hx hb dX6_split_10 rfl hl (by decide) rfl (fun ls hl => ?_)
  refine lv_iconst (v := 0) hx hb dX6_split_11 (by decide) ?_
  refine lv_istore (lv' := [(4, .int 0), (3, .int (nI (nBkt sa uu))), (0, .ref am), (1, .int (nI i)), (2, .int (nI uu))]) hx hb dX6_split_12 hl (by decide) rfl (fun ls hl => ?_)
  refine lv_aload_n hx hb dX6_split_14 rfl (lv_at hl 2 rfl) ?_
  refine km_getr hx hb htT hown hK hP 6 (by decide) rfl (htT _ m_fl_X6_16) dX6_split_15 ?_
  refine lv_iload_n hx hb dX6_split_18 rfl (lv_at hl 3 rfl) ?_
  refine lv_iconst (v := 4) hx hb dX6_split_19 (by decide) ?_
  refine lv_imul hx hb dX6_split_20 ?_
  rw [show ((nI i) * 4 : Int32) = nI (4 * i) from (pk_mul i 4).trans (congrArg nI (by omega))]
  refine km_ialdv (x := (M.2 6) (4 * i)) hx hb hK hP 6 rfl rfl (show vp_in (nI (4 * i)) 32 from ki_in (by omega) (by decide)) (congrArg _ (ki_cl (by omega))) dX6_split_21 ?_
  refine lv_istore (lv' := [(5, .int ((M.2 6) (4 * i))), (4, .int 0), (3, .int (nI (nBkt sa uu))), (0, .ref am), (1, .int (nI i)), (2, .int (nI uu))]) hx hb dX6_split_22 hl (by decide) rfl (fun ls hl => ?_)
  refine kz_loop 24 (fun n H locs ls => ∃ (v : Nat), n = 4 - v ∧ v ≤ 3 ∧ rSplit M.2 i (nI (nBkt sa uu)) 4 0 (M.2 6 (4 * i)) = rSplit M.2 i (nI (nBkt sa uu)) (4 - v) v (rAcc M.2 i v) ∧ va_P D vwCl (wM cA am r M) H ∧ va_D A (wM cA am r M) ∧ va_S A s.heap H locs ∧ lv_has ls 6 [(5, .int (rAcc M.2 i v)), (4, .int (nI v)), (3, .int (nI (nBkt sa uu))), (2, .int (nI uu)), (1, .int (nI i)), (0, .ref am)]) (fun n ih_24 H locs ls hI => ?_) ⟨0, rfl, by omega, rfl, hP, hD, hS, lv_sub hl [0, 1, 2, 5, 4, 3] rfl⟩
  obtain ⟨v, hn9, hv, hF, hP, hD, hS, hl⟩ := hI
  refine lv_iload_n hx hb dX6_split_24 rfl (lv_at hl 2 rfl) ?_
  refine lv_iload hx hb dX6_split_25 (lv_at hl 0 rfl) ?_
  refine lv_icmp_lt (tgt := 52) hx hb dX6_split_27 (by decide) (fun c_2 => ?_) (fun c_2 => ?_)
  · refine lv_iload hx hb dX6_split_52 (lv_at hl 1 rfl) ?_
    exact W.iret (v := nI v) hx hb hr (fun t ht hW => ⟨⟨nI v, M, rfl, ⟨by rw [h4, kBkt_n (by omega) huu, hF, show 4 - v = (4 - (v + 1)) + 1 by omega]; simp [rSplit, c_2], rfl⟩, by rw [ht]; exact hP, va_K.moved hW.alike hK, hD⟩, hS.F ht⟩) hS.2.2 dX6_split_54
  · have hv3 : v + 1 ≤ 3 := by
      rcases Nat.lt_or_ge v 3 with h9 | h9
      · omega
      · exfalso
        rw [show v = 3 by omega, hacc] at c_2
        exact c_2 ((nI_ltI (a := nBkt sa uu) (b := 1000) (by have := nBkt_lt sa uu; omega) (by omega)).mpr (nBkt_lt sa uu))
    refine lv_iinc (v := nI (v + 1)) (lv' := [(4, .int (nI (v + 1))), (5, .int (rAcc M.2 i v)), (3, .int (nI (nBkt sa uu))), (2, .int (nI uu)), (1, .int (nI i)), (0, .ref am)]) hx hb dX6_split_30 hl (k := 1) rfl (nI_1 _) (by decide) rfl (fun ls hl => ?_)
    refine lv_iload hx hb dX6_split_33 (lv_at hl 1 rfl) ?_
    refine lv_aload_n hx hb dX6_split_35 rfl (lv_at hl 5 rfl) ?_
    refine km_getr hx hb htT hown hK hP 6 (by decide) rfl (htT _ m_fl_X6_16) dX6_split_36 ?_
    refine lv_iload_n hx hb dX6_split_39 rfl (lv_at hl 4 rfl) ?_
    refine lv_iconst (v := 4) hx hb dX6_split_40 (by decide) ?_
    refine lv_imul hx hb dX6_split_41 ?_
    rw [show ((nI i) * 4 : Int32) = nI (4 * i) from (pk_mul i 4).trans (congrArg nI (by omega))]
    refine lv_iload hx hb dX6_split_42 (lv_at hl 0 rfl) ?_
    refine lv_iadd hx hb dX6_split_44 ?_
    rw [show ((nI (4 * i)) + (nI (v + 1)) : Int32) = nI (4 * i + (v + 1)) from (nI_add (4 * i) (v + 1)).trans (congrArg nI (by omega))]
    refine km_ialdv (x := (M.2 6) (4 * i + (v + 1))) hx hb hK hP 6 rfl rfl (show vp_in (nI (4 * i + (v + 1))) 32 from ki_in (by omega) (by decide)) (congrArg _ (ki_cl (by omega))) dX6_split_45 ?_
    refine lv_iadd hx hb dX6_split_46 ?_
    refine lv_istore (lv' := [(5, .int ((rAcc M.2 i v) + ((M.2 6) (4 * i + (v + 1))))), (4, .int (nI (v + 1))), (3, .int (nI (nBkt sa uu))), (2, .int (nI uu)), (1, .int (nI i)), (0, .ref am)]) hx hb dX6_split_47 hl (by decide) rfl (fun ls hl => ?_)
    refine lv_goto (tgt := 24) hx hb dX6_split_49 (by decide) ?_
    have hl := lv_sub hl [0, 1, 2, 3, 4, 5] rfl
    exact ih_24 _ (by omega) H locs ls ⟨v + 1, rfl, hv3, by rw [hF, show 4 - v = (4 - (v + 1)) + 1 by omega]; simp [rSplit, rAcc, c_2], hP, hD, hS, hl⟩

