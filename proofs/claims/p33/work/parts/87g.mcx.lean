/-! the reference: users counted, exact -/
set_option maxRecDepth 100000 in
set_option maxHeartbeats 4000000 in
theorem m_both (l : Launch) (D : va_G) (cA : Nat → ClassId) (sz : Nat) (am : Nat) (r : Nat → Nat) (M : MSt) (n i : Nat) (hi : i < n) (hn8 : n ≤ 8) (h3 : M.1 3 = nI n) (na : Nat) (ru : Nat → Nat) (hok : okG M n na ru) (i2 : Nat) (hi2 : i2 < n) (mm : Nat) (hm2 : mm ≤ 200) (h1 : kIn (nI mm) 1 200 = 1) : Met l yX6_both (Cond.code yX6_both cX6_both 6 (some .int) :: TT) ({ frames := 20, cells := 0, slots := 0, locals := 1008 }) (va_Pc [.ref am, .int (nI i), .int (nI i2), .int (nI mm)] (kPre D cA (wM cA am r M) sz)) (va_Qi (fun (r_ : Int32) (x_ : MSt) => r_ = rCnt (fun u => if (rBy M na ru i u).2 = 8 then (if (rBy M na ru i2 u).2 = 8 then 1 else 0) else 0) mm 0 0 ∧ ∃ ρ, x_ = mS (mS M 0 0) 28 ρ) (fun x_ => kB D cA (va_A (wM cA am r M) sz) (wM cA am r x_)) (va_A (wM cA am r M) sz)) 0 0 (va_A (wM cA am r M) sz) := by
  refine Met.ofW (cc := cX6_both) (maxL := 6) (ret := (some .int)) (by decide) rfl ?_
  intro p e s m args below meth c s₁ B hml hv
  obtain ⟨rfl, hsz, hP, hK, hD0, hTB⟩ := hv
  have hx := B.exec
  have hb := B.bytes
  have hr := B.returns
  have hts := atoms_spec (ws := Cond.code yX6_both cX6_both 6 (some .int) :: TT) B.pre
  have htT : ∀ w ∈ TT, w.before _ s = true := fun w h => hts w (List.mem_cons_of_mem _ h)
  have hown : s.vm.findClass RX6 = some m.cls := findClass_of_methodNamed B.named
  have hlocks := B.notSynchronized
  subst hsz
  have hD := hD0.self (sz := s.heap.size)
  generalize hAe : va_A (wM cA am r M) s.heap.size = A at hD ⊢
  have hA : ∀ q : Nat, s.heap.size ≤ q → A q := fun q h => by rw [← hAe]; exact Or.inr h
  have hS : va_S A s.heap s.heap [] := va_S.rf
  have hl := lv_entry ([.ref am, .int (nI i), .int (nI i2), .int (nI mm)]) (n := 6) (Nat.le_of_ble_eq_true rfl)
  rw [lg_entry_eq]
  generalize (lg_sl ([.ref am, .int (nI i), .int (nI i2), .int (nI mm)]) ++ List.replicate (6 - (lg_sl ([.ref am, .int (nI i), .int (nI i2), .int (nI mm)])).length) Slot.unset).toArray = ls at hl ⊢
  have hl : lv_has ls 6 [(0, .ref am), (1, .int (nI i)), (2, .int (nI i2)), (3, .int (nI mm))] := hl
  have hsw1 := kIn_sw hi hn8 h3
  have hsw2 := kIn_sw hi2 hn8 h3
  refine lv_aload_n hx hb dX6_both_0 rfl (lv_at hl 0 rfl) ?_
  refine lv_iconst (v := 0) hx hb dX6_both_1 (by decide) ?_
  refine km_puti hx hb htT hown hK hP hD hS 0 (by decide) rfl (htT _ m_fl_X6_80) rfl (by decide +kernel) dX6_both_2 (fun H locs hP hD hS => ?_)
  refine lv_aload_n hx hb dX6_both_5 rfl (lv_at hl 0 rfl) ?_
  refine lv_iload_n hx hb dX6_both_6 rfl (lv_at hl 1 rfl) ?_
  refine kc_i (va_runV (As := [.int (nI i)]) (rest := []) ⟨hx, hb, hml, hown, htT⟩ (m_isSwitch l D cA _ am r (mS M 0 0) (nI i)) (cwV 1 htT (kg_V m_ml_X6_91 m_im_X6_isSwitch m_sl_X6_isSwitch m_in_X6 m_cd_X6_isSwitch) rfl rfl rfl (by decide +kernel) ⟨Nat.le_of_ble_eq_true rfl, Nat.le_of_ble_eq_true rfl⟩) (kp_V hK hP hD hTB (km_rc hK hP)) rfl rfl hl.1 rfl (lv_room (Nat.le_of_ble_eq_true rfl)) dX6_both_7 ⟨Nat.le_of_ble_eq_true rfl, Nat.le_of_ble_eq_true rfl⟩) hD hS hA (fun r_1 x_1 H locs hq_1 hP hD hS => ?_)
  rw [hq_1.1.trans hsw1]
  rw [hq_1.2] at hP hD
  refine lv_if_eq (tgt := 21) hx hb dX6_both_10 (by decide) (fun c_2 => absurd c_2 (by decide)) (fun _ => ?_)
  refine lv_aload_n hx hb dX6_both_13 rfl (lv_at hl 0 rfl) ?_
  refine lv_iload_n hx hb dX6_both_14 rfl (lv_at hl 2 rfl) ?_
  refine kc_i (va_runV (As := [.int (nI i2)]) (rest := []) ⟨hx, hb, hml, hown, htT⟩ (m_isSwitch l D cA _ am r (mS M 0 0) (nI i2)) (cwV 1 htT (kg_V m_ml_X6_91 m_im_X6_isSwitch m_sl_X6_isSwitch m_in_X6 m_cd_X6_isSwitch) rfl rfl rfl (by decide +kernel) ⟨Nat.le_of_ble_eq_true rfl, Nat.le_of_ble_eq_true rfl⟩) (kp_V hK hP hD hTB (km_rc hK hP)) rfl rfl hl.1 rfl (lv_room (Nat.le_of_ble_eq_true rfl)) dX6_both_15 ⟨Nat.le_of_ble_eq_true rfl, Nat.le_of_ble_eq_true rfl⟩) hD hS hA (fun r_3 x_3 H locs hq_3 hP hD hS => ?_)
  rw [hq_3.1.trans hsw2]
  rw [hq_3.2] at hP hD
  refine lv_if_ne (tgt := 27) hx hb dX6_both_18 (by decide) (fun _ => ?_) (fun c_4 => absurd c_4 (by decide))
  refine lv_iload_n hx hb dX6_both_27 rfl (lv_at hl 3 rfl) ?_
  refine lv_iconst (v := 1) hx hb dX6_both_28 (by decide) ?_
  refine lv_sipush (v := 200) hx hb dX6_both_29 (by decide) ?_
  refine kc_i (va_runS (As := [.int (nI mm), .int 1, .int 200]) (rest := []) ⟨hx, hb, hml, hown, htT⟩ (m_isIn l D cA _ am r (mS M 0 0) (nI mm) 1 200) (cwS 3 htT (kg_S m_ml_X6_87 m_st_X6_isIn m_in_X6 m_cd_X6_isIn) rfl rfl rfl (by decide +kernel) ⟨Nat.le_of_ble_eq_true rfl, Nat.le_of_ble_eq_true rfl⟩) (kp_S hK hP hD hTB) rfl rfl hl.1 rfl (lv_room (Nat.le_of_ble_eq_true rfl)) dX6_both_32 ⟨Nat.le_of_ble_eq_true rfl, Nat.le_of_ble_eq_true rfl⟩) hD hS hA (fun r_5 x_5 H locs hq_5 hP hD hS => ?_)
  rw [hq_5.1.trans h1]
  rw [hq_5.2] at hP hD
  refine lv_if_ne (tgt := 44) hx hb dX6_both_35 (by decide) (fun _ => ?_) (fun c_6 => absurd c_6 (by decide))
  refine lv_iconst (v := 0) hx hb dX6_both_44 (by decide) ?_
  refine lv_istore (lv' := [(4, .int 0), (0, .ref am), (1, .int (nI i)), (2, .int (nI i2)), (3, .int (nI mm))]) hx hb dX6_both_45 hl (by decide) rfl (fun ls hl => ?_)
  refine lv_iconst (v := 0) hx hb dX6_both_47 (by decide) ?_
  refine lv_istore (lv' := [(5, .int 0), (4, .int 0), (0, .ref am), (1, .int (nI i)), (2, .int (nI i2)), (3, .int (nI mm))]) hx hb dX6_both_48 hl (by decide) rfl (fun ls hl => ?_)
  have hP : va_P D vwCl (wM cA am r (mS (mS M 0 0) 28 (M.1 28))) H := by rw [show mS (mS M 0 0) 28 (M.1 28) = mS M 0 0 from mS_id (M := mS M 0 0) (k := 28)]; exact hP
  have hD : va_D A (wM cA am r (mS (mS M 0 0) 28 (M.1 28))) := by rw [show mS (mS M 0 0) 28 (M.1 28) = mS M 0 0 from mS_id (M := mS M 0 0) (k := 28)]; exact hD
  refine kz_loop 50 (fun N9 H locs ls => ∃ (j : Nat) (acc : Int32) (ρ : Int32), N9 = mm - j ∧ j ≤ mm ∧ rCnt (fun u => if (rBy M na ru i u).2 = 8 then (if (rBy M na ru i2 u).2 = 8 then 1 else 0) else 0) mm 0 0 = rCnt (fun u => if (rBy M na ru i u).2 = 8 then (if (rBy M na ru i2 u).2 = 8 then 1 else 0) else 0) (mm - j) j acc ∧ va_P D vwCl (wM cA am r (mS (mS M 0 0) 28 ρ)) H ∧ va_D A (wM cA am r (mS (mS M 0 0) 28 ρ)) ∧ va_S A s.heap H locs ∧ lv_has ls 6 [(5, .int (nI j)), (4, .int acc), (3, .int (nI mm)), (2, .int (nI i2)), (1, .int (nI i)), (0, .ref am)]) (fun N9 ih_50 H locs ls hI => ?_) ⟨0, 0, (M.1 28), rfl, by omega, rfl, hP, hD, hS, lv_sub hl [0, 1, 5, 4, 3, 2] rfl⟩
  obtain ⟨j, acc, ρ, hn9, hj, hF, hP, hD, hS, hl⟩ := hI
  refine lv_iload hx hb dX6_both_50 (lv_at hl 0 rfl) ?_
  refine lv_iload_n hx hb dX6_both_52 rfl (lv_at hl 2 rfl) ?_
  refine lv_icmp_ge (tgt := 92) hx hb dX6_both_53 (by decide) (fun c_7 => ?_) (fun c_7 => ?_)
  · replace c_7 := (nI_leI (a := mm) (b := j) (by omega) (by omega)).mp c_7
    refine lv_iload hx hb dX6_both_92 (lv_at hl 1 rfl) ?_
    exact W.iret (v := acc) hx hb hr (fun t ht hW => ⟨⟨acc, mS (mS M 0 0) 28 ρ, rfl, ⟨by rw [hF, show mm - j = 0 by omega]; rfl, _, rfl⟩, by rw [ht]; exact hP, va_K.moved hW.alike hK, hD⟩, hS.F ht⟩) hS.2.2 dX6_both_94
  · replace c_7 : ¬ (mm ≤ j) := fun h9 => c_7 ((nI_leI (a := mm) (b := j) (by omega) (by omega)).mpr h9)
    refine lv_iload hx hb dX6_both_56 (lv_at hl 1 rfl) ?_
    refine lv_aload_n hx hb dX6_both_58 rfl (lv_at hl 5 rfl) ?_
    refine lv_iload_n hx hb dX6_both_59 rfl (lv_at hl 4 rfl) ?_
    refine lv_iload hx hb dX6_both_60 (lv_at hl 0 rfl) ?_
    refine kc_i (va_runV (As := [.int (nI i), .int (nI j)]) (rest := [.int acc]) ⟨hx, hb, hml, hown, htT⟩ (m_isSplit l D cA _ am r (mS (mS M 0 0) 28 ρ) n na ru hok i hi j (by omega)) (cwV 2 htT (kg_V m_ml_X6_209 m_im_X6_isSplit m_sl_X6_isSplit m_in_X6 m_cd_X6_isSplit) rfl rfl rfl (by decide +kernel) ⟨Nat.le_of_ble_eq_true rfl, Nat.le_of_ble_eq_true rfl⟩) (kp_V hK hP hD hTB (km_rc hK hP)) rfl rfl hl.1 rfl (lv_room (Nat.le_of_ble_eq_true rfl)) dX6_both_62 ⟨Nat.le_of_ble_eq_true rfl, Nat.le_of_ble_eq_true rfl⟩) hD hS hA (fun r_8 x_8 H locs hq_8 hP hD hS => ?_)
    obtain ⟨ρ_8, eρ_8⟩ : ∃ ρ, x_8 = mS (mS M 0 0) 28 ρ := ⟨_, hq_8.2.trans mS_s⟩
    rw [eρ_8] at hP hD
    have hz_8 : r_8 = (if (rBy M na ru i j).2 = 8 then 1 else 0) := hq_8.1
    by_cases c8_8 : (rBy M na ru i j).2 = 8
    · rw [show r_8 = 1 from hz_8.trans (if_pos c8_8)]
      refine lv_if_eq (tgt := 82) hx hb dX6_both_65 (by decide) (fun c_9 => absurd c_9 (by decide)) (fun _ => ?_)
      refine lv_aload_n hx hb dX6_both_68 rfl (lv_at hl 5 rfl) ?_
      refine lv_iload_n hx hb dX6_both_69 rfl (lv_at hl 3 rfl) ?_
      refine lv_iload hx hb dX6_both_70 (lv_at hl 0 rfl) ?_
      refine kc_i (va_runV (As := [.int (nI i2), .int (nI j)]) (rest := [.int acc]) ⟨hx, hb, hml, hown, htT⟩ (m_isSplit l D cA _ am r (mS (mS M 0 0) 28 ρ_8) n na ru hok i2 hi2 j (by omega)) (cwV 2 htT (kg_V m_ml_X6_209 m_im_X6_isSplit m_sl_X6_isSplit m_in_X6 m_cd_X6_isSplit) rfl rfl rfl (by decide +kernel) ⟨Nat.le_of_ble_eq_true rfl, Nat.le_of_ble_eq_true rfl⟩) (kp_V hK hP hD hTB (km_rc hK hP)) rfl rfl hl.1 rfl (lv_room (Nat.le_of_ble_eq_true rfl)) dX6_both_72 ⟨Nat.le_of_ble_eq_true rfl, Nat.le_of_ble_eq_true rfl⟩) hD hS hA (fun r_10 x_10 H locs hq_10 hP hD hS => ?_)
      obtain ⟨ρ_10, eρ_10⟩ : ∃ ρ, x_10 = mS (mS M 0 0) 28 ρ := ⟨_, hq_10.2.trans mS_s⟩
      rw [eρ_10] at hP hD
      have hz_10 : r_10 = (if (rBy M na ru i2 j).2 = 8 then 1 else 0) := hq_10.1
      by_cases c8_10 : (rBy M na ru i2 j).2 = 8
      · rw [show r_10 = 1 from hz_10.trans (if_pos c8_10)]
        refine lv_if_eq (tgt := 82) hx hb dX6_both_75 (by decide) (fun c_11 => absurd c_11 (by decide)) (fun _ => ?_)
        refine lv_iconst (v := 1) hx hb dX6_both_78 (by decide) ?_
        refine lv_goto (tgt := 83) hx hb dX6_both_79 (by decide) ?_
        refine lv_iadd hx hb dX6_both_83 ?_
        refine lv_istore (lv' := [(4, .int (acc + 1)), (5, .int (nI j)), (3, .int (nI mm)), (2, .int (nI i2)), (1, .int (nI i)), (0, .ref am)]) hx hb dX6_both_84 hl (by decide) rfl (fun ls hl => ?_)
        refine lv_iinc (v := nI (j + 1)) (lv' := [(5, .int (nI (j + 1))), (4, .int (acc + 1)), (3, .int (nI mm)), (2, .int (nI i2)), (1, .int (nI i)), (0, .ref am)]) hx hb dX6_both_86 hl (k := 1) rfl (nI_1 _) (by decide) rfl (fun ls hl => ?_)
        refine lv_goto (tgt := 50) hx hb dX6_both_89 (by decide) ?_
        have hl := lv_sub hl [0, 1, 2, 3, 4, 5] rfl
        exact ih_50 _ (by omega) H locs ls ⟨j + 1, _, ρ_10, rfl, by omega, by rw [hF, show mm - j = (mm - (j + 1)) + 1 by omega]; simp [rCnt, c8_8, c8_10], hP, hD, hS, hl⟩
      · rw [show r_10 = 0 from hz_10.trans (if_neg c8_10)]
        refine lv_if_eq (tgt := 82) hx hb dX6_both_75 (by decide) (fun _ => ?_) (fun c_12 => absurd c_12 (by decide))
        refine lv_iconst (v := 0) hx hb dX6_both_82 (by decide) ?_
        refine lv_iadd hx hb dX6_both_83 ?_
        refine lv_istore (lv' := [(4, .int (acc + 0)), (5, .int (nI j)), (3, .int (nI mm)), (2, .int (nI i2)), (1, .int (nI i)), (0, .ref am)]) hx hb dX6_both_84 hl (by decide) rfl (fun ls hl => ?_)
        refine lv_iinc (v := nI (j + 1)) (lv' := [(5, .int (nI (j + 1))), (4, .int (acc + 0)), (3, .int (nI mm)), (2, .int (nI i2)), (1, .int (nI i)), (0, .ref am)]) hx hb dX6_both_86 hl (k := 1) rfl (nI_1 _) (by decide) rfl (fun ls hl => ?_)
        refine lv_goto (tgt := 50) hx hb dX6_both_89 (by decide) ?_
        have hl := lv_sub hl [0, 1, 2, 3, 4, 5] rfl
        exact ih_50 _ (by omega) H locs ls ⟨j + 1, _, ρ_10, rfl, by omega, by rw [hF, show mm - j = (mm - (j + 1)) + 1 by omega]; simp [rCnt, c8_8, c8_10], hP, hD, hS, hl⟩
    · rw [show r_8 = 0 from hz_8.trans (if_neg c8_8)]
      refine lv_if_eq (tgt := 82) hx hb dX6_both_65 (by decide) (fun _ => ?_) (fun c_13 => absurd c_13 (by decide))
      refine lv_iconst (v := 0) hx hb dX6_both_82 (by decide) ?_
      refine lv_iadd hx hb dX6_both_83 ?_
      refine lv_istore (lv' := [(4, .int (acc + 0)), (5, .int (nI j)), (3, .int (nI mm)), (2, .int (nI i2)), (1, .int (nI i)), (0, .ref am)]) hx hb dX6_both_84 hl (by decide) rfl (fun ls hl => ?_)
      refine lv_iinc (v := nI (j + 1)) (lv' := [(5, .int (nI (j + 1))), (4, .int (acc + 0)), (3, .int (nI mm)), (2, .int (nI i2)), (1, .int (nI i)), (0, .ref am)]) hx hb dX6_both_86 hl (k := 1) rfl (nI_1 _) (by decide) rfl (fun ls hl => ?_)
      refine lv_goto (tgt := 50) hx hb dX6_both_89 (by decide) ?_
      have hl := lv_sub hl [0, 1, 2, 3, 4, 5] rfl
      exact ih_50 _ (by omega) H locs ls ⟨j + 1, _, ρ_8, rfl, by omega, by rw [hF, show mm - j = (mm - (j + 1)) + 1 by omega]; simp [rCnt, c8_8], hP, hD, hS, hl⟩

set_option maxRecDepth 100000 in
set_option maxHeartbeats 4000000 in
theorem m_both_1 (l : Launch) (D : va_G) (cA : Nat → ClassId) (sz : Nat) (am : Nat) (r : Nat → Nat) (M : MSt) (n i : Nat) (hi : i < n) (hn8 : n ≤ 8) (h3 : M.1 3 = nI n) (i2 : Nat) (hi2 : i2 < n) (p2 : Int32) (h1 : kIn p2 1 200 = 0) : Met l yX6_both (Cond.code yX6_both cX6_both 6 (some .int) :: TT) ({ frames := 2, cells := 0, slots := 0, locals := 43 }) (va_Pc [.ref am, .int (nI i), .int (nI i2), .int p2] (kPre D cA (wM cA am r M) sz)) (va_Qi (fun (r_ : Int32) (x_ : MSt) => r_ = 0 ∧ x_ = mS (mS M 0 0) 0 2) (fun x_ => kB D cA (va_A (wM cA am r M) sz) (wM cA am r x_)) (va_A (wM cA am r M) sz)) 0 0 (va_A (wM cA am r M) sz) := by
  refine Met.ofW (cc := cX6_both) (maxL := 6) (ret := (some .int)) (by decide) rfl ?_
  intro p e s m args below meth c s₁ B hml hv
  obtain ⟨rfl, hsz, hP, hK, hD0, hTB⟩ := hv
  have hx := B.exec
  have hb := B.bytes
  have hr := B.returns
  have hts := atoms_spec (ws := Cond.code yX6_both cX6_both 6 (some .int) :: TT) B.pre
  have htT : ∀ w ∈ TT, w.before _ s = true := fun w h => hts w (List.mem_cons_of_mem _ h)
  have hown : s.vm.findClass RX6 = some m.cls := findClass_of_methodNamed B.named
  have hlocks := B.notSynchronized
  subst hsz
  have hD := hD0.self (sz := s.heap.size)
  generalize hAe : va_A (wM cA am r M) s.heap.size = A at hD ⊢
  have hA : ∀ q : Nat, s.heap.size ≤ q → A q := fun q h => by rw [← hAe]; exact Or.inr h
  have hS : va_S A s.heap s.heap [] := va_S.rf
  have hl := lv_entry ([.ref am, .int (nI i), .int (nI i2), .int p2]) (n := 6) (Nat.le_of_ble_eq_true rfl)
  rw [lg_entry_eq]
  generalize (lg_sl ([.ref am, .int (nI i), .int (nI i2), .int p2]) ++ List.replicate (6 - (lg_sl ([.ref am, .int (nI i), .int (nI i2), .int p2])).length) Slot.unset).toArray = ls at hl ⊢
  have hl : lv_has ls 6 [(0, .ref am), (1, .int (nI i)), (2, .int (nI i2)), (3, .int p2)] := hl
  have hsw1 := kIn_sw hi hn8 h3
  have hsw2 := kIn_sw hi2 hn8 h3
  refine lv_aload_n hx hb dX6_both_0 rfl (lv_at hl 0 rfl) ?_
  refine lv_iconst (v := 0) hx hb dX6_both_1 (by decide) ?_
  refine km_puti hx hb htT hown hK hP hD hS 0 (by decide) rfl (htT _ m_fl_X6_80) rfl (by decide +kernel) dX6_both_2 (fun H locs hP hD hS => ?_)
  refine lv_aload_n hx hb dX6_both_5 rfl (lv_at hl 0 rfl) ?_
  refine lv_iload_n hx hb dX6_both_6 rfl (lv_at hl 1 rfl) ?_
  refine kc_i (va_runV (As := [.int (nI i)]) (rest := []) ⟨hx, hb, hml, hown, htT⟩ (m_isSwitch l D cA _ am r (mS M 0 0) (nI i)) (cwV 1 htT (kg_V m_ml_X6_91 m_im_X6_isSwitch m_sl_X6_isSwitch m_in_X6 m_cd_X6_isSwitch) rfl rfl rfl (by decide +kernel) ⟨Nat.le_of_ble_eq_true rfl, Nat.le_of_ble_eq_true rfl⟩) (kp_V hK hP hD hTB (km_rc hK hP)) rfl rfl hl.1 rfl (lv_room (Nat.le_of_ble_eq_true rfl)) dX6_both_7 ⟨Nat.le_of_ble_eq_true rfl, Nat.le_of_ble_eq_true rfl⟩) hD hS hA (fun r_1 x_1 H locs hq_1 hP hD hS => ?_)
  rw [hq_1.1.trans hsw1]
  rw [hq_1.2] at hP hD
  refine lv_if_eq (tgt := 21) hx hb dX6_both_10 (by decide) (fun c_2 => absurd c_2 (by decide)) (fun _ => ?_)
  refine lv_aload_n hx hb dX6_both_13 rfl (lv_at hl 0 rfl) ?_
  refine lv_iload_n hx hb dX6_both_14 rfl (lv_at hl 2 rfl) ?_
  refine kc_i (va_runV (As := [.int (nI i2)]) (rest := []) ⟨hx, hb, hml, hown, htT⟩ (m_isSwitch l D cA _ am r (mS M 0 0) (nI i2)) (cwV 1 htT (kg_V m_ml_X6_91 m_im_X6_isSwitch m_sl_X6_isSwitch m_in_X6 m_cd_X6_isSwitch) rfl rfl rfl (by decide +kernel) ⟨Nat.le_of_ble_eq_true rfl, Nat.le_of_ble_eq_true rfl⟩) (kp_V hK hP hD hTB (km_rc hK hP)) rfl rfl hl.1 rfl (lv_room (Nat.le_of_ble_eq_true rfl)) dX6_both_15 ⟨Nat.le_of_ble_eq_true rfl, Nat.le_of_ble_eq_true rfl⟩) hD hS hA (fun r_3 x_3 H locs hq_3 hP hD hS => ?_)
  rw [hq_3.1.trans hsw2]
  rw [hq_3.2] at hP hD
  refine lv_if_ne (tgt := 27) hx hb dX6_both_18 (by decide) (fun _ => ?_) (fun c_4 => absurd c_4 (by decide))
  refine lv_iload_n hx hb dX6_both_27 rfl (lv_at hl 3 rfl) ?_
  refine lv_iconst (v := 1) hx hb dX6_both_28 (by decide) ?_
  refine lv_sipush (v := 200) hx hb dX6_both_29 (by decide) ?_
  refine kc_i (va_runS (As := [.int p2, .int 1, .int 200]) (rest := []) ⟨hx, hb, hml, hown, htT⟩ (m_isIn l D cA _ am r (mS M 0 0) p2 1 200) (cwS 3 htT (kg_S m_ml_X6_87 m_st_X6_isIn m_in_X6 m_cd_X6_isIn) rfl rfl rfl (by decide +kernel) ⟨Nat.le_of_ble_eq_true rfl, Nat.le_of_ble_eq_true rfl⟩) (kp_S hK hP hD hTB) rfl rfl hl.1 rfl (lv_room (Nat.le_of_ble_eq_true rfl)) dX6_both_32 ⟨Nat.le_of_ble_eq_true rfl, Nat.le_of_ble_eq_true rfl⟩) hD hS hA (fun r_5 x_5 H locs hq_5 hP hD hS => ?_)
  rw [hq_5.1.trans h1]
  rw [hq_5.2] at hP hD
  refine lv_if_ne (tgt := 44) hx hb dX6_both_35 (by decide) (fun c_6 => absurd c_6 (by decide)) (fun _ => ?_)
  refine lv_aload_n hx hb dX6_both_38 rfl (lv_at hl 0 rfl) ?_
  refine lv_iconst (v := 2) hx hb dX6_both_39 (by decide) ?_
  refine kc_i (va_runV (As := [.int 2]) (rest := []) ⟨hx, hb, hml, hown, htT⟩ (m_no l D cA _ am r (mS M 0 0) 2) (cwV 1 htT (kg_V m_ml_X6_95 m_im_X6_no m_sl_X6_no m_in_X6 m_cd_X6_no) rfl rfl rfl (by decide +kernel) ⟨Nat.le_of_ble_eq_true rfl, Nat.le_of_ble_eq_true rfl⟩) (kp_V hK hP hD hTB (km_rc hK hP)) rfl rfl hl.1 rfl (lv_room (Nat.le_of_ble_eq_true rfl)) dX6_both_40 ⟨Nat.le_of_ble_eq_true rfl, Nat.le_of_ble_eq_true rfl⟩) hD hS hA (fun r_7 x_7 H locs hq_7 hP hD hS => ?_)
  rw [hq_7.1]
  rw [hq_7.2] at hP hD
  exact W.iret (v := 0) hx hb hr (fun t ht hW => ⟨⟨0, mS (mS M 0 0) 0 2, rfl, ⟨rfl, rfl⟩, by rw [ht]; exact hP, va_K.moved hW.alike hK, hD⟩, hS.F ht⟩) hS.2.2 dX6_both_43

set_option maxRecDepth 100000 in
set_option maxHeartbeats 4000000 in
theorem m_both_o (l : Launch) (D : va_G) (cA : Nat → ClassId) (sz : Nat) (am : Nat) (r : Nat → Nat) (M : MSt) (n i : Nat) (hi : i < n) (hn8 : n ≤ 8) (h3 : M.1 3 = nI n) (p1 p2 : Int32) (hsw0 : kIn p1 0 (M.1 3 - 1) = 0) : Met l yX6_both (Cond.code yX6_both cX6_both 6 (some .int) :: TT) ({ frames := 2, cells := 0, slots := 0, locals := 43 }) (va_Pc [.ref am, .int (nI i), .int p1, .int p2] (kPre D cA (wM cA am r M) sz)) (va_Qi (fun (r_ : Int32) (x_ : MSt) => r_ = 0 ∧ x_ = mS (mS M 0 0) 0 1) (fun x_ => kB D cA (va_A (wM cA am r M) sz) (wM cA am r x_)) (va_A (wM cA am r M) sz)) 0 0 (va_A (wM cA am r M) sz) := by
  refine Met.ofW (cc := cX6_both) (maxL := 6) (ret := (some .int)) (by decide) rfl ?_
  intro p e s m args below meth c s₁ B hml hv
  obtain ⟨rfl, hsz, hP, hK, hD0, hTB⟩ := hv
  have hx := B.exec
  have hb := B.bytes
  have hr := B.returns
  have hts := atoms_spec (ws := Cond.code yX6_both cX6_both 6 (some .int) :: TT) B.pre
  have htT : ∀ w ∈ TT, w.before _ s = true := fun w h => hts w (List.mem_cons_of_mem _ h)
  have hown : s.vm.findClass RX6 = some m.cls := findClass_of_methodNamed B.named
  have hlocks := B.notSynchronized
  subst hsz
  have hD := hD0.self (sz := s.heap.size)
  generalize hAe : va_A (wM cA am r M) s.heap.size = A at hD ⊢
  have hA : ∀ q : Nat, s.heap.size ≤ q → A q := fun q h => by rw [← hAe]; exact Or.inr h
  have hS : va_S A s.heap s.heap [] := va_S.rf
  have hl := lv_entry ([.ref am, .int (nI i), .int p1, .int p2]) (n := 6) (Nat.le_of_ble_eq_true rfl)
  rw [lg_entry_eq]
  generalize (lg_sl ([.ref am, .int (nI i), .int p1, .int p2]) ++ List.replicate (6 - (lg_sl ([.ref am, .int (nI i), .int p1, .int p2])).length) Slot.unset).toArray = ls at hl ⊢
  have hl : lv_has ls 6 [(0, .ref am), (1, .int (nI i)), (2, .int p1), (3, .int p2)] := hl
  have hsw1 := kIn_sw hi hn8 h3
  refine lv_aload_n hx hb dX6_both_0 rfl (lv_at hl 0 rfl) ?_
  refine lv_iconst (v := 0) hx hb dX6_both_1 (by decide) ?_
  refine km_puti hx hb htT hown hK hP hD hS 0 (by decide) rfl (htT _ m_fl_X6_80) rfl (by decide +kernel) dX6_both_2 (fun H locs hP hD hS => ?_)
  refine lv_aload_n hx hb dX6_both_5 rfl (lv_at hl 0 rfl) ?_
  refine lv_iload_n hx hb dX6_both_6 rfl (lv_at hl 1 rfl) ?_
  refine kc_i (va_runV (As := [.int (nI i)]) (rest := []) ⟨hx, hb, hml, hown, htT⟩ (m_isSwitch l D cA _ am r (mS M 0 0) (nI i)) (cwV 1 htT (kg_V m_ml_X6_91 m_im_X6_isSwitch m_sl_X6_isSwitch m_in_X6 m_cd_X6_isSwitch) rfl rfl rfl (by decide +kernel) ⟨Nat.le_of_ble_eq_true rfl, Nat.le_of_ble_eq_true rfl⟩) (kp_V hK hP hD hTB (km_rc hK hP)) rfl rfl hl.1 rfl (lv_room (Nat.le_of_ble_eq_true rfl)) dX6_both_7 ⟨Nat.le_of_ble_eq_true rfl, Nat.le_of_ble_eq_true rfl⟩) hD hS hA (fun r_1 x_1 H locs hq_1 hP hD hS => ?_)
  rw [hq_1.1.trans hsw1]
  rw [hq_1.2] at hP hD
  refine lv_if_eq (tgt := 21) hx hb dX6_both_10 (by decide) (fun c_2 => absurd c_2 (by decide)) (fun _ => ?_)
  refine lv_aload_n hx hb dX6_both_13 rfl (lv_at hl 0 rfl) ?_
  refine lv_iload_n hx hb dX6_both_14 rfl (lv_at hl 2 rfl) ?_
  refine kc_i (va_runV (As := [.int p1]) (rest := []) ⟨hx, hb, hml, hown, htT⟩ (m_isSwitch l D cA _ am r (mS M 0 0) p1) (cwV 1 htT (kg_V m_ml_X6_91 m_im_X6_isSwitch m_sl_X6_isSwitch m_in_X6 m_cd_X6_isSwitch) rfl rfl rfl (by decide +kernel) ⟨Nat.le_of_ble_eq_true rfl, Nat.le_of_ble_eq_true rfl⟩) (kp_V hK hP hD hTB (km_rc hK hP)) rfl rfl hl.1 rfl (lv_room (Nat.le_of_ble_eq_true rfl)) dX6_both_15 ⟨Nat.le_of_ble_eq_true rfl, Nat.le_of_ble_eq_true rfl⟩) hD hS hA (fun r_3 x_3 H locs hq_3 hP hD hS => ?_)
  rw [hq_3.1.trans hsw0]
  rw [hq_3.2] at hP hD
  refine lv_if_ne (tgt := 27) hx hb dX6_both_18 (by decide) (fun c_4 => absurd c_4 (by decide)) (fun _ => ?_)
  refine lv_aload_n hx hb dX6_both_21 rfl (lv_at hl 0 rfl) ?_
  refine lv_iconst (v := 1) hx hb dX6_both_22 (by decide) ?_
  refine kc_i (va_runV (As := [.int 1]) (rest := []) ⟨hx, hb, hml, hown, htT⟩ (m_no l D cA _ am r (mS M 0 0) 1) (cwV 1 htT (kg_V m_ml_X6_95 m_im_X6_no m_sl_X6_no m_in_X6 m_cd_X6_no) rfl rfl rfl (by decide +kernel) ⟨Nat.le_of_ble_eq_true rfl, Nat.le_of_ble_eq_true rfl⟩) (kp_V hK hP hD hTB (km_rc hK hP)) rfl rfl hl.1 rfl (lv_room (Nat.le_of_ble_eq_true rfl)) dX6_both_23 ⟨Nat.le_of_ble_eq_true rfl, Nat.le_of_ble_eq_true rfl⟩) hD hS hA (fun r_5 x_5 H locs hq_5 hP hD hS => ?_)
  rw [hq_5.1]
  rw [hq_5.2] at hP hD
  exact W.iret (v := 0) hx hb hr (fun t ht hW => ⟨⟨0, mS (mS M 0 0) 0 1, rfl, ⟨rfl, rfl⟩, by rw [ht]; exact hP, va_K.moved hW.alike hK, hD⟩, hS.F ht⟩) hS.2.2 dX6_both_26

set_option maxRecDepth 100000 in
set_option maxHeartbeats 4000000 in
theorem m_wouldChange (l : Launch) (D : va_G) (cA : Nat → ClassId) (sz : Nat) (am : Nat) (r : Nat → Nat) (M : MSt) (n i : Nat) (hi : i < n) (hn8 : n ≤ 8) (h3 : M.1 3 = nI n) (na : Nat) (ru : Nat → Nat) (hok : okG M n na ru) (p1 : Int32) (h2 : kIn p1 0 1000 = 1) (mm : Nat) (hm2 : mm ≤ 200) (h1 : kIn (nI mm) 1 200 = 1) : Met l yX6_wouldChange (Cond.code yX6_wouldChange cX6_wouldChange 6 (some .int) :: TT) ({ frames := 19, cells := 0, slots := 0, locals := 986 }) (va_Pc [.ref am, .int (nI i), .int p1, .int (nI mm)] (kPre D cA (wM cA am r M) sz)) (va_Qi (fun (r_ : Int32) (x_ : MSt) => r_ = rCnt (fun u => if (rGx M.2 (M.1 2) (M.2 11) (nI u) (nI u - nI u / 10 * 10) (nI u / 10 - nI u / 10 / 10 * 10) na (ru i) (fun k => (rG M.2 (M.1 2) (M.2 11) (fun k => rFar M.2 k (M.1 1)) (nI u) (nI u - nI u / 10 * 10) (nI u / 10 - nI u / 10 / 10 * 10) na ru 7 k).1) i p1).1 = (rBy M na ru i u).1 then 0 else 1) mm 0 0 ∧ ∃ ρ, x_ = mS (mS M 0 0) 28 ρ) (fun x_ => kB D cA (va_A (wM cA am r M) sz) (wM cA am r x_)) (va_A (wM cA am r M) sz)) 0 0 (va_A (wM cA am r M) sz) := by
  refine Met.ofW (cc := cX6_wouldChange) (maxL := 6) (ret := (some .int)) (by decide) rfl ?_
  intro p e s m args below meth c s₁ B hml hv
  obtain ⟨rfl, hsz, hP, hK, hD0, hTB⟩ := hv
  have hx := B.exec
  have hb := B.bytes
  have hr := B.returns
  have hts := atoms_spec (ws := Cond.code yX6_wouldChange cX6_wouldChange 6 (some .int) :: TT) B.pre
  have htT : ∀ w ∈ TT, w.before _ s = true := fun w h => hts w (List.mem_cons_of_mem _ h)
  have hown : s.vm.findClass RX6 = some m.cls := findClass_of_methodNamed B.named
  have hlocks := B.notSynchronized
  subst hsz
  have hD := hD0.self (sz := s.heap.size)
  generalize hAe : va_A (wM cA am r M) s.heap.size = A at hD ⊢
  have hA : ∀ q : Nat, s.heap.size ≤ q → A q := fun q h => by rw [← hAe]; exact Or.inr h
  have hS : va_S A s.heap s.heap [] := va_S.rf
  have hl := lv_entry ([.ref am, .int (nI i), .int p1, .int (nI mm)]) (n := 6) (Nat.le_of_ble_eq_true rfl)
  rw [lg_entry_eq]
  generalize (lg_sl ([.ref am, .int (nI i), .int p1, .int (nI mm)]) ++ List.replicate (6 - (lg_sl ([.ref am, .int (nI i), .int p1, .int (nI mm)])).length) Slot.unset).toArray = ls at hl ⊢
  have hl : lv_has ls 6 [(0, .ref am), (1, .int (nI i)), (2, .int p1), (3, .int (nI mm))] := hl
  have hsw1 := kIn_sw hi hn8 h3
  refine lv_aload_n hx hb dX6_wouldChange_0 rfl (lv_at hl 0 rfl) ?_
  refine lv_iconst (v := 0) hx hb dX6_wouldChange_1 (by decide) ?_
  refine km_puti hx hb htT hown hK hP hD hS 0 (by decide) rfl (htT _ m_fl_X6_80) rfl (by decide +kernel) dX6_wouldChange_2 (fun H locs hP hD hS => ?_)
  refine lv_aload_n hx hb dX6_wouldChange_5 rfl (lv_at hl 0 rfl) ?_
  refine lv_iload_n hx hb dX6_wouldChange_6 rfl (lv_at hl 1 rfl) ?_
  refine kc_i (va_runV (As := [.int (nI i)]) (rest := []) ⟨hx, hb, hml, hown, htT⟩ (m_isSwitch l D cA _ am r (mS M 0 0) (nI i)) (cwV 1 htT (kg_V m_ml_X6_91 m_im_X6_isSwitch m_sl_X6_isSwitch m_in_X6 m_cd_X6_isSwitch) rfl rfl rfl (by decide +kernel) ⟨Nat.le_of_ble_eq_true rfl, Nat.le_of_ble_eq_true rfl⟩) (kp_V hK hP hD hTB (km_rc hK hP)) rfl rfl hl.1 rfl (lv_room (Nat.le_of_ble_eq_true rfl)) dX6_wouldChange_7 ⟨Nat.le_of_ble_eq_true rfl, Nat.le_of_ble_eq_true rfl⟩) hD hS hA (fun r_1 x_1 H locs hq_1 hP hD hS => ?_)
  rw [hq_1.1.trans hsw1]
  rw [hq_1.2] at hP hD
  refine lv_if_ne (tgt := 19) hx hb dX6_wouldChange_10 (by decide) (fun _ => ?_) (fun c_2 => absurd c_2 (by decide))
  refine lv_iload_n hx hb dX6_wouldChange_19 rfl (lv_at hl 2 rfl) ?_
  refine lv_iconst (v := 0) hx hb dX6_wouldChange_20 (by decide) ?_
  refine lv_sipush (v := 1000) hx hb dX6_wouldChange_21 (by decide) ?_
  refine kc_i (va_runS (As := [.int p1, .int 0, .int 1000]) (rest := []) ⟨hx, hb, hml, hown, htT⟩ (m_isIn l D cA _ am r (mS M 0 0) p1 0 1000) (cwS 3 htT (kg_S m_ml_X6_87 m_st_X6_isIn m_in_X6 m_cd_X6_isIn) rfl rfl rfl (by decide +kernel) ⟨Nat.le_of_ble_eq_true rfl, Nat.le_of_ble_eq_true rfl⟩) (kp_S hK hP hD hTB) rfl rfl hl.1 rfl (lv_room (Nat.le_of_ble_eq_true rfl)) dX6_wouldChange_24 ⟨Nat.le_of_ble_eq_true rfl, Nat.le_of_ble_eq_true rfl⟩) hD hS hA (fun r_3 x_3 H locs hq_3 hP hD hS => ?_)
  rw [hq_3.1.trans h2]
  rw [hq_3.2] at hP hD
  refine lv_if_eq (tgt := 41) hx hb dX6_wouldChange_27 (by decide) (fun c_4 => absurd c_4 (by decide)) (fun _ => ?_)
  refine lv_iload_n hx hb dX6_wouldChange_30 rfl (lv_at hl 3 rfl) ?_
  refine lv_iconst (v := 1) hx hb dX6_wouldChange_31 (by decide) ?_
  refine lv_sipush (v := 200) hx hb dX6_wouldChange_32 (by decide) ?_
  refine kc_i (va_runS (As := [.int (nI mm), .int 1, .int 200]) (rest := []) ⟨hx, hb, hml, hown, htT⟩ (m_isIn l D cA _ am r (mS M 0 0) (nI mm) 1 200) (cwS 3 htT (kg_S m_ml_X6_87 m_st_X6_isIn m_in_X6 m_cd_X6_isIn) rfl rfl rfl (by decide +kernel) ⟨Nat.le_of_ble_eq_true rfl, Nat.le_of_ble_eq_true rfl⟩) (kp_S hK hP hD hTB) rfl rfl hl.1 rfl (lv_room (Nat.le_of_ble_eq_true rfl)) dX6_wouldChange_35 ⟨Nat.le_of_ble_eq_true rfl, Nat.le_of_ble_eq_true rfl⟩) hD hS hA (fun r_5 x_5 H locs hq_5 hP hD hS => ?_)
  rw [hq_5.1.trans h1]
  rw [hq_5.2] at hP hD
  refine lv_if_ne (tgt := 47) hx hb dX6_wouldChange_38 (by decide) (fun _ => ?_) (fun c_6 => absurd c_6 (by decide))
  refine lv_iconst (v := 0) hx hb dX6_wouldChange_47 (by decide) ?_
  refine lv_istore (lv' := [(4, .int 0), (0, .ref am), (1, .int (nI i)), (2, .int p1), (3, .int (nI mm))]) hx hb dX6_wouldChange_48 hl (by decide) rfl (fun ls hl => ?_)
  refine lv_iconst (v := 0) hx hb dX6_wouldChange_50 (by decide) ?_
  refine lv_istore (lv' := [(5, .int 0), (4, .int 0), (0, .ref am), (1, .int (nI i)), (2, .int p1), (3, .int (nI mm))]) hx hb dX6_wouldChange_51 hl (by decide) rfl (fun ls hl => ?_)
  have hP : va_P D vwCl (wM cA am r (mS (mS M 0 0) 28 (M.1 28))) H := by rw [show mS (mS M 0 0) 28 (M.1 28) = mS M 0 0 from mS_id (M := mS M 0 0) (k := 28)]; exact hP
  have hD : va_D A (wM cA am r (mS (mS M 0 0) 28 (M.1 28))) := by rw [show mS (mS M 0 0) 28 (M.1 28) = mS M 0 0 from mS_id (M := mS M 0 0) (k := 28)]; exact hD
  refine kz_loop 53 (fun N9 H locs ls => ∃ (j : Nat) (acc : Int32) (ρ : Int32), N9 = mm - j ∧ j ≤ mm ∧ rCnt (fun u => if (rGx M.2 (M.1 2) (M.2 11) (nI u) (nI u - nI u / 10 * 10) (nI u / 10 - nI u / 10 / 10 * 10) na (ru i) (fun k => (rG M.2 (M.1 2) (M.2 11) (fun k => rFar M.2 k (M.1 1)) (nI u) (nI u - nI u / 10 * 10) (nI u / 10 - nI u / 10 / 10 * 10) na ru 7 k).1) i p1).1 = (rBy M na ru i u).1 then 0 else 1) mm 0 0 = rCnt (fun u => if (rGx M.2 (M.1 2) (M.2 11) (nI u) (nI u - nI u / 10 * 10) (nI u / 10 - nI u / 10 / 10 * 10) na (ru i) (fun k => (rG M.2 (M.1 2) (M.2 11) (fun k => rFar M.2 k (M.1 1)) (nI u) (nI u - nI u / 10 * 10) (nI u / 10 - nI u / 10 / 10 * 10) na ru 7 k).1) i p1).1 = (rBy M na ru i u).1 then 0 else 1) (mm - j) j acc ∧ va_P D vwCl (wM cA am r (mS (mS M 0 0) 28 ρ)) H ∧ va_D A (wM cA am r (mS (mS M 0 0) 28 ρ)) ∧ va_S A s.heap H locs ∧ lv_has ls 6 [(5, .int (nI j)), (4, .int acc), (3, .int (nI mm)), (2, .int p1), (1, .int (nI i)), (0, .ref am)]) (fun N9 ih_53 H locs ls hI => ?_) ⟨0, 0, (M.1 28), rfl, by omega, rfl, hP, hD, hS, lv_sub hl [0, 1, 5, 4, 3, 2] rfl⟩
  obtain ⟨j, acc, ρ, hn9, hj, hF, hP, hD, hS, hl⟩ := hI
  refine lv_iload hx hb dX6_wouldChange_53 (lv_at hl 0 rfl) ?_
  refine lv_iload_n hx hb dX6_wouldChange_55 rfl (lv_at hl 2 rfl) ?_
  refine lv_icmp_ge (tgt := 106) hx hb dX6_wouldChange_56 (by decide) (fun c_7 => ?_) (fun c_7 => ?_)
  · replace c_7 := (nI_leI (a := mm) (b := j) (by omega) (by omega)).mp c_7
    refine lv_iload hx hb dX6_wouldChange_106 (lv_at hl 1 rfl) ?_
    exact W.iret (v := acc) hx hb hr (fun t ht hW => ⟨⟨acc, mS (mS M 0 0) 28 ρ, rfl, ⟨by rw [hF, show mm - j = 0 by omega]; rfl, _, rfl⟩, by rw [ht]; exact hP, va_K.moved hW.alike hK, hD⟩, hS.F ht⟩) hS.2.2 dX6_wouldChange_108
  · replace c_7 : ¬ (mm ≤ j) := fun h9 => c_7 ((nI_leI (a := mm) (b := j) (by omega) (by omega)).mpr h9)
    refine lv_iload hx hb dX6_wouldChange_59 (lv_at hl 1 rfl) ?_
    refine lv_aload_n hx hb dX6_wouldChange_61 rfl (lv_at hl 5 rfl) ?_
    refine lv_iload_n hx hb dX6_wouldChange_62 rfl (lv_at hl 4 rfl) ?_
    refine lv_iload hx hb dX6_wouldChange_63 (lv_at hl 0 rfl) ?_
    refine lv_iload hx hb dX6_wouldChange_65 (lv_at hl 0 rfl) ?_
    refine lv_bipush (v := 10) hx hb dX6_wouldChange_67 (by decide) ?_
    refine lv_irem hx hb dX6_wouldChange_69 (by decide) ?_
    refine lv_iload hx hb dX6_wouldChange_70 (lv_at hl 0 rfl) ?_
    refine lv_bipush (v := 10) hx hb dX6_wouldChange_72 (by decide) ?_
    refine lv_idiv hx hb dX6_wouldChange_74 (by decide) ?_
    refine lv_bipush (v := 10) hx hb dX6_wouldChange_75 (by decide) ?_
    refine lv_irem hx hb dX6_wouldChange_77 (by decide) ?_
    refine lv_iload_n hx hb dX6_wouldChange_78 rfl (lv_at hl 3 rfl) ?_
    refine kc_i (va_runV (As := [.int (nI i), .int (nI j), .int ((nI j) - (nI j) / 10 * 10), .int (((nI j) / 10) - ((nI j) / 10) / 10 * 10), .int p1]) (rest := [.int acc]) ⟨hx, hb, hml, hown, htT⟩ (m_getsNow_s l D cA _ am r n na ru 7 (fun d9 h => by cases h; exact m_PO l D cA am r n na ru 6) i (mS (mS M 0 0) 28 ρ) j ((nI j) - (nI j) / 10 * 10) (((nI j) / 10) - ((nI j) / 10) / 10 * 10) p1 hi (by omega) (by omega) hok) (cwV 5 htT (kg_V m_ml_X6_171 m_im_X6_getsNow m_sl_X6_getsNow m_in_X6 m_cd_X6_getsNow) rfl rfl rfl (by decide +kernel) ⟨Nat.le_of_ble_eq_true rfl, Nat.le_of_ble_eq_true rfl⟩) (kp_V hK hP hD hTB (km_rc hK hP)) rfl rfl hl.1 rfl (lv_room (Nat.le_of_ble_eq_true rfl)) dX6_wouldChange_79 ⟨Nat.le_of_ble_eq_true rfl, Nat.le_of_ble_eq_true rfl⟩) hD hS hA (fun r_8 x_8 H locs hq_8 hP hD hS => ?_)
    obtain ⟨ρ_8, eρ_8⟩ : ∃ ρ, x_8 = mS (mS M 0 0) 28 ρ := ⟨_, hq_8.2.trans mS_s⟩
    rw [eρ_8] at hP hD
    rw [show r_8 = (rGx M.2 (M.1 2) (M.2 11) (nI j) (nI j - nI j / 10 * 10) (nI j / 10 - nI j / 10 / 10 * 10) na (ru i) (fun k => (rG M.2 (M.1 2) (M.2 11) (fun k => rFar M.2 k (M.1 1)) (nI j) (nI j - nI j / 10 * 10) (nI j / 10 - nI j / 10 / 10 * 10) na ru 7 k).1) i p1).1 from hq_8.1]
    refine lv_aload_n hx hb dX6_wouldChange_82 rfl (lv_at hl 5 rfl) ?_
    refine lv_iload_n hx hb dX6_wouldChange_83 rfl (lv_at hl 4 rfl) ?_
    refine lv_iload hx hb dX6_wouldChange_84 (lv_at hl 0 rfl) ?_
    refine kc_i (va_runV (As := [.int (nI i), .int (nI j)]) (rest := [.int ((rGx M.2 (M.1 2) (M.2 11) (nI j) (nI j - nI j / 10 * 10) (nI j / 10 - nI j / 10 / 10 * 10) na (ru i) (fun k => (rG M.2 (M.1 2) (M.2 11) (fun k => rFar M.2 k (M.1 1)) (nI j) (nI j - nI j / 10 * 10) (nI j / 10 - nI j / 10 / 10 * 10) na ru 7 k).1) i p1).1), .int acc]) ⟨hx, hb, hml, hown, htT⟩ (m_getsBy l D cA _ am r (mS (mS M 0 0) 28 ρ_8) n na ru hok i hi j (by omega)) (cwV 2 htT (kg_V m_ml_X6_203 m_im_X6_getsBy m_sl_X6_getsBy m_in_X6 m_cd_X6_getsBy) rfl rfl rfl (by decide +kernel) ⟨Nat.le_of_ble_eq_true rfl, Nat.le_of_ble_eq_true rfl⟩) (kp_V hK hP hD hTB (km_rc hK hP)) rfl rfl hl.1 rfl (lv_room (Nat.le_of_ble_eq_true rfl)) dX6_wouldChange_86 ⟨Nat.le_of_ble_eq_true rfl, Nat.le_of_ble_eq_true rfl⟩) hD hS hA (fun r_9 x_9 H locs hq_9 hP hD hS => ?_)
    obtain ⟨ρ_9, eρ_9⟩ : ∃ ρ, x_9 = mS (mS M 0 0) 28 ρ := ⟨_, hq_9.2.trans mS_s⟩
    rw [eρ_9] at hP hD
    rw [show r_9 = (rBy M na ru i j).1 from hq_9.1]
    refine lv_icmp_ne (tgt := 96) hx hb dX6_wouldChange_89 (by decide) (fun c_10 => ?_) (fun c_10 => ?_)
    · refine lv_iconst (v := 1) hx hb dX6_wouldChange_96 (by decide) ?_
      refine lv_iadd hx hb dX6_wouldChange_97 ?_
      refine lv_istore (lv' := [(4, .int (acc + 1)), (5, .int (nI j)), (3, .int (nI mm)), (2, .int p1), (1, .int (nI i)), (0, .ref am)]) hx hb dX6_wouldChange_98 hl (by decide) rfl (fun ls hl => ?_)
      refine lv_iinc (v := nI (j + 1)) (lv' := [(5, .int (nI (j + 1))), (4, .int (acc + 1)), (3, .int (nI mm)), (2, .int p1), (1, .int (nI i)), (0, .ref am)]) hx hb dX6_wouldChange_100 hl (k := 1) rfl (nI_1 _) (by decide) rfl (fun ls hl => ?_)
      refine lv_goto (tgt := 53) hx hb dX6_wouldChange_103 (by decide) ?_
      have hl := lv_sub hl [0, 1, 2, 3, 4, 5] rfl
      exact ih_53 _ (by omega) H locs ls ⟨j + 1, _, ρ_9, rfl, by omega, by rw [hF, show mm - j = (mm - (j + 1)) + 1 by omega]; simp [rCnt, c_10], hP, hD, hS, hl⟩
    · refine lv_iconst (v := 0) hx hb dX6_wouldChange_92 (by decide) ?_
      refine lv_goto (tgt := 97) hx hb dX6_wouldChange_93 (by decide) ?_
      refine lv_iadd hx hb dX6_wouldChange_97 ?_
      refine lv_istore (lv' := [(4, .int (acc + 0)), (5, .int (nI j)), (3, .int (nI mm)), (2, .int p1), (1, .int (nI i)), (0, .ref am)]) hx hb dX6_wouldChange_98 hl (by decide) rfl (fun ls hl => ?_)
      refine lv_iinc (v := nI (j + 1)) (lv' := [(5, .int (nI (j + 1))), (4, .int (acc + 0)), (3, .int (nI mm)), (2, .int p1), (1, .int (nI i)), (0, .ref am)]) hx hb dX6_wouldChange_100 hl (k := 1) rfl (nI_1 _) (by decide) rfl (fun ls hl => ?_)
      refine lv_goto (tgt := 53) hx hb dX6_wouldChange_103 (by decide) ?_
      have hl := lv_sub hl [0, 1, 2, 3, 4, 5] rfl
      exact ih_53 _ (by omega) H locs ls ⟨j + 1, _, ρ_9, rfl, by omega, by rw [hF, show mm - j = (mm - (j + 1)) + 1 by omega]; simp [rCnt, c_10], hP, hD, hS, hl⟩

set_option maxRecDepth 100000 in
set_option maxHeartbeats 4000000 in
theorem m_wouldChange_1 (l : Launch) (D : va_G) (cA : Nat → ClassId) (sz : Nat) (am : Nat) (r : Nat → Nat) (M : MSt) (n i : Nat) (hi : i < n) (hn8 : n ≤ 8) (h3 : M.1 3 = nI n) (p1 p2 : Int32) (h2 : kIn p1 0 1000 = 0) : Met l yX6_wouldChange (Cond.code yX6_wouldChange cX6_wouldChange 6 (some .int) :: TT) ({ frames := 2, cells := 0, slots := 0, locals := 43 }) (va_Pc [.ref am, .int (nI i), .int p1, .int p2] (kPre D cA (wM cA am r M) sz)) (va_Qi (fun (r_ : Int32) (x_ : MSt) => r_ = 0 ∧ x_ = mS (mS M 0 0) 0 2) (fun x_ => kB D cA (va_A (wM cA am r M) sz) (wM cA am r x_)) (va_A (wM cA am r M) sz)) 0 0 (va_A (wM cA am r M) sz) := by
  refine Met.ofW (cc := cX6_wouldChange) (maxL := 6) (ret := (some .int)) (by decide) rfl ?_
  intro p e s m args below meth c s₁ B hml hv
  obtain ⟨rfl, hsz, hP, hK, hD0, hTB⟩ := hv
  have hx := B.exec
  have hb := B.bytes
  have hr := B.returns
  have hts := atoms_spec (ws := Cond.code yX6_wouldChange cX6_wouldChange 6 (some .int) :: TT) B.pre
  have htT : ∀ w ∈ TT, w.before _ s = true := fun w h => hts w (List.mem_cons_of_mem _ h)
  have hown : s.vm.findClass RX6 = some m.cls := findClass_of_methodNamed B.named
  have hlocks := B.notSynchronized
  subst hsz
  have hD := hD0.self (sz := s.heap.size)
  generalize hAe : va_A (wM cA am r M) s.heap.size = A at hD ⊢
  have hA : ∀ q : Nat, s.heap.size ≤ q → A q := fun q h => by rw [← hAe]; exact Or.inr h
  have hS : va_S A s.heap s.heap [] := va_S.rf
  have hl := lv_entry ([.ref am, .int (nI i), .int p1, .int p2]) (n := 6) (Nat.le_of_ble_eq_true rfl)
  rw [lg_entry_eq]
  generalize (lg_sl ([.ref am, .int (nI i), .int p1, .int p2]) ++ List.replicate (6 - (lg_sl ([.ref am, .int (nI i), .int p1, .int p2])).length) Slot.unset).toArray = ls at hl ⊢
  have hl : lv_has ls 6 [(0, .ref am), (1, .int (nI i)), (2, .int p1), (3, .int p2)] := hl
  have hsw1 := kIn_sw hi hn8 h3
  refine lv_aload_n hx hb dX6_wouldChange_0 rfl (lv_at hl 0 rfl) ?_
  refine lv_iconst (v := 0) hx hb dX6_wouldChange_1 (by decide) ?_
  refine km_puti hx hb htT hown hK hP hD hS 0 (by decide) rfl (htT _ m_fl_X6_80) rfl (by decide +kernel) dX6_wouldChange_2 (fun H locs hP hD hS => ?_)
  refine lv_aload_n hx hb dX6_wouldChange_5 rfl (lv_at hl 0 rfl) ?_
  refine lv_iload_n hx hb dX6_wouldChange_6 rfl (lv_at hl 1 rfl) ?_
  refine kc_i (va_runV (As := [.int (nI i)]) (rest := []) ⟨hx, hb, hml, hown, htT⟩ (m_isSwitch l D cA _ am r (mS M 0 0) (nI i)) (cwV 1 htT (kg_V m_ml_X6_91 m_im_X6_isSwitch m_sl_X6_isSwitch m_in_X6 m_cd_X6_isSwitch) rfl rfl rfl (by decide +kernel) ⟨Nat.le_of_ble_eq_true rfl, Nat.le_of_ble_eq_true rfl⟩) (kp_V hK hP hD hTB (km_rc hK hP)) rfl rfl hl.1 rfl (lv_room (Nat.le_of_ble_eq_true rfl)) dX6_wouldChange_7 ⟨Nat.le_of_ble_eq_true rfl, Nat.le_of_ble_eq_true rfl⟩) hD hS hA (fun r_1 x_1 H locs hq_1 hP hD hS => ?_)
  rw [hq_1.1.trans hsw1]
  rw [hq_1.2] at hP hD
  refine lv_if_ne (tgt := 19) hx hb dX6_wouldChange_10 (by decide) (fun _ => ?_) (fun c_2 => absurd c_2 (by decide))
  refine lv_iload_n hx hb dX6_wouldChange_19 rfl (lv_at hl 2 rfl) ?_
  refine lv_iconst (v := 0) hx hb dX6_wouldChange_20 (by decide) ?_
  refine lv_sipush (v := 1000) hx hb dX6_wouldChange_21 (by decide) ?_
  refine kc_i (va_runS (As := [.int p1, .int 0, .int 1000]) (rest := []) ⟨hx, hb, hml, hown, htT⟩ (m_isIn l D cA _ am r (mS M 0 0) p1 0 1000) (cwS 3 htT (kg_S m_ml_X6_87 m_st_X6_isIn m_in_X6 m_cd_X6_isIn) rfl rfl rfl (by decide +kernel) ⟨Nat.le_of_ble_eq_true rfl, Nat.le_of_ble_eq_true rfl⟩) (kp_S hK hP hD hTB) rfl rfl hl.1 rfl (lv_room (Nat.le_of_ble_eq_true rfl)) dX6_wouldChange_24 ⟨Nat.le_of_ble_eq_true rfl, Nat.le_of_ble_eq_true rfl⟩) hD hS hA (fun r_3 x_3 H locs hq_3 hP hD hS => ?_)
  rw [hq_3.1.trans h2]
  rw [hq_3.2] at hP hD
  refine lv_if_eq (tgt := 41) hx hb dX6_wouldChange_27 (by decide) (fun _ => ?_) (fun c_4 => absurd c_4 (by decide))
  refine lv_aload_n hx hb dX6_wouldChange_41 rfl (lv_at hl 0 rfl) ?_
  refine lv_iconst (v := 2) hx hb dX6_wouldChange_42 (by decide) ?_
  refine kc_i (va_runV (As := [.int 2]) (rest := []) ⟨hx, hb, hml, hown, htT⟩ (m_no l D cA _ am r (mS M 0 0) 2) (cwV 1 htT (kg_V m_ml_X6_95 m_im_X6_no m_sl_X6_no m_in_X6 m_cd_X6_no) rfl rfl rfl (by decide +kernel) ⟨Nat.le_of_ble_eq_true rfl, Nat.le_of_ble_eq_true rfl⟩) (kp_V hK hP hD hTB (km_rc hK hP)) rfl rfl hl.1 rfl (lv_room (Nat.le_of_ble_eq_true rfl)) dX6_wouldChange_43 ⟨Nat.le_of_ble_eq_true rfl, Nat.le_of_ble_eq_true rfl⟩) hD hS hA (fun r_5 x_5 H locs hq_5 hP hD hS => ?_)
  rw [hq_5.1]
  rw [hq_5.2] at hP hD
  exact W.iret (v := 0) hx hb hr (fun t ht hW => ⟨⟨0, mS (mS M 0 0) 0 2, rfl, ⟨rfl, rfl⟩, by rw [ht]; exact hP, va_K.moved hW.alike hK, hD⟩, hS.F ht⟩) hS.2.2 dX6_wouldChange_46

set_option maxRecDepth 100000 in
set_option maxHeartbeats 4000000 in
theorem m_wouldChange_2 (l : Launch) (D : va_G) (cA : Nat → ClassId) (sz : Nat) (am : Nat) (r : Nat → Nat) (M : MSt) (n i : Nat) (hi : i < n) (hn8 : n ≤ 8) (h3 : M.1 3 = nI n) (p1 p2 : Int32) (h2 : kIn p1 0 1000 = 1) (h1 : kIn p2 1 200 = 0) : Met l yX6_wouldChange (Cond.code yX6_wouldChange cX6_wouldChange 6 (some .int) :: TT) ({ frames := 2, cells := 0, slots := 0, locals := 43 }) (va_Pc [.ref am, .int (nI i), .int p1, .int p2] (kPre D cA (wM cA am r M) sz)) (va_Qi (fun (r_ : Int32) (x_ : MSt) => r_ = 0 ∧ x_ = mS (mS M 0 0) 0 2) (fun x_ => kB D cA (va_A (wM cA am r M) sz) (wM cA am r x_)) (va_A (wM cA am r M) sz)) 0 0 (va_A (wM cA am r M) sz) := by
  refine Met.ofW (cc := cX6_wouldChange) (maxL := 6) (ret := (some .int)) (by decide) rfl ?_
  intro p e s m args below meth c s₁ B hml hv
  obtain ⟨rfl, hsz, hP, hK, hD0, hTB⟩ := hv
  have hx := B.exec
  have hb := B.bytes
  have hr := B.returns
  have hts := atoms_spec (ws := Cond.code yX6_wouldChange cX6_wouldChange 6 (some .int) :: TT) B.pre
  have htT : ∀ w ∈ TT, w.before _ s = true := fun w h => hts w (List.mem_cons_of_mem _ h)
  have hown : s.vm.findClass RX6 = some m.cls := findClass_of_methodNamed B.named
  have hlocks := B.notSynchronized
  subst hsz
  have hD := hD0.self (sz := s.heap.size)
  generalize hAe : va_A (wM cA am r M) s.heap.size = A at hD ⊢
  have hA : ∀ q : Nat, s.heap.size ≤ q → A q := fun q h => by rw [← hAe]; exact Or.inr h
  have hS : va_S A s.heap s.heap [] := va_S.rf
  have hl := lv_entry ([.ref am, .int (nI i), .int p1, .int p2]) (n := 6) (Nat.le_of_ble_eq_true rfl)
  rw [lg_entry_eq]
  generalize (lg_sl ([.ref am, .int (nI i), .int p1, .int p2]) ++ List.replicate (6 - (lg_sl ([.ref am, .int (nI i), .int p1, .int p2])).length) Slot.unset).toArray = ls at hl ⊢
  have hl : lv_has ls 6 [(0, .ref am), (1, .int (nI i)), (2, .int p1), (3, .int p2)] := hl
  have hsw1 := kIn_sw hi hn8 h3
  refine lv_aload_n hx hb dX6_wouldChange_0 rfl (lv_at hl 0 rfl) ?_
  refine lv_iconst (v := 0) hx hb dX6_wouldChange_1 (by decide) ?_
  refine km_puti hx hb htT hown hK hP hD hS 0 (by decide) rfl (htT _ m_fl_X6_80) rfl (by decide +kernel) dX6_wouldChange_2 (fun H locs hP hD hS => ?_)
  refine lv_aload_n hx hb dX6_wouldChange_5 rfl (lv_at hl 0 rfl) ?_
  refine lv_iload_n hx hb dX6_wouldChange_6 rfl (lv_at hl 1 rfl) ?_
  refine kc_i (va_runV (As := [.int (nI i)]) (rest := []) ⟨hx, hb, hml, hown, htT⟩ (m_isSwitch l D cA _ am r (mS M 0 0) (nI i)) (cwV 1 htT (kg_V m_ml_X6_91 m_im_X6_isSwitch m_sl_X6_isSwitch m_in_X6 m_cd_X6_isSwitch) rfl rfl rfl (by decide +kernel) ⟨Nat.le_of_ble_eq_true rfl, Nat.le_of_ble_eq_true rfl⟩) (kp_V hK hP hD hTB (km_rc hK hP)) rfl rfl hl.1 rfl (lv_room (Nat.le_of_ble_eq_true rfl)) dX6_wouldChange_7 ⟨Nat.le_of_ble_eq_true rfl, Nat.le_of_ble_eq_true rfl⟩) hD hS hA (fun r_1 x_1 H locs hq_1 hP hD hS => ?_)
  rw [hq_1.1.trans hsw1]
  rw [hq_1.2] at hP hD
  refine lv_if_ne (tgt := 19) hx hb dX6_wouldChange_10 (by decide) (fun _ => ?_) (fun c_2 => absurd c_2 (by decide))
  refine lv_iload_n hx hb dX6_wouldChange_19 rfl (lv_at hl 2 rfl) ?_
  refine lv_iconst (v := 0) hx hb dX6_wouldChange_20 (by decide) ?_
  refine lv_sipush (v := 1000) hx hb dX6_wouldChange_21 (by decide) ?_
  refine kc_i (va_runS (As := [.int p1, .int 0, .int 1000]) (rest := []) ⟨hx, hb, hml, hown, htT⟩ (m_isIn l D cA _ am r (mS M 0 0) p1 0 1000) (cwS 3 htT (kg_S m_ml_X6_87 m_st_X6_isIn m_in_X6 m_cd_X6_isIn) rfl rfl rfl (by decide +kernel) ⟨Nat.le_of_ble_eq_true rfl, Nat.le_of_ble_eq_true rfl⟩) (kp_S hK hP hD hTB) rfl rfl hl.1 rfl (lv_room (Nat.le_of_ble_eq_true rfl)) dX6_wouldChange_24 ⟨Nat.le_of_ble_eq_true rfl, Nat.le_of_ble_eq_true rfl⟩) hD hS hA (fun r_3 x_3 H locs hq_3 hP hD hS => ?_)
  rw [hq_3.1.trans h2]
  rw [hq_3.2] at hP hD
  refine lv_if_eq (tgt := 41) hx hb dX6_wouldChange_27 (by decide) (fun c_4 => absurd c_4 (by decide)) (fun _ => ?_)
  refine lv_iload_n hx hb dX6_wouldChange_30 rfl (lv_at hl 3 rfl) ?_
  refine lv_iconst (v := 1) hx hb dX6_wouldChange_31 (by decide) ?_
  refine lv_sipush (v := 200) hx hb dX6_wouldChange_32 (by decide) ?_
  refine kc_i (va_runS (As := [.int p2, .int 1, .int 200]) (rest := []) ⟨hx, hb, hml, hown, htT⟩ (m_isIn l D cA _ am r (mS M 0 0) p2 1 200) (cwS 3 htT (kg_S m_ml_X6_87 m_st_X6_isIn m_in_X6 m_cd_X6_isIn) rfl rfl rfl (by decide +kernel) ⟨Nat.le_of_ble_eq_true rfl, Nat.le_of_ble_eq_true rfl⟩) (kp_S hK hP hD hTB) rfl rfl hl.1 rfl (lv_room (Nat.le_of_ble_eq_true rfl)) dX6_wouldChange_35 ⟨Nat.le_of_ble_eq_true rfl, Nat.le_of_ble_eq_true rfl⟩) hD hS hA (fun r_5 x_5 H locs hq_5 hP hD hS => ?_)
  rw [hq_5.1.trans h1]
  rw [hq_5.2] at hP hD
  refine lv_if_ne (tgt := 47) hx hb dX6_wouldChange_38 (by decide) (fun c_6 => absurd c_6 (by decide)) (fun _ => ?_)
  refine lv_aload_n hx hb dX6_wouldChange_41 rfl (lv_at hl 0 rfl) ?_
  refine lv_iconst (v := 2) hx hb dX6_wouldChange_42 (by decide) ?_
  refine kc_i (va_runV (As := [.int 2]) (rest := []) ⟨hx, hb, hml, hown, htT⟩ (m_no l D cA _ am r (mS M 0 0) 2) (cwV 1 htT (kg_V m_ml_X6_95 m_im_X6_no m_sl_X6_no m_in_X6 m_cd_X6_no) rfl rfl rfl (by decide +kernel) ⟨Nat.le_of_ble_eq_true rfl, Nat.le_of_ble_eq_true rfl⟩) (kp_V hK hP hD hTB (km_rc hK hP)) rfl rfl hl.1 rfl (lv_room (Nat.le_of_ble_eq_true rfl)) dX6_wouldChange_43 ⟨Nat.le_of_ble_eq_true rfl, Nat.le_of_ble_eq_true rfl⟩) hD hS hA (fun r_7 x_7 H locs hq_7 hP hD hS => ?_)
  rw [hq_7.1]
  rw [hq_7.2] at hP hD
  exact W.iret (v := 0) hx hb hr (fun t ht hW => ⟨⟨0, mS (mS M 0 0) 0 2, rfl, ⟨rfl, rfl⟩, by rw [ht]; exact hP, va_K.moved hW.alike hK, hD⟩, hS.F ht⟩) hS.2.2 dX6_wouldChange_46

