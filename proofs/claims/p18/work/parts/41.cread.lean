set_option maxRecDepth 100000 in
set_option maxHeartbeats 4000000 in
/-- does a rule hold -/
theorem c_isMetBy (l : Launch) (D : va_G) (cA : Nat → ClassId) (sz : Nat) (S : Pool) (u : Nat) (hu : isO S u 2) (f g : Int32) : Met l yX2_isMetBy (Cond.code yX2_isMetBy cX2_isMetBy 4 (some .boolean) :: TT) ({ frames := 0, cells := 0, slots := 0, locals := 0 }) (va_Pc [.ref u, .int f, .int g] (kPre D cA (PW cA S) sz)) (va_Qi (fun (r_ : Int32) (x_ : Pool) => r_ = cMeet S u f g ∧ x_ = S) (fun x_ => kB D cA (va_A (PW cA S) sz) (PW cA x_)) (va_A (PW cA S) sz)) 0 0 (va_A (PW cA S) sz) := by
  refine Met.ofW (cc := cX2_isMetBy) (maxL := 4) (ret := (some .boolean)) (by decide) rfl ?_
  intro p e s m args below meth c s₁ B hml hv
  obtain ⟨rfl, hsz, hP, hK, hD0, hTB⟩ := hv
  have hx := B.exec
  have hb := B.bytes
  have hr := B.returns
  have hts := atoms_spec (ws := Cond.code yX2_isMetBy cX2_isMetBy 4 (some .boolean) :: TT) B.pre
  have htT : ∀ w ∈ TT, w.before _ s = true := fun w h => hts w (List.mem_cons_of_mem _ h)
  have hown : s.vm.findClass RX2 = some m.cls := findClass_of_methodNamed B.named
  have hlocks := B.notSynchronized
  subst hsz
  have hD := hD0.self (sz := s.heap.size)
  generalize hAe : va_A (PW cA S) s.heap.size = A at hD ⊢
  have hA : ∀ q : Nat, s.heap.size ≤ q → A q := fun q h => by rw [← hAe]; exact Or.inr h
  have hS : va_S A s.heap s.heap [] := va_S.rf
  have hl := lv_entry ([.ref u, .int f, .int g]) (n := 4) (Nat.le_of_ble_eq_true rfl)
  rw [lg_entry_eq]
  generalize (lg_sl ([.ref u, .int f, .int g]) ++ List.replicate (4 - (lg_sl ([.ref u, .int f, .int g])).length) Slot.unset).toArray = ls at hl ⊢
  have hl : lv_has ls 4 [(0, .ref u), (1, .int f), (2, .int g)] := hl
  refine lv_aload_n hx hb dX2_isMetBy_0 rfl (lv_at hl 0 rfl) ?_
  refine kx_geti hx hb htT m_u_X2 hown hK hP hu (Nat.le_of_ble_eq_true rfl) rfl 0 (by decide) (by decide) rfl (htT _ m_fl_X2_9) dX2_isMetBy_1 ?_
  refine lv_if_ne (tgt := 11) hx hb dX2_isMetBy_4 (by decide) (fun c_1 => ?_) (fun c_1 => ?_)
  · refine lv_iload_n hx hb dX2_isMetBy_11 rfl (lv_at hl 2 rfl) ?_
    refine lv_istore_n (lv' := [(3, .int g), (0, .ref u), (1, .int f), (2, .int g)]) hx hb dX2_isMetBy_12 rfl hl (by decide) rfl (fun ls hl => ?_)
    refine lv_aload_n hx hb dX2_isMetBy_13 rfl (lv_at hl 1 rfl) ?_
    refine kx_geti hx hb htT m_u_X2 hown hK hP hu (Nat.le_of_ble_eq_true rfl) rfl 1 (by decide) (by decide) rfl (htT _ m_fl_X2_15) dX2_isMetBy_14 ?_
    refine lv_iconst (v := 1) hx hb dX2_isMetBy_17 (by decide) ?_
    refine lv_icmp_ne (tgt := 35) hx hb dX2_isMetBy_18 (by decide) (fun c_2 => ?_) (fun c_2 => ?_)
    · refine lv_aload_n hx hb dX2_isMetBy_35 rfl (lv_at hl 1 rfl) ?_
      refine kx_geti hx hb htT m_u_X2 hown hK hP hu (Nat.le_of_ble_eq_true rfl) rfl 1 (by decide) (by decide) rfl (htT _ m_fl_X2_15) dX2_isMetBy_36 ?_
      refine lv_iconst (v := 2) hx hb dX2_isMetBy_39 (by decide) ?_
      refine lv_icmp_ne (tgt := 59) hx hb dX2_isMetBy_40 (by decide) (fun c_3 => ?_) (fun c_3 => ?_)
      · refine lv_iload_n hx hb dX2_isMetBy_59 rfl (lv_at hl 0 rfl) ?_
        refine lv_aload_n hx hb dX2_isMetBy_60 rfl (lv_at hl 1 rfl) ?_
        refine kx_geti hx hb htT m_u_X2 hown hK hP hu (Nat.le_of_ble_eq_true rfl) rfl 2 (by decide) (by decide) rfl (htT _ m_fl_X2_18) dX2_isMetBy_61 ?_
        refine lv_icmp_le (tgt := 71) hx hb dX2_isMetBy_64 (by decide) (fun c_4 => ?_) (fun c_4 => ?_)
        · replace c_4 := Int32.not_lt.mpr c_4
          refine lv_iconst (v := 0) hx hb dX2_isMetBy_71 (by decide) ?_
          exact W.zret (v := 0) hx hb hr (rfl) (fun t ht hW => ⟨⟨0, S, rfl, ⟨by simp [cMeet, c_1, c_2, c_3, c_4], rfl⟩, by rw [ht]; exact hP, va_K.moved hW.alike hK, hD⟩, hS.F ht⟩) hS.2.2 dX2_isMetBy_72
        · replace c_4 := Int32.not_le.mp c_4
          refine lv_iconst (v := 1) hx hb dX2_isMetBy_67 (by decide) ?_
          refine lv_goto (tgt := 72) hx hb dX2_isMetBy_68 (by decide) ?_
          exact W.zret (v := 1) hx hb hr (rfl) (fun t ht hW => ⟨⟨1, S, rfl, ⟨by simp [cMeet, c_1, c_2, c_3, c_4], rfl⟩, by rw [ht]; exact hP, va_K.moved hW.alike hK, hD⟩, hS.F ht⟩) hS.2.2 dX2_isMetBy_72
      · refine lv_iload_n hx hb dX2_isMetBy_43 rfl (lv_at hl 0 rfl) ?_
        refine lv_aload_n hx hb dX2_isMetBy_44 rfl (lv_at hl 1 rfl) ?_
        refine kx_geti hx hb htT m_u_X2 hown hK hP hu (Nat.le_of_ble_eq_true rfl) rfl 2 (by decide) (by decide) rfl (htT _ m_fl_X2_18) dX2_isMetBy_45 ?_
        refine lv_icmp_ne (tgt := 55) hx hb dX2_isMetBy_48 (by decide) (fun c_5 => ?_) (fun c_5 => ?_)
        · refine lv_iconst (v := 0) hx hb dX2_isMetBy_55 (by decide) ?_
          refine lv_goto (tgt := 72) hx hb dX2_isMetBy_56 (by decide) ?_
          exact W.zret (v := 0) hx hb hr (rfl) (fun t ht hW => ⟨⟨0, S, rfl, ⟨by simp [cMeet, c_1, c_2, c_3, c_5], rfl⟩, by rw [ht]; exact hP, va_K.moved hW.alike hK, hD⟩, hS.F ht⟩) hS.2.2 dX2_isMetBy_72
        · refine lv_iconst (v := 1) hx hb dX2_isMetBy_51 (by decide) ?_
          refine lv_goto (tgt := 72) hx hb dX2_isMetBy_52 (by decide) ?_
          exact W.zret (v := 1) hx hb hr (rfl) (fun t ht hW => ⟨⟨1, S, rfl, ⟨by simp [cMeet, c_1, c_2, c_3, c_5], rfl⟩, by rw [ht]; exact hP, va_K.moved hW.alike hK, hD⟩, hS.F ht⟩) hS.2.2 dX2_isMetBy_72
    · refine lv_iload_n hx hb dX2_isMetBy_21 rfl (lv_at hl 0 rfl) ?_
      refine lv_aload_n hx hb dX2_isMetBy_22 rfl (lv_at hl 1 rfl) ?_
      refine kx_geti hx hb htT m_u_X2 hown hK hP hu (Nat.le_of_ble_eq_true rfl) rfl 2 (by decide) (by decide) rfl (htT _ m_fl_X2_18) dX2_isMetBy_23 ?_
      refine lv_icmp_ge (tgt := 33) hx hb dX2_isMetBy_26 (by decide) (fun c_6 => ?_) (fun c_6 => ?_)
      · replace c_6 := Int32.not_lt.mpr c_6
        refine lv_iconst (v := 0) hx hb dX2_isMetBy_33 (by decide) ?_
        exact W.zret (v := 0) hx hb hr (rfl) (fun t ht hW => ⟨⟨0, S, rfl, ⟨by simp [cMeet, c_1, c_2, c_6], rfl⟩, by rw [ht]; exact hP, va_K.moved hW.alike hK, hD⟩, hS.F ht⟩) hS.2.2 dX2_isMetBy_34
      · replace c_6 := Int32.not_le.mp c_6
        refine lv_iconst (v := 1) hx hb dX2_isMetBy_29 (by decide) ?_
        refine lv_goto (tgt := 34) hx hb dX2_isMetBy_30 (by decide) ?_
        exact W.zret (v := 1) hx hb hr (rfl) (fun t ht hW => ⟨⟨1, S, rfl, ⟨by simp [cMeet, c_1, c_2, c_6], rfl⟩, by rw [ht]; exact hP, va_K.moved hW.alike hK, hD⟩, hS.F ht⟩) hS.2.2 dX2_isMetBy_34
  · refine lv_iload_n hx hb dX2_isMetBy_7 rfl (lv_at hl 1 rfl) ?_
    refine lv_goto (tgt := 12) hx hb dX2_isMetBy_8 (by decide) ?_
    refine lv_istore_n (lv' := [(3, .int f), (0, .ref u), (1, .int f), (2, .int g)]) hx hb dX2_isMetBy_12 rfl hl (by decide) rfl (fun ls hl => ?_)
    refine lv_aload_n hx hb dX2_isMetBy_13 rfl (lv_at hl 1 rfl) ?_
    refine kx_geti hx hb htT m_u_X2 hown hK hP hu (Nat.le_of_ble_eq_true rfl) rfl 1 (by decide) (by decide) rfl (htT _ m_fl_X2_15) dX2_isMetBy_14 ?_
    refine lv_iconst (v := 1) hx hb dX2_isMetBy_17 (by decide) ?_
    refine lv_icmp_ne (tgt := 35) hx hb dX2_isMetBy_18 (by decide) (fun c_7 => ?_) (fun c_7 => ?_)
    · refine lv_aload_n hx hb dX2_isMetBy_35 rfl (lv_at hl 1 rfl) ?_
      refine kx_geti hx hb htT m_u_X2 hown hK hP hu (Nat.le_of_ble_eq_true rfl) rfl 1 (by decide) (by decide) rfl (htT _ m_fl_X2_15) dX2_isMetBy_36 ?_
      refine lv_iconst (v := 2) hx hb dX2_isMetBy_39 (by decide) ?_
      refine lv_icmp_ne (tgt := 59) hx hb dX2_isMetBy_40 (by decide) (fun c_8 => ?_) (fun c_8 => ?_)
      · refine lv_iload_n hx hb dX2_isMetBy_59 rfl (lv_at hl 0 rfl) ?_
        refine lv_aload_n hx hb dX2_isMetBy_60 rfl (lv_at hl 1 rfl) ?_
        refine kx_geti hx hb htT m_u_X2 hown hK hP hu (Nat.le_of_ble_eq_true rfl) rfl 2 (by decide) (by decide) rfl (htT _ m_fl_X2_18) dX2_isMetBy_61 ?_
        refine lv_icmp_le (tgt := 71) hx hb dX2_isMetBy_64 (by decide) (fun c_9 => ?_) (fun c_9 => ?_)
        · replace c_9 := Int32.not_lt.mpr c_9
          refine lv_iconst (v := 0) hx hb dX2_isMetBy_71 (by decide) ?_
          exact W.zret (v := 0) hx hb hr (rfl) (fun t ht hW => ⟨⟨0, S, rfl, ⟨by simp [cMeet, c_1, c_7, c_8, c_9], rfl⟩, by rw [ht]; exact hP, va_K.moved hW.alike hK, hD⟩, hS.F ht⟩) hS.2.2 dX2_isMetBy_72
        · replace c_9 := Int32.not_le.mp c_9
          refine lv_iconst (v := 1) hx hb dX2_isMetBy_67 (by decide) ?_
          refine lv_goto (tgt := 72) hx hb dX2_isMetBy_68 (by decide) ?_
          exact W.zret (v := 1) hx hb hr (rfl) (fun t ht hW => ⟨⟨1, S, rfl, ⟨by simp [cMeet, c_1, c_7, c_8, c_9], rfl⟩, by rw [ht]; exact hP, va_K.moved hW.alike hK, hD⟩, hS.F ht⟩) hS.2.2 dX2_isMetBy_72
      · refine lv_iload_n hx hb dX2_isMetBy_43 rfl (lv_at hl 0 rfl) ?_
        refine lv_aload_n hx hb dX2_isMetBy_44 rfl (lv_at hl 1 rfl) ?_
        refine kx_geti hx hb htT m_u_X2 hown hK hP hu (Nat.le_of_ble_eq_true rfl) rfl 2 (by decide) (by decide) rfl (htT _ m_fl_X2_18) dX2_isMetBy_45 ?_
        refine lv_icmp_ne (tgt := 55) hx hb dX2_isMetBy_48 (by decide) (fun c_10 => ?_) (fun c_10 => ?_)
        · refine lv_iconst (v := 0) hx hb dX2_isMetBy_55 (by decide) ?_
          refine lv_goto (tgt := 72) hx hb dX2_isMetBy_56 (by decide) ?_
          exact W.zret (v := 0) hx hb hr (rfl) (fun t ht hW => ⟨⟨0, S, rfl, ⟨by simp [cMeet, c_1, c_7, c_8, c_10], rfl⟩, by rw [ht]; exact hP, va_K.moved hW.alike hK, hD⟩, hS.F ht⟩) hS.2.2 dX2_isMetBy_72
        · refine lv_iconst (v := 1) hx hb dX2_isMetBy_51 (by decide) ?_
          refine lv_goto (tgt := 72) hx hb dX2_isMetBy_52 (by decide) ?_
          exact W.zret (v := 1) hx hb hr (rfl) (fun t ht hW => ⟨⟨1, S, rfl, ⟨by simp [cMeet, c_1, c_7, c_8, c_10], rfl⟩, by rw [ht]; exact hP, va_K.moved hW.alike hK, hD⟩, hS.F ht⟩) hS.2.2 dX2_isMetBy_72
    · refine lv_iload_n hx hb dX2_isMetBy_21 rfl (lv_at hl 0 rfl) ?_
      refine lv_aload_n hx hb dX2_isMetBy_22 rfl (lv_at hl 1 rfl) ?_
      refine kx_geti hx hb htT m_u_X2 hown hK hP hu (Nat.le_of_ble_eq_true rfl) rfl 2 (by decide) (by decide) rfl (htT _ m_fl_X2_18) dX2_isMetBy_23 ?_
      refine lv_icmp_ge (tgt := 33) hx hb dX2_isMetBy_26 (by decide) (fun c_11 => ?_) (fun c_11 => ?_)
      · replace c_11 := Int32.not_lt.mpr c_11
        refine lv_iconst (v := 0) hx hb dX2_isMetBy_33 (by decide) ?_
        exact W.zret (v := 0) hx hb hr (rfl) (fun t ht hW => ⟨⟨0, S, rfl, ⟨by simp [cMeet, c_1, c_7, c_11], rfl⟩, by rw [ht]; exact hP, va_K.moved hW.alike hK, hD⟩, hS.F ht⟩) hS.2.2 dX2_isMetBy_34
      · replace c_11 := Int32.not_le.mp c_11
        refine lv_iconst (v := 1) hx hb dX2_isMetBy_29 (by decide) ?_
        refine lv_goto (tgt := 34) hx hb dX2_isMetBy_30 (by decide) ?_
        exact W.zret (v := 1) hx hb hr (rfl) (fun t ht hW => ⟨⟨1, S, rfl, ⟨by simp [cMeet, c_1, c_7, c_11], rfl⟩, by rw [ht]; exact hP, va_K.moved hW.alike hK, hD⟩, hS.F ht⟩) hS.2.2 dX2_isMetBy_34

set_option maxRecDepth 100000 in
set_option maxHeartbeats 4000000 in
/-- the first rule that holds -/
theorem c_firstRuleFor (l : Launch) (D : va_G) (cA : Nat → ClassId) (sz : Nat) (S : Pool) (a : Nat) (ho : isO S a 3) (rl : Nat) (hq5 : gQ S a 5 = some rl) (hrl : isA S rl 21 5) (hro : ∀ k, k < 5 → ∀ u, gP S rl k = some u → isO S u 2) (f g : Int32) : Met l yX3_firstRuleFor (Cond.code yX3_firstRuleFor cX3_firstRuleFor 5 (some .int) :: TT) ({ frames := 1, cells := 0, slots := 0, locals := 23 }) (va_Pc [.ref a, .int f, .int g] (kPre D cA (PW cA S) sz)) (va_Qi (fun (r_ : Int32) (x_ : Pool) => r_ = cHold S rl f g 5 0 ∧ x_ = S) (fun x_ => kB D cA (va_A (PW cA S) sz) (PW cA x_)) (va_A (PW cA S) sz)) 0 0 (va_A (PW cA S) sz) := by
  refine Met.ofW (cc := cX3_firstRuleFor) (maxL := 5) (ret := (some .int)) (by decide) rfl ?_
  intro p e s m args below meth c s₁ B hml hv
  obtain ⟨rfl, hsz, hP, hK, hD0, hTB⟩ := hv
  have hx := B.exec
  have hb := B.bytes
  have hr := B.returns
  have hts := atoms_spec (ws := Cond.code yX3_firstRuleFor cX3_firstRuleFor 5 (some .int) :: TT) B.pre
  have htT : ∀ w ∈ TT, w.before _ s = true := fun w h => hts w (List.mem_cons_of_mem _ h)
  have hown : s.vm.findClass RX3 = some m.cls := findClass_of_methodNamed B.named
  have hlocks := B.notSynchronized
  subst hsz
  have hD := hD0.self (sz := s.heap.size)
  generalize hAe : va_A (PW cA S) s.heap.size = A at hD ⊢
  have hA : ∀ q : Nat, s.heap.size ≤ q → A q := fun q h => by rw [← hAe]; exact Or.inr h
  have hS : va_S A s.heap s.heap [] := va_S.rf
  have hl := lv_entry ([.ref a, .int f, .int g]) (n := 5) (Nat.le_of_ble_eq_true rfl)
  rw [lg_entry_eq]
  generalize (lg_sl ([.ref a, .int f, .int g]) ++ List.replicate (5 - (lg_sl ([.ref a, .int f, .int g])).length) Slot.unset).toArray = ls at hl ⊢
  have hl : lv_has ls 5 [(0, .ref a), (1, .int f), (2, .int g)] := hl
  refine lv_iconst (v := 0) hx hb dX3_firstRuleFor_0 (by decide) ?_
  refine lv_istore_n (lv' := [(3, .int 0), (0, .ref a), (1, .int f), (2, .int g)]) hx hb dX3_firstRuleFor_1 rfl hl (by decide) rfl (fun ls hl => ?_)
  refine kz_loop 2 (fun n H locs ls => ∃ (j : Nat), n = 5 - j ∧ j ≤ 5 ∧ cHold S rl f g 5 0 = cHold S rl f g (5 - j) j ∧ va_P D vwCl (PW cA S) H ∧ va_D A (PW cA S) ∧ va_S A s.heap H locs ∧ lv_has ls 5 [(3, .int (nI j)), (2, .int g), (1, .int f), (0, .ref a)]) (fun n ih_2 H locs ls hI => ?_) ⟨0, rfl, by omega, rfl, hP, hD, hS, lv_sub hl [0, 3, 2, 1] rfl⟩
  obtain ⟨j, hn9, hj, hF, hP, hD, hS, hl⟩ := hI
  refine lv_iload_n hx hb dX3_firstRuleFor_2 rfl (lv_at hl 0 rfl) ?_
  refine lv_aload_n hx hb dX3_firstRuleFor_3 rfl (lv_at hl 3 rfl) ?_
  refine kx_gets hx hb htT m_u_X3 hown hK hP ho (Nat.le_of_ble_eq_true rfl) rfl 5 (by decide) (by decide) rfl hq5 (htT _ m_fl_X3_17) dX3_firstRuleFor_4 ?_
  refine kx_alen (v := 5) hx hb hK hP hrl (Nat.le_of_ble_eq_true rfl) (Nat.le_of_ble_eq_true rfl) rfl dX3_firstRuleFor_7 ?_
  refine lv_icmp_ge (tgt := 42) hx hb dX3_firstRuleFor_8 (by decide) (fun c_1 => ?_) (fun c_1 => ?_)
  · replace c_1 := (nI_leI (a := 5) (b := j) (by omega) (by omega)).mp c_1
    refine lv_iconst (v := (-1)) hx hb dX3_firstRuleFor_42 (by decide) ?_
    exact W.iret (v := -1) hx hb hr (fun t ht hW => ⟨⟨-1, S, rfl, ⟨by rw [hF, show 5 - j = 0 by omega]; rfl, rfl⟩, by rw [ht]; exact hP, va_K.moved hW.alike hK, hD⟩, hS.F ht⟩) hS.2.2 dX3_firstRuleFor_43
  · replace c_1 : ¬ (5 ≤ j) := fun h9 => c_1 ((nI_leI (a := 5) (b := j) (by omega) (by omega)).mpr h9)
    refine lv_aload_n hx hb dX3_firstRuleFor_11 rfl (lv_at hl 3 rfl) ?_
    refine kx_gets hx hb htT m_u_X3 hown hK hP ho (Nat.le_of_ble_eq_true rfl) rfl 5 (by decide) (by decide) rfl hq5 (htT _ m_fl_X3_17) dX3_firstRuleFor_12 ?_
    refine lv_iload_n hx hb dX3_firstRuleFor_15 rfl (lv_at hl 0 rfl) ?_
    refine kx_aldr (r := gP S rl j) hx hb hK hP hrl (show vp_in (nI (j)) 5 from ki_in (by omega) (by decide)) (congrArg _ (ki_cl (by omega))) dX3_firstRuleFor_16 ?_
    rcases hr9 : gP S rl j with _ | y_9
    · refine lv_astoreN (lv' := [(4, .null), (3, .int (nI j)), (2, .int g), (1, .int f), (0, .ref a)]) hx hb dX3_firstRuleFor_17 hl (by decide) rfl (fun ls hl => ?_)
      refine lv_aloadN hx hb dX3_firstRuleFor_19 (lv_at hl 0 rfl) ?_
      refine lv_ifnullN (tgt := 36) hx hb dX3_firstRuleFor_21 (by decide) ?_
      refine lv_iinc (v := nI (j + 1)) (lv' := [(3, .int (nI (j + 1))), (4, .null), (2, .int g), (1, .int f), (0, .ref a)]) hx hb dX3_firstRuleFor_36 hl (k := 1) rfl (nI_1 _) (by decide) rfl (fun ls hl => ?_)
      refine lv_goto (tgt := 2) hx hb dX3_firstRuleFor_39 (by decide) ?_
      have hl := lv_sub hl [0, 2, 3, 4] rfl
      exact ih_2 _ (by omega) H locs ls ⟨j + 1, rfl, by omega, by rw [hF, show 5 - j = (5 - (j + 1)) + 1 by omega]; simp [cHold, hr9], hP, hD, hS, hl⟩
    · have hu9 := hro _ (by omega) _ hr9
      refine lv_astore (lv' := [(4, .ref y_9), (3, .int (nI j)), (2, .int g), (1, .int f), (0, .ref a)]) hx hb dX3_firstRuleFor_17 hl (by decide) rfl (fun ls hl => ?_)
      refine lv_aload hx hb dX3_firstRuleFor_19 (lv_at hl 0 rfl) ?_
      refine lv_ifnull hx hb dX3_firstRuleFor_21 ?_
      refine lv_aload hx hb dX3_firstRuleFor_24 (lv_at hl 0 rfl) ?_
      refine lv_iload_n hx hb dX3_firstRuleFor_26 rfl (lv_at hl 3 rfl) ?_
      refine lv_iload_n hx hb dX3_firstRuleFor_27 rfl (lv_at hl 2 rfl) ?_
      refine kc_i (va_runV (As := [.int f, .int g]) (rest := []) ⟨hx, hb, hml, hown, htT⟩ (c_isMetBy l D cA _ S y_9 hu9 f g) (cwV 2 htT (kg_V m_ml_X3_81 m_im_X2_isMetBy m_sl_X2_isMetBy m_in_X2 m_cd_X2_isMetBy) rfl rfl rfl (by decide +kernel) ⟨Nat.le_of_ble_eq_true rfl, Nat.le_of_ble_eq_true rfl⟩) (kp_V hK hP hD hTB (kp_rc hK hP hu9 (Nat.le_of_ble_eq_true rfl) rfl)) rfl rfl hl.1 rfl (lv_room (Nat.le_of_ble_eq_true rfl)) dX3_firstRuleFor_28 ⟨Nat.le_of_ble_eq_true rfl, Nat.le_of_ble_eq_true rfl⟩) hD hS hA (fun r_2 x_2 H locs hq_2 hP hD hS => ?_)
      rw [hq_2.1]
      rw [hq_2.2] at hP hD
      refine lv_if_eq (tgt := 36) hx hb dX3_firstRuleFor_31 (by decide) (fun c_3 => ?_) (fun c_3 => ?_)
      · refine lv_iinc (v := nI (j + 1)) (lv' := [(3, .int (nI (j + 1))), (4, .ref y_9), (2, .int g), (1, .int f), (0, .ref a)]) hx hb dX3_firstRuleFor_36 hl (k := 1) rfl (nI_1 _) (by decide) rfl (fun ls hl => ?_)
        refine lv_goto (tgt := 2) hx hb dX3_firstRuleFor_39 (by decide) ?_
        have hl := lv_sub hl [0, 2, 3, 4] rfl
        exact ih_2 _ (by omega) H locs ls ⟨j + 1, rfl, by omega, by rw [hF, show 5 - j = (5 - (j + 1)) + 1 by omega]; simp [cHold, hr9, c_3], hP, hD, hS, hl⟩
      · refine lv_iload_n hx hb dX3_firstRuleFor_34 rfl (lv_at hl 1 rfl) ?_
        exact W.iret (v := nI j) hx hb hr (fun t ht hW => ⟨⟨nI j, S, rfl, ⟨by rw [hF, show 5 - j = (5 - (j + 1)) + 1 by omega]; simp [cHold, hr9, c_3], rfl⟩, by rw [ht]; exact hP, va_K.moved hW.alike hK, hD⟩, hS.F ht⟩) hS.2.2 dX3_firstRuleFor_35

set_option maxRecDepth 100000 in
set_option maxHeartbeats 4000000 in
/-- a rule by its place -/
theorem c_ruleAt (l : Launch) (D : va_G) (cA : Nat → ClassId) (sz : Nat) (S : Pool) (a : Nat) (ho : isO S a 3) (rl : Nat) (hq5 : gQ S a 5 = some rl) (hrl : isA S rl 21 5) (k : Int32) : Met l yX3_ruleAt (Cond.code yX3_ruleAt cX3_ruleAt 2 (some (.object "DaybreakFlags$Rule")) :: TT) ({ frames := 0, cells := 0, slots := 0, locals := 0 }) (va_Pc [.ref a, .int k] (kPre D cA (PW cA S) sz)) (va_Qq (fun (r_ : Option Nat) (x_ : Pool) => r_ = cRule S rl k ∧ x_ = S) (fun x_ => kB D cA (va_A (PW cA S) sz) (PW cA x_)) (va_A (PW cA S) sz)) 0 0 (va_A (PW cA S) sz) := by
  refine Met.ofW (cc := cX3_ruleAt) (maxL := 2) (ret := (some (.object "DaybreakFlags$Rule"))) (by decide) rfl ?_
  intro p e s m args below meth c s₁ B hml hv
  obtain ⟨rfl, hsz, hP, hK, hD0, hTB⟩ := hv
  have hx := B.exec
  have hb := B.bytes
  have hr := B.returns
  have hts := atoms_spec (ws := Cond.code yX3_ruleAt cX3_ruleAt 2 (some (.object "DaybreakFlags$Rule")) :: TT) B.pre
  have htT : ∀ w ∈ TT, w.before _ s = true := fun w h => hts w (List.mem_cons_of_mem _ h)
  have hown : s.vm.findClass RX3 = some m.cls := findClass_of_methodNamed B.named
  have hlocks := B.notSynchronized
  subst hsz
  have hD := hD0.self (sz := s.heap.size)
  generalize hAe : va_A (PW cA S) s.heap.size = A at hD ⊢
  have hA : ∀ q : Nat, s.heap.size ≤ q → A q := fun q h => by rw [← hAe]; exact Or.inr h
  have hS : va_S A s.heap s.heap [] := va_S.rf
  have hl := lv_entry ([.ref a, .int k]) (n := 2) (Nat.le_of_ble_eq_true rfl)
  rw [lg_entry_eq]
  generalize (lg_sl ([.ref a, .int k]) ++ List.replicate (2 - (lg_sl ([.ref a, .int k])).length) Slot.unset).toArray = ls at hl ⊢
  have hl : lv_has ls 2 [(0, .ref a), (1, .int k)] := hl
  refine lv_iload_n hx hb dX3_ruleAt_0 rfl (lv_at hl 1 rfl) ?_
  refine lv_if_lt (tgt := 13) hx hb dX3_ruleAt_1 (by decide) (fun c_1 => ?_) (fun c_1 => ?_)
  · refine lv_null hx hb dX3_ruleAt_13 ?_
    refine lv_goto (tgt := 23) hx hb dX3_ruleAt_14 (by decide) ?_
    exact W.aret (v := va_rf none) hx hb hr (Or.inl ⟨_, rfl⟩) (kz_rf _) (fun t ht hW => ⟨⟨none, S, rfl, ⟨by simp [cRule, c_1], rfl⟩, by rw [ht]; exact hP, va_K.moved hW.alike hK, hD⟩, hS.F ht⟩) hS.2.2 dX3_ruleAt_23
  · refine lv_iload_n hx hb dX3_ruleAt_4 rfl (lv_at hl 1 rfl) ?_
    refine lv_aload_n hx hb dX3_ruleAt_5 rfl (lv_at hl 0 rfl) ?_
    refine kx_gets hx hb htT m_u_X3 hown hK hP ho (Nat.le_of_ble_eq_true rfl) rfl 5 (by decide) (by decide) rfl hq5 (htT _ m_fl_X3_17) dX3_ruleAt_6 ?_
    refine kx_alen (v := 5) hx hb hK hP hrl (Nat.le_of_ble_eq_true rfl) (Nat.le_of_ble_eq_true rfl) rfl dX3_ruleAt_9 ?_
    refine lv_icmp_lt (tgt := 17) hx hb dX3_ruleAt_10 (by decide) (fun c_2 => ?_) (fun c_2 => ?_)
    · refine lv_aload_n hx hb dX3_ruleAt_17 rfl (lv_at hl 0 rfl) ?_
      refine kx_gets hx hb htT m_u_X3 hown hK hP ho (Nat.le_of_ble_eq_true rfl) rfl 5 (by decide) (by decide) rfl hq5 (htT _ m_fl_X3_17) dX3_ruleAt_18 ?_
      refine lv_iload_n hx hb dX3_ruleAt_21 rfl (lv_at hl 1 rfl) ?_
      refine kx_aldr hx hb hK hP hrl (kz_in (by decide) c_1 c_2) rfl dX3_ruleAt_22 ?_
      exact W.aret (v := va_rf (gP S rl k.toNatClampNeg)) hx hb hr (Or.inl ⟨_, rfl⟩) (kz_rf _) (fun t ht hW => ⟨⟨(gP S rl k.toNatClampNeg), S, rfl, ⟨by simp [cRule, c_1, c_2], rfl⟩, by rw [ht]; exact hP, va_K.moved hW.alike hK, hD⟩, hS.F ht⟩) hS.2.2 dX3_ruleAt_23
    · refine lv_null hx hb dX3_ruleAt_13 ?_
      refine lv_goto (tgt := 23) hx hb dX3_ruleAt_14 (by decide) ?_
      exact W.aret (v := va_rf none) hx hb hr (Or.inl ⟨_, rfl⟩) (kz_rf _) (fun t ht hW => ⟨⟨none, S, rfl, ⟨by simp [cRule, c_1, c_2], rfl⟩, by rw [ht]; exact hP, va_K.moved hW.alike hK, hD⟩, hS.F ht⟩) hS.2.2 dX3_ruleAt_23

set_option maxRecDepth 100000 in
set_option maxHeartbeats 4000000 in
/-- a weight -/
theorem c_weightOf (l : Launch) (D : va_G) (cA : Nat → ClassId) (sz : Nat) (S : Pool) (a : Nat) (ho : isO S a 3) (wt : Nat) (hq4 : gQ S a 4 = some wt) (hwt : isA S wt 6 4) (k : Int32) : Met l yX3_weightOf (Cond.code yX3_weightOf cX3_weightOf 2 (some .int) :: TT) ({ frames := 0, cells := 0, slots := 0, locals := 0 }) (va_Pc [.ref a, .int k] (kPre D cA (PW cA S) sz)) (va_Qi (fun (r_ : Int32) (x_ : Pool) => r_ = cWt S wt k ∧ x_ = S) (fun x_ => kB D cA (va_A (PW cA S) sz) (PW cA x_)) (va_A (PW cA S) sz)) 0 0 (va_A (PW cA S) sz) := by
  refine Met.ofW (cc := cX3_weightOf) (maxL := 2) (ret := (some .int)) (by decide) rfl ?_
  intro p e s m args below meth c s₁ B hml hv
  obtain ⟨rfl, hsz, hP, hK, hD0, hTB⟩ := hv
  have hx := B.exec
  have hb := B.bytes
  have hr := B.returns
  have hts := atoms_spec (ws := Cond.code yX3_weightOf cX3_weightOf 2 (some .int) :: TT) B.pre
  have htT : ∀ w ∈ TT, w.before _ s = true := fun w h => hts w (List.mem_cons_of_mem _ h)
  have hown : s.vm.findClass RX3 = some m.cls := findClass_of_methodNamed B.named
  have hlocks := B.notSynchronized
  subst hsz
  have hD := hD0.self (sz := s.heap.size)
  generalize hAe : va_A (PW cA S) s.heap.size = A at hD ⊢
  have hA : ∀ q : Nat, s.heap.size ≤ q → A q := fun q h => by rw [← hAe]; exact Or.inr h
  have hS : va_S A s.heap s.heap [] := va_S.rf
  have hl := lv_entry ([.ref a, .int k]) (n := 2) (Nat.le_of_ble_eq_true rfl)
  rw [lg_entry_eq]
  generalize (lg_sl ([.ref a, .int k]) ++ List.replicate (2 - (lg_sl ([.ref a, .int k])).length) Slot.unset).toArray = ls at hl ⊢
  have hl : lv_has ls 2 [(0, .ref a), (1, .int k)] := hl
  refine lv_iload_n hx hb dX3_weightOf_0 rfl (lv_at hl 1 rfl) ?_
  refine lv_if_lt (tgt := 13) hx hb dX3_weightOf_1 (by decide) (fun c_1 => ?_) (fun c_1 => ?_)
  · refine lv_iconst (v := 0) hx hb dX3_weightOf_13 (by decide) ?_
    refine lv_goto (tgt := 23) hx hb dX3_weightOf_14 (by decide) ?_
    exact W.iret (v := 0) hx hb hr (fun t ht hW => ⟨⟨0, S, rfl, ⟨by simp [cWt, c_1], rfl⟩, by rw [ht]; exact hP, va_K.moved hW.alike hK, hD⟩, hS.F ht⟩) hS.2.2 dX3_weightOf_23
  · refine lv_iload_n hx hb dX3_weightOf_4 rfl (lv_at hl 1 rfl) ?_
    refine lv_aload_n hx hb dX3_weightOf_5 rfl (lv_at hl 0 rfl) ?_
    refine kx_gets hx hb htT m_u_X3 hown hK hP ho (Nat.le_of_ble_eq_true rfl) rfl 4 (by decide) (by decide) rfl hq4 (htT _ m_fl_X3_9) dX3_weightOf_6 ?_
    refine kx_alen (v := 4) hx hb hK hP hwt (Nat.le_of_ble_eq_true rfl) (Nat.le_of_ble_eq_true rfl) rfl dX3_weightOf_9 ?_
    refine lv_icmp_lt (tgt := 17) hx hb dX3_weightOf_10 (by decide) (fun c_2 => ?_) (fun c_2 => ?_)
    · refine lv_aload_n hx hb dX3_weightOf_17 rfl (lv_at hl 0 rfl) ?_
      refine kx_gets hx hb htT m_u_X3 hown hK hP ho (Nat.le_of_ble_eq_true rfl) rfl 4 (by decide) (by decide) rfl hq4 (htT _ m_fl_X3_9) dX3_weightOf_18 ?_
      refine lv_iload_n hx hb dX3_weightOf_21 rfl (lv_at hl 1 rfl) ?_
      refine kx_iald hx hb hK hP hwt (Nat.le_of_ble_eq_true rfl) (Nat.le_of_ble_eq_true rfl) (kz_in (by decide) c_1 c_2) dX3_weightOf_22 ?_
      exact W.iret (v := gR S wt k.toNatClampNeg) hx hb hr (fun t ht hW => ⟨⟨gR S wt k.toNatClampNeg, S, rfl, ⟨by simp [cWt, c_1, c_2], rfl⟩, by rw [ht]; exact hP, va_K.moved hW.alike hK, hD⟩, hS.F ht⟩) hS.2.2 dX3_weightOf_23
    · refine lv_iconst (v := 0) hx hb dX3_weightOf_13 (by decide) ?_
      refine lv_goto (tgt := 23) hx hb dX3_weightOf_14 (by decide) ?_
      exact W.iret (v := 0) hx hb hr (fun t ht hW => ⟨⟨0, S, rfl, ⟨by simp [cWt, c_1, c_2], rfl⟩, by rw [ht]; exact hP, va_K.moved hW.alike hK, hD⟩, hS.F ht⟩) hS.2.2 dX3_weightOf_23

set_option maxRecDepth 100000 in
set_option maxHeartbeats 4000000 in
/-- the variant of a bucket -/
theorem c_splitBy (l : Launch) (D : va_G) (cA : Nat → ClassId) (sz : Nat) (S : Pool) (a : Nat) (ho : isO S a 3) (wt : Nat) (hq4 : gQ S a 4 = some wt) (hwt : isA S wt 6 4) (bk : Int32) : Met l yX3_splitBy (Cond.code yX3_splitBy cX3_splitBy 4 (some .int) :: TT) ({ frames := 0, cells := 0, slots := 0, locals := 0 }) (va_Pc [.ref a, .int bk] (kPre D cA (PW cA S) sz)) (va_Qi (fun (r_ : Int32) (x_ : Pool) => r_ = cSplit S wt bk 4 0 0 ∧ x_ = S) (fun x_ => kB D cA (va_A (PW cA S) sz) (PW cA x_)) (va_A (PW cA S) sz)) 0 0 (va_A (PW cA S) sz) := by
  refine Met.ofW (cc := cX3_splitBy) (maxL := 4) (ret := (some .int)) (by decide) rfl ?_
  intro p e s m args below meth c s₁ B hml hv
  obtain ⟨rfl, hsz, hP, hK, hD0, hTB⟩ := hv
  have hx := B.exec
  have hb := B.bytes
  have hr := B.returns
  have hts := atoms_spec (ws := Cond.code yX3_splitBy cX3_splitBy 4 (some .int) :: TT) B.pre
  have htT : ∀ w ∈ TT, w.before _ s = true := fun w h => hts w (List.mem_cons_of_mem _ h)
  have hown : s.vm.findClass RX3 = some m.cls := findClass_of_methodNamed B.named
  have hlocks := B.notSynchronized
  subst hsz
  have hD := hD0.self (sz := s.heap.size)
  generalize hAe : va_A (PW cA S) s.heap.size = A at hD ⊢
  have hA : ∀ q : Nat, s.heap.size ≤ q → A q := fun q h => by rw [← hAe]; exact Or.inr h
  have hS : va_S A s.heap s.heap [] := va_S.rf
  have hl := lv_entry ([.ref a, .int bk]) (n := 4) (Nat.le_of_ble_eq_true rfl)
  rw [lg_entry_eq]
  generalize (lg_sl ([.ref a, .int bk]) ++ List.replicate (4 - (lg_sl ([.ref a, .int bk])).length) Slot.unset).toArray = ls at hl ⊢
  have hl : lv_has ls 4 [(0, .ref a), (1, .int bk)] := hl
  refine lv_iconst (v := 0) hx hb dX3_splitBy_0 (by decide) ?_
  refine lv_istore_n (lv' := [(2, .int 0), (0, .ref a), (1, .int bk)]) hx hb dX3_splitBy_1 rfl hl (by decide) rfl (fun ls hl => ?_)
  refine lv_iconst (v := 0) hx hb dX3_splitBy_2 (by decide) ?_
  refine lv_istore_n (lv' := [(3, .int 0), (2, .int 0), (0, .ref a), (1, .int bk)]) hx hb dX3_splitBy_3 rfl hl (by decide) rfl (fun ls hl => ?_)
  refine kz_loop 4 (fun n H locs ls => ∃ (v : Nat) (acc : Int32), n = 4 - v ∧ v ≤ 4 ∧ cSplit S wt bk 4 0 0 = cSplit S wt bk (4 - v) v acc ∧ va_P D vwCl (PW cA S) H ∧ va_D A (PW cA S) ∧ va_S A s.heap H locs ∧ lv_has ls 4 [(3, .int (nI v)), (2, .int acc), (1, .int bk), (0, .ref a)]) (fun n ih_4 H locs ls hI => ?_) ⟨0, 0, rfl, by omega, rfl, hP, hD, hS, lv_sub hl [0, 1, 3, 2] rfl⟩
  obtain ⟨v, acc, hn9, hv, hF, hP, hD, hS, hl⟩ := hI
  refine lv_iload_n hx hb dX3_splitBy_4 rfl (lv_at hl 0 rfl) ?_
  refine lv_aload_n hx hb dX3_splitBy_5 rfl (lv_at hl 3 rfl) ?_
  refine kx_gets hx hb htT m_u_X3 hown hK hP ho (Nat.le_of_ble_eq_true rfl) rfl 4 (by decide) (by decide) rfl hq4 (htT _ m_fl_X3_9) dX3_splitBy_6 ?_
  refine kx_alen (v := 4) hx hb hK hP hwt (Nat.le_of_ble_eq_true rfl) (Nat.le_of_ble_eq_true rfl) rfl dX3_splitBy_9 ?_
  refine lv_icmp_ge (tgt := 35) hx hb dX3_splitBy_10 (by decide) (fun c_1 => ?_) (fun c_1 => ?_)
  · replace c_1 := (nI_leI (a := 4) (b := v) (by omega) (by omega)).mp c_1
    refine lv_iconst (v := 0) hx hb dX3_splitBy_35 (by decide) ?_
    exact W.iret (v := 0) hx hb hr (fun t ht hW => ⟨⟨0, S, rfl, ⟨by rw [hF, show 4 - v = 0 by omega]; rfl, rfl⟩, by rw [ht]; exact hP, va_K.moved hW.alike hK, hD⟩, hS.F ht⟩) hS.2.2 dX3_splitBy_36
  · replace c_1 : ¬ (4 ≤ v) := fun h9 => c_1 ((nI_leI (a := 4) (b := v) (by omega) (by omega)).mpr h9)
    refine lv_iload_n hx hb dX3_splitBy_13 rfl (lv_at hl 1 rfl) ?_
    refine lv_aload_n hx hb dX3_splitBy_14 rfl (lv_at hl 3 rfl) ?_
    refine kx_gets hx hb htT m_u_X3 hown hK hP ho (Nat.le_of_ble_eq_true rfl) rfl 4 (by decide) (by decide) rfl hq4 (htT _ m_fl_X3_9) dX3_splitBy_15 ?_
    refine lv_iload_n hx hb dX3_splitBy_18 rfl (lv_at hl 0 rfl) ?_
    refine kx_iald hx hb hK hP hwt (Nat.le_of_ble_eq_true rfl) (Nat.le_of_ble_eq_true rfl) (show vp_in (nI (v)) 4 from ki_in (by omega) (by decide)) dX3_splitBy_19 ?_
    rw [ki_cl (n := v) (by omega)]
    refine lv_iadd hx hb dX3_splitBy_20 ?_
    refine lv_istore_n (lv' := [(2, .int (acc + (gR S wt v))), (3, .int (nI v)), (1, .int bk), (0, .ref a)]) hx hb dX3_splitBy_21 rfl hl (by decide) rfl (fun ls hl => ?_)
    refine lv_iload_n hx hb dX3_splitBy_22 rfl (lv_at hl 2 rfl) ?_
    refine lv_iload_n hx hb dX3_splitBy_23 rfl (lv_at hl 0 rfl) ?_
    refine lv_icmp_ge (tgt := 29) hx hb dX3_splitBy_24 (by decide) (fun c_2 => ?_) (fun c_2 => ?_)
    · replace c_2 := Int32.not_lt.mpr c_2
      refine lv_iinc (v := nI (v + 1)) (lv' := [(3, .int (nI (v + 1))), (2, .int (acc + (gR S wt v))), (1, .int bk), (0, .ref a)]) hx hb dX3_splitBy_29 hl (k := 1) rfl (nI_1 _) (by decide) rfl (fun ls hl => ?_)
      refine lv_goto (tgt := 4) hx hb dX3_splitBy_32 (by decide) ?_
      have hl := lv_sub hl [0, 1, 2, 3] rfl
      exact ih_4 _ (by omega) H locs ls ⟨v + 1, _, rfl, by omega, by rw [hF, show 4 - v = (4 - (v + 1)) + 1 by omega]; simp [cSplit, c_2], hP, hD, hS, hl⟩
    · replace c_2 := Int32.not_le.mp c_2
      refine lv_iload_n hx hb dX3_splitBy_27 rfl (lv_at hl 1 rfl) ?_
      exact W.iret (v := nI v) hx hb hr (fun t ht hW => ⟨⟨nI v, S, rfl, ⟨by rw [hF, show 4 - v = (4 - (v + 1)) + 1 by omega]; simp [cSplit, c_2], rfl⟩, by rw [ht]; exact hP, va_K.moved hW.alike hK, hD⟩, hS.F ht⟩) hS.2.2 dX3_splitBy_28

set_option maxRecDepth 100000 in
set_option maxHeartbeats 4000000 in
/-- how far a ramp is -/
theorem c_farAt (l : Launch) (D : va_G) (cA : Nat → ClassId) (sz : Nat) (S : Pool) (a : Nat) (ho : isO S a 3) (clk : Int32) : Met l yX3_farAt (Cond.code yX3_farAt cX3_farAt 4 (some .int) :: TT) ({ frames := 0, cells := 0, slots := 0, locals := 0 }) (va_Pc [.ref a, .int clk] (kPre D cA (PW cA S) sz)) (va_Qi (fun (r_ : Int32) (x_ : Pool) => r_ = cFar S a clk ∧ x_ = S) (fun x_ => kB D cA (va_A (PW cA S) sz) (PW cA x_)) (va_A (PW cA S) sz)) 0 0 (va_A (PW cA S) sz) := by
  refine Met.ofW (cc := cX3_farAt) (maxL := 4) (ret := (some .int)) (by decide) rfl ?_
  intro p e s m args below meth c s₁ B hml hv
  obtain ⟨rfl, hsz, hP, hK, hD0, hTB⟩ := hv
  have hx := B.exec
  have hb := B.bytes
  have hr := B.returns
  have hts := atoms_spec (ws := Cond.code yX3_farAt cX3_farAt 4 (some .int) :: TT) B.pre
  have htT : ∀ w ∈ TT, w.before _ s = true := fun w h => hts w (List.mem_cons_of_mem _ h)
  have hown : s.vm.findClass RX3 = some m.cls := findClass_of_methodNamed B.named
  have hlocks := B.notSynchronized
  subst hsz
  have hD := hD0.self (sz := s.heap.size)
  generalize hAe : va_A (PW cA S) s.heap.size = A at hD ⊢
  have hA : ∀ q : Nat, s.heap.size ≤ q → A q := fun q h => by rw [← hAe]; exact Or.inr h
  have hS : va_S A s.heap s.heap [] := va_S.rf
  have hl := lv_entry ([.ref a, .int clk]) (n := 4) (Nat.le_of_ble_eq_true rfl)
  rw [lg_entry_eq]
  generalize (lg_sl ([.ref a, .int clk]) ++ List.replicate (4 - (lg_sl ([.ref a, .int clk])).length) Slot.unset).toArray = ls at hl ⊢
  have hl : lv_has ls 4 [(0, .ref a), (1, .int clk)] := hl
  refine lv_aload_n hx hb dX3_farAt_0 rfl (lv_at hl 0 rfl) ?_
  refine kx_geti hx hb htT m_u_X3 hown hK hP ho (Nat.le_of_ble_eq_true rfl) rfl 10 (by decide) (by decide) rfl (htT _ m_fl_X3_28) dX3_farAt_1 ?_
  refine lv_i2l (v := (gI S a 10).toInt64) hx hb dX3_farAt_4 rfl ?_
  refine lv_aload_n hx hb dX3_farAt_5 rfl (lv_at hl 0 rfl) ?_
  refine kx_geti hx hb htT m_u_X3 hown hK hP ho (Nat.le_of_ble_eq_true rfl) rfl 11 (by decide) (by decide) rfl (htT _ m_fl_X3_51) dX3_farAt_6 ?_
  refine lv_i2l (v := (gI S a 11).toInt64) hx hb dX3_farAt_9 rfl ?_
  refine lv_iload_n hx hb dX3_farAt_10 rfl (lv_at hl 1 rfl) ?_
  refine lv_aload_n hx hb dX3_farAt_11 rfl (lv_at hl 0 rfl) ?_
  refine kx_geti hx hb htT m_u_X3 hown hK hP ho (Nat.le_of_ble_eq_true rfl) rfl 12 (by decide) (by decide) rfl (htT _ m_fl_X3_54) dX3_farAt_12 ?_
  refine lv_isub hx hb dX3_farAt_15 ?_
  refine lv_i2l (v := (clk - (gI S a 12)).toInt64) hx hb dX3_farAt_16 rfl ?_
  refine lv_lmul hx hb dX3_farAt_17 ?_
  refine lv_ladd hx hb dX3_farAt_18 ?_
  refine lv_lstore_n (lv' := [(2, .long (((gI S a 10).toInt64) + (((gI S a 11).toInt64) * ((clk - (gI S a 12)).toInt64)))), (0, .ref a), (1, .int clk)]) hx hb dX3_farAt_19 rfl hl (by decide) rfl (fun ls hl => ?_)
  refine lv_lload_n hx hb dX3_farAt_20 rfl (lv_at hl 0 rfl) ?_
  refine lv_ldc2 (v := 1000) hx hb hown (htT _ m_lc_X3_57) dX3_farAt_21 ?_
  refine W.lcmp hx hb dX3_farAt_24 ?_
  refine lv_if_le (tgt := 34) hx hb dX3_farAt_25 (by decide) (fun c_1 => ?_) (fun c_1 => ?_)
  · replace c_1 := Int32.not_lt.mpr c_1
    refine lv_lload_n hx hb dX3_farAt_34 rfl (lv_at hl 0 rfl) ?_
    refine lv_l2i (v := (((gI S a 10).toInt64) + (((gI S a 11).toInt64) * ((clk - (gI S a 12)).toInt64))).toInt32) hx hb dX3_farAt_35 rfl ?_
    exact W.iret (v := (((gI S a 10).toInt64) + (((gI S a 11).toInt64) * ((clk - (gI S a 12)).toInt64))).toInt32) hx hb hr (fun t ht hW => ⟨⟨(((gI S a 10).toInt64) + (((gI S a 11).toInt64) * ((clk - (gI S a 12)).toInt64))).toInt32, S, rfl, ⟨by simp [cFar, cFarL, c_1], rfl⟩, by rw [ht]; exact hP, va_K.moved hW.alike hK, hD⟩, hS.F ht⟩) hS.2.2 dX3_farAt_36
  · replace c_1 := Int32.not_le.mp c_1
    refine lv_sipush (v := 1000) hx hb dX3_farAt_28 (by decide) ?_
    refine lv_goto (tgt := 36) hx hb dX3_farAt_31 (by decide) ?_
    exact W.iret (v := 1000) hx hb hr (fun t ht hW => ⟨⟨1000, S, rfl, ⟨by simp [cFar, cFarL, c_1], rfl⟩, by rw [ht]; exact hP, va_K.moved hW.alike hK, hD⟩, hS.F ht⟩) hS.2.2 dX3_farAt_36

set_option maxRecDepth 100000 in
set_option maxHeartbeats 4000000 in
/-- is a switch on, as it is supposed -/
theorem c_findsOn (l : Launch) (D : va_G) (cA : Nat → ClassId) (sz : Nat) (S : Pool) (ak : Nat) (hak : isO S ak 1) (a : Nat) (ho : isO S a 3) : Met l yX1_findsOn (Cond.code yX1_findsOn cX1_findsOn 2 (some .boolean) :: TT) ({ frames := 0, cells := 0, slots := 0, locals := 0 }) (va_Pc [.ref ak, .ref a] (kPre D cA (PW cA S) sz)) (va_Qi (fun (r_ : Int32) (x_ : Pool) => r_ = cOn S ak a ∧ x_ = S) (fun x_ => kB D cA (va_A (PW cA S) sz) (PW cA x_)) (va_A (PW cA S) sz)) 0 0 (va_A (PW cA S) sz) := by
  refine Met.ofW (cc := cX1_findsOn) (maxL := 2) (ret := (some .boolean)) (by decide) rfl ?_
  intro p e s m args below meth c s₁ B hml hv
  obtain ⟨rfl, hsz, hP, hK, hD0, hTB⟩ := hv
  have hx := B.exec
  have hb := B.bytes
  have hr := B.returns
  have hts := atoms_spec (ws := Cond.code yX1_findsOn cX1_findsOn 2 (some .boolean) :: TT) B.pre
  have htT : ∀ w ∈ TT, w.before _ s = true := fun w h => hts w (List.mem_cons_of_mem _ h)
  have hown : s.vm.findClass RX1 = some m.cls := findClass_of_methodNamed B.named
  have hlocks := B.notSynchronized
  subst hsz
  have hD := hD0.self (sz := s.heap.size)
  generalize hAe : va_A (PW cA S) s.heap.size = A at hD ⊢
  have hA : ∀ q : Nat, s.heap.size ≤ q → A q := fun q h => by rw [← hAe]; exact Or.inr h
  have hS : va_S A s.heap s.heap [] := va_S.rf
  have hl := lv_entry ([.ref ak, .ref a]) (n := 2) (Nat.le_of_ble_eq_true rfl)
  rw [lg_entry_eq]
  generalize (lg_sl ([.ref ak, .ref a]) ++ List.replicate (2 - (lg_sl ([.ref ak, .ref a])).length) Slot.unset).toArray = ls at hl ⊢
  have hl : lv_has ls 2 [(0, .ref ak), (1, .ref a)] := hl
  refine lv_aload_n hx hb dX1_findsOn_0 rfl (lv_at hl 1 rfl) ?_
  refine kx_getiN hx hb htT m_u_X3 hown hK hP ho (Nat.le_of_ble_eq_true rfl) rfl 9 (by decide) (by decide) rfl (hTB.use m_fl_X1_34) dX1_findsOn_1 ?_
  refine lv_aload_n hx hb dX1_findsOn_4 rfl (lv_at hl 1 rfl) ?_
  refine kx_getiN hx hb htT m_u_X3 hown hK hP ho (Nat.le_of_ble_eq_true rfl) rfl 0 (by decide) (by decide) rfl (hTB.use m_fl_X1_40) dX1_findsOn_5 ?_
  refine lv_aload_n hx hb dX1_findsOn_8 rfl (lv_at hl 0 rfl) ?_
  refine kx_geti hx hb htT m_u_X1 hown hK hP hak (Nat.le_of_ble_eq_true rfl) rfl 3 (by decide) (by decide) rfl (htT _ m_fl_X1_9) dX1_findsOn_9 ?_
  refine lv_icmp_ne (tgt := 19) hx hb dX1_findsOn_12 (by decide) (fun c_1 => ?_) (fun c_1 => ?_)
  · refine lv_iconst (v := 0) hx hb dX1_findsOn_19 (by decide) ?_
    refine lv_icmp_eq (tgt := 27) hx hb dX1_findsOn_20 (by decide) (fun c_2 => ?_) (fun c_2 => ?_)
    · refine lv_iconst (v := 0) hx hb dX1_findsOn_27 (by decide) ?_
      exact W.zret (v := 0) hx hb hr (rfl) (fun t ht hW => ⟨⟨0, S, rfl, ⟨by simp [cOn, c_1, c_2], rfl⟩, by rw [ht]; exact hP, va_K.moved hW.alike hK, hD⟩, hS.F ht⟩) hS.2.2 dX1_findsOn_28
    · refine lv_iconst (v := 1) hx hb dX1_findsOn_23 (by decide) ?_
      refine lv_goto (tgt := 28) hx hb dX1_findsOn_24 (by decide) ?_
      exact W.zret (v := 1) hx hb hr (rfl) (fun t ht hW => ⟨⟨1, S, rfl, ⟨by simp [cOn, c_1, c_2], rfl⟩, by rw [ht]; exact hP, va_K.moved hW.alike hK, hD⟩, hS.F ht⟩) hS.2.2 dX1_findsOn_28
  · refine lv_iconst (v := 1) hx hb dX1_findsOn_15 (by decide) ?_
    refine lv_goto (tgt := 20) hx hb dX1_findsOn_16 (by decide) ?_
    refine lv_icmp_eq (tgt := 27) hx hb dX1_findsOn_20 (by decide) (fun c_3 => ?_) (fun c_3 => ?_)
    · refine lv_iconst (v := 0) hx hb dX1_findsOn_27 (by decide) ?_
      exact W.zret (v := 0) hx hb hr (rfl) (fun t ht hW => ⟨⟨0, S, rfl, ⟨by simp [cOn, c_1, c_3], rfl⟩, by rw [ht]; exact hP, va_K.moved hW.alike hK, hD⟩, hS.F ht⟩) hS.2.2 dX1_findsOn_28
    · refine lv_iconst (v := 1) hx hb dX1_findsOn_23 (by decide) ?_
      refine lv_goto (tgt := 28) hx hb dX1_findsOn_24 (by decide) ?_
      exact W.zret (v := 1) hx hb hr (rfl) (fun t ht hW => ⟨⟨1, S, rfl, ⟨by simp [cOn, c_1, c_3], rfl⟩, by rw [ht]; exact hP, va_K.moved hW.alike hK, hD⟩, hS.F ht⟩) hS.2.2 dX1_findsOn_28

set_option maxRecDepth 100000 in
set_option maxHeartbeats 4000000 in
/-- how far, as it is supposed -/
theorem c_findsFar (l : Launch) (D : va_G) (cA : Nat → ClassId) (sz : Nat) (S : Pool) (ak : Nat) (hak : isO S ak 1) (a : Nat) (ho : isO S a 3) (clk : Int32) : Met l yX1_findsFar (Cond.code yX1_findsFar cX1_findsFar 3 (some .int) :: TT) ({ frames := 1, cells := 0, slots := 0, locals := 23 }) (va_Pc [.ref ak, .ref a, .int clk] (kPre D cA (PW cA S) sz)) (va_Qi (fun (r_ : Int32) (x_ : Pool) => r_ = cFarA S ak a clk ∧ x_ = S) (fun x_ => kB D cA (va_A (PW cA S) sz) (PW cA x_)) (va_A (PW cA S) sz)) 0 0 (va_A (PW cA S) sz) := by
  refine Met.ofW (cc := cX1_findsFar) (maxL := 3) (ret := (some .int)) (by decide) rfl ?_
  intro p e s m args below meth c s₁ B hml hv
  obtain ⟨rfl, hsz, hP, hK, hD0, hTB⟩ := hv
  have hx := B.exec
  have hb := B.bytes
  have hr := B.returns
  have hts := atoms_spec (ws := Cond.code yX1_findsFar cX1_findsFar 3 (some .int) :: TT) B.pre
  have htT : ∀ w ∈ TT, w.before _ s = true := fun w h => hts w (List.mem_cons_of_mem _ h)
  have hown : s.vm.findClass RX1 = some m.cls := findClass_of_methodNamed B.named
  have hlocks := B.notSynchronized
  subst hsz
  have hD := hD0.self (sz := s.heap.size)
  generalize hAe : va_A (PW cA S) s.heap.size = A at hD ⊢
  have hA : ∀ q : Nat, s.heap.size ≤ q → A q := fun q h => by rw [← hAe]; exact Or.inr h
  have hS : va_S A s.heap s.heap [] := va_S.rf
  have hl := lv_entry ([.ref ak, .ref a, .int clk]) (n := 3) (Nat.le_of_ble_eq_true rfl)
  rw [lg_entry_eq]
  generalize (lg_sl ([.ref ak, .ref a, .int clk]) ++ List.replicate (3 - (lg_sl ([.ref ak, .ref a, .int clk])).length) Slot.unset).toArray = ls at hl ⊢
  have hl : lv_has ls 3 [(0, .ref ak), (1, .ref a), (2, .int clk)] := hl
  refine lv_aload_n hx hb dX1_findsFar_0 rfl (lv_at hl 1 rfl) ?_
  refine kx_getiN hx hb htT m_u_X3 hown hK hP ho (Nat.le_of_ble_eq_true rfl) rfl 0 (by decide) (by decide) rfl (hTB.use m_fl_X1_40) dX1_findsFar_1 ?_
  refine lv_aload_n hx hb dX1_findsFar_4 rfl (lv_at hl 0 rfl) ?_
  refine kx_geti hx hb htT m_u_X1 hown hK hP hak (Nat.le_of_ble_eq_true rfl) rfl 4 (by decide) (by decide) rfl (htT _ m_fl_X1_15) dX1_findsFar_5 ?_
  refine lv_icmp_ne (tgt := 18) hx hb dX1_findsFar_8 (by decide) (fun c_1 => ?_) (fun c_1 => ?_)
  · refine lv_aload_n hx hb dX1_findsFar_18 rfl (lv_at hl 1 rfl) ?_
    refine lv_iload_n hx hb dX1_findsFar_19 rfl (lv_at hl 2 rfl) ?_
    refine kc_i (va_runV (As := [.int clk]) (rest := []) ⟨hx, hb, hml, hown, htT⟩ (c_farAt l D cA _ S a ho clk) (cwV 1 htT (kg_V m_ml_X1_43 m_im_X3_farAt m_sl_X3_farAt m_in_X3 m_cd_X3_farAt) rfl rfl rfl (by decide +kernel) ⟨Nat.le_of_ble_eq_true rfl, Nat.le_of_ble_eq_true rfl⟩) (kp_V hK hP hD hTB (kp_rc hK hP ho (Nat.le_of_ble_eq_true rfl) rfl)) rfl rfl hl.1 rfl (lv_room (Nat.le_of_ble_eq_true rfl)) dX1_findsFar_20 ⟨Nat.le_of_ble_eq_true rfl, Nat.le_of_ble_eq_true rfl⟩) hD hS hA (fun r_2 x_2 H locs hq_2 hP hD hS => ?_)
    rw [hq_2.1]
    rw [hq_2.2] at hP hD
    exact W.iret (v := cFar S a clk) hx hb hr (fun t ht hW => ⟨⟨cFar S a clk, S, rfl, ⟨by simp [cFarA, c_1], rfl⟩, by rw [ht]; exact hP, va_K.moved hW.alike hK, hD⟩, hS.F ht⟩) hS.2.2 dX1_findsFar_23
  · refine lv_aload_n hx hb dX1_findsFar_11 rfl (lv_at hl 0 rfl) ?_
    refine kx_geti hx hb htT m_u_X1 hown hK hP hak (Nat.le_of_ble_eq_true rfl) rfl 5 (by decide) (by decide) rfl (htT _ m_fl_X1_31) dX1_findsFar_12 ?_
    refine lv_goto (tgt := 23) hx hb dX1_findsFar_15 (by decide) ?_
    exact W.iret (v := gI S ak 5) hx hb hr (fun t ht hW => ⟨⟨gI S ak 5, S, rfl, ⟨by simp [cFarA, c_1], rfl⟩, by rw [ht]; exact hP, va_K.moved hW.alike hK, hD⟩, hS.F ht⟩) hS.2.2 dX1_findsFar_23

set_option maxRecDepth 100000 in
set_option maxHeartbeats 4000000 in
/-- is a user in the range of the layer -/
theorem c_isInLayer (l : Launch) (D : va_G) (cA : Nat → ClassId) (sz : Nat) (S : Pool) (x : Nat) (hx5 : isO S x 5) (ak : Nat) (hq1 : gQ S x 1 = some ak) (hak : isO S ak 1) (a : Nat) (ho : isO S a 3) : Met l yX5_isInLayer (Cond.code yX5_isInLayer cX5_isInLayer 3 (some .boolean) :: TT) ({ frames := 1, cells := 0, slots := 0, locals := 23 }) (va_Pc [.ref x, .ref a] (kPre D cA (PW cA S) sz)) (va_Qi (fun (r_ : Int32) (x_ : Pool) => r_ = cLay S ak a ∧ x_ = S) (fun x_ => kB D cA (va_A (PW cA S) sz) (PW cA x_)) (va_A (PW cA S) sz)) 0 0 (va_A (PW cA S) sz) := by
  refine Met.ofW (cc := cX5_isInLayer) (maxL := 3) (ret := (some .boolean)) (by decide) rfl ?_
  intro p e s m args below meth c s₁ B hml hv
  obtain ⟨rfl, hsz, hP, hK, hD0, hTB⟩ := hv
  have hx := B.exec
  have hb := B.bytes
  have hr := B.returns
  have hts := atoms_spec (ws := Cond.code yX5_isInLayer cX5_isInLayer 3 (some .boolean) :: TT) B.pre
  have htT : ∀ w ∈ TT, w.before _ s = true := fun w h => hts w (List.mem_cons_of_mem _ h)
  have hown : s.vm.findClass RX5 = some m.cls := findClass_of_methodNamed B.named
  have hlocks := B.notSynchronized
  subst hsz
  have hD := hD0.self (sz := s.heap.size)
  generalize hAe : va_A (PW cA S) s.heap.size = A at hD ⊢
  have hA : ∀ q : Nat, s.heap.size ≤ q → A q := fun q h => by rw [← hAe]; exact Or.inr h
  have hS : va_S A s.heap s.heap [] := va_S.rf
  have hl := lv_entry ([.ref x, .ref a]) (n := 3) (Nat.le_of_ble_eq_true rfl)
  rw [lg_entry_eq]
  generalize (lg_sl ([.ref x, .ref a]) ++ List.replicate (3 - (lg_sl ([.ref x, .ref a])).length) Slot.unset).toArray = ls at hl ⊢
  have hl : lv_has ls 3 [(0, .ref x), (1, .ref a)] := hl
  refine lv_aload_n hx hb dX5_isInLayer_0 rfl (lv_at hl 1 rfl) ?_
  refine kx_getiN hx hb htT m_u_X3 hown hK hP ho (Nat.le_of_ble_eq_true rfl) rfl 13 (by decide) (by decide) rfl (hTB.use m_fl_X5_88) dX5_isInLayer_1 ?_
  refine lv_iconst (v := (-1)) hx hb dX5_isInLayer_4 (by decide) ?_
  refine lv_icmp_ne (tgt := 10) hx hb dX5_isInLayer_5 (by decide) (fun c_1 => ?_) (fun c_1 => ?_)
  · refine lv_sipush (v := 500) hx hb dX5_isInLayer_10 (by decide) ?_
    refine lv_aload_n hx hb dX5_isInLayer_13 rfl (lv_at hl 1 rfl) ?_
    refine kx_getiN hx hb htT m_u_X3 hown hK hP ho (Nat.le_of_ble_eq_true rfl) rfl 13 (by decide) (by decide) rfl (hTB.use m_fl_X5_88) dX5_isInLayer_14 ?_
    refine lv_iadd hx hb dX5_isInLayer_17 ?_
    refine lv_aload_n hx hb dX5_isInLayer_18 rfl (lv_at hl 0 rfl) ?_
    refine kx_gets hx hb htT m_u_X5 hown hK hP hx5 (Nat.le_of_ble_eq_true rfl) rfl 1 (by decide) (by decide) rfl hq1 (htT _ m_fl_X5_18) dX5_isInLayer_19 ?_
    refine kx_getiN hx hb htT m_u_X1 hown hK hP hak (Nat.le_of_ble_eq_true rfl) rfl 0 (by decide) (by decide) rfl (hTB.use m_fl_X5_320) dX5_isInLayer_22 ?_
    refine kc_i (va_runS (As := [.int (500 + (gI S a 13)), .int (gI S ak 0)]) (rest := []) ⟨hx, hb, hml, hown, htT⟩ (c_bucketOf l D cA _ S (500 + (gI S a 13)) (gI S ak 0)) (cwS 2 htT (kg_S m_ml_X5_141 m_st_X5_bucketOf m_in_X5 m_cd_X5_bucketOf) rfl rfl rfl (by decide +kernel) ⟨Nat.le_of_ble_eq_true rfl, Nat.le_of_ble_eq_true rfl⟩) (kp_S hK hP hD hTB) rfl rfl hl.1 rfl (lv_room (Nat.le_of_ble_eq_true rfl)) dX5_isInLayer_25 ⟨Nat.le_of_ble_eq_true rfl, Nat.le_of_ble_eq_true rfl⟩) hD hS hA (fun r_2 x_2 H locs hq_2 hP hD hS => ?_)
    rw [hq_2.1]
    rw [hq_2.2] at hP hD
    refine lv_istore_n (lv' := [(2, .int (kBkt (500 + (gI S a 13)) (gI S ak 0))), (0, .ref x), (1, .ref a)]) hx hb dX5_isInLayer_28 rfl hl (by decide) rfl (fun ls hl => ?_)
    refine lv_iload_n hx hb dX5_isInLayer_29 rfl (lv_at hl 0 rfl) ?_
    refine lv_aload_n hx hb dX5_isInLayer_30 rfl (lv_at hl 2 rfl) ?_
    refine kx_getiN hx hb htT m_u_X3 hown hK hP ho (Nat.le_of_ble_eq_true rfl) rfl 14 (by decide) (by decide) rfl (hTB.use m_fl_X5_91) dX5_isInLayer_31 ?_
    refine lv_icmp_lt (tgt := 49) hx hb dX5_isInLayer_34 (by decide) (fun c_3 => ?_) (fun c_3 => ?_)
    · refine lv_iconst (v := 0) hx hb dX5_isInLayer_49 (by decide) ?_
      exact W.zret (v := 0) hx hb hr (rfl) (fun t ht hW => ⟨⟨0, S, rfl, ⟨by simp [cLay, c_1, c_3], rfl⟩, by rw [ht]; exact hP, va_K.moved hW.alike hK, hD⟩, hS.F ht⟩) hS.2.2 dX5_isInLayer_50
    · refine lv_iload_n hx hb dX5_isInLayer_37 rfl (lv_at hl 0 rfl) ?_
      refine lv_aload_n hx hb dX5_isInLayer_38 rfl (lv_at hl 2 rfl) ?_
      refine kx_getiN hx hb htT m_u_X3 hown hK hP ho (Nat.le_of_ble_eq_true rfl) rfl 15 (by decide) (by decide) rfl (hTB.use m_fl_X5_94) dX5_isInLayer_39 ?_
      refine lv_icmp_ge (tgt := 49) hx hb dX5_isInLayer_42 (by decide) (fun c_4 => ?_) (fun c_4 => ?_)
      · replace c_4 := Int32.not_lt.mpr c_4
        refine lv_iconst (v := 0) hx hb dX5_isInLayer_49 (by decide) ?_
        exact W.zret (v := 0) hx hb hr (rfl) (fun t ht hW => ⟨⟨0, S, rfl, ⟨by simp [cLay, c_1, c_3, c_4], rfl⟩, by rw [ht]; exact hP, va_K.moved hW.alike hK, hD⟩, hS.F ht⟩) hS.2.2 dX5_isInLayer_50
      · replace c_4 := Int32.not_le.mp c_4
        refine lv_iconst (v := 1) hx hb dX5_isInLayer_45 (by decide) ?_
        refine lv_goto (tgt := 50) hx hb dX5_isInLayer_46 (by decide) ?_
        exact W.zret (v := 1) hx hb hr (rfl) (fun t ht hW => ⟨⟨1, S, rfl, ⟨by simp [cLay, c_1, c_3, c_4], rfl⟩, by rw [ht]; exact hP, va_K.moved hW.alike hK, hD⟩, hS.F ht⟩) hS.2.2 dX5_isInLayer_50
  · refine lv_iconst (v := 1) hx hb dX5_isInLayer_8 (by decide) ?_
    exact W.zret (v := 1) hx hb hr (rfl) (fun t ht hW => ⟨⟨1, S, rfl, ⟨by simp [cLay, c_1], rfl⟩, by rw [ht]; exact hP, va_K.moved hW.alike hK, hD⟩, hS.F ht⟩) hS.2.2 dX5_isInLayer_9

set_option maxRecDepth 100000 in
set_option maxHeartbeats 4000000 in
/-- the arm of a user -/
theorem c_armOf (l : Launch) (D : va_G) (cA : Nat → ClassId) (sz : Nat) (S : Pool) (a : Nat) (ho : isO S a 3) (cn : Nat) (hch : chn S cn (gQ S a 7)) (u : Int32) : Met l yX3_armOf (Cond.code yX3_armOf cX3_armOf 3 (some (.object "DaybreakFlags$Arm")) :: TT) ({ frames := 0, cells := 0, slots := 0, locals := 0 }) (va_Pc [.ref a, .int u] (kPre D cA (PW cA S) sz)) (va_Qq (fun (r_ : Option Nat) (x_ : Pool) => r_ = cArm S u cn (gQ S a 7) ∧ x_ = S) (fun x_ => kB D cA (va_A (PW cA S) sz) (PW cA x_)) (va_A (PW cA S) sz)) 0 0 (va_A (PW cA S) sz) := by
  refine Met.ofW (cc := cX3_armOf) (maxL := 3) (ret := (some (.object "DaybreakFlags$Arm"))) (by decide) rfl ?_
  intro p e s m args below meth c s₁ B hml hv
  obtain ⟨rfl, hsz, hP, hK, hD0, hTB⟩ := hv
  have hx := B.exec
  have hb := B.bytes
  have hr := B.returns
  have hts := atoms_spec (ws := Cond.code yX3_armOf cX3_armOf 3 (some (.object "DaybreakFlags$Arm")) :: TT) B.pre
  have htT : ∀ w ∈ TT, w.before _ s = true := fun w h => hts w (List.mem_cons_of_mem _ h)
  have hown : s.vm.findClass RX3 = some m.cls := findClass_of_methodNamed B.named
  have hlocks := B.notSynchronized
  subst hsz
  have hD := hD0.self (sz := s.heap.size)
  generalize hAe : va_A (PW cA S) s.heap.size = A at hD ⊢
  have hA : ∀ q : Nat, s.heap.size ≤ q → A q := fun q h => by rw [← hAe]; exact Or.inr h
  have hS : va_S A s.heap s.heap [] := va_S.rf
  have hl := lv_entry ([.ref a, .int u]) (n := 3) (Nat.le_of_ble_eq_true rfl)
  rw [lg_entry_eq]
  generalize (lg_sl ([.ref a, .int u]) ++ List.replicate (3 - (lg_sl ([.ref a, .int u])).length) Slot.unset).toArray = ls at hl ⊢
  have hl : lv_has ls 3 [(0, .ref a), (1, .int u)] := hl
  refine lv_aload_n hx hb dX3_armOf_0 rfl (lv_at hl 0 rfl) ?_
  refine kx_getr hx hb htT m_u_X3 hown hK hP ho (Nat.le_of_ble_eq_true rfl) rfl 7 (by decide) (by decide) rfl rfl (htT _ m_fl_X3_85) dX3_armOf_1 ?_
  rcases h7 : gQ S a 7 with _ | y_1
  · refine lv_astore_nN (lv' := [(2, .null), (0, .ref a), (1, .int u)]) hx hb dX3_armOf_4 rfl hl (by decide) rfl (fun ls hl => ?_)
    refine kz_loop 5 (fun n H locs ls => ∃ (d : Nat) (r : Option Nat), n = d ∧ chn S d r ∧ cArm S u cn (gQ S a 7) = cArm S u d r ∧ va_P D vwCl (PW cA S) H ∧ va_D A (PW cA S) ∧ va_S A s.heap H locs ∧ lv_has ls 3 [(2, va_rf r), (1, .int u), (0, .ref a)]) (fun n ih_5 H locs ls hI => ?_) ⟨cn, none, rfl, (h7 ▸ hch), (by rw [h7]), hP, hD, hS, lv_sub hl [0, 2, 1] rfl⟩
    obtain ⟨d, r, hn9, hd, hF, hP, hD, hS, hl⟩ := hI
    rcases r with _ | y_9
    · refine lv_aload_nN hx hb dX3_armOf_5 rfl (lv_at hl 0 rfl) ?_
      refine lv_ifnullN (tgt := 27) hx hb dX3_armOf_6 (by decide) ?_
      refine lv_null hx hb dX3_armOf_27 ?_
      exact W.aret (v := va_rf none) hx hb hr (Or.inl ⟨_, rfl⟩) (kz_rf _) (fun t ht hW => ⟨⟨none, S, rfl, ⟨by have h9 := hF; rw [h7] at h9; rw [h9, cArm_none], rfl⟩, by rw [ht]; exact hP, va_K.moved hW.alike hK, hD⟩, hS.F ht⟩) hS.2.2 dX3_armOf_28
    · obtain ⟨d2, rfl, hy1, hy2⟩ := chn_some hd
      refine lv_aload_n hx hb dX3_armOf_5 rfl (lv_at hl 0 rfl) ?_
      refine lv_ifnull hx hb dX3_armOf_6 ?_
      refine lv_aload_n hx hb dX3_armOf_9 rfl (lv_at hl 0 rfl) ?_
      refine kx_getiN hx hb htT m_u_X0 hown hK hP hy1 (Nat.le_of_ble_eq_true rfl) rfl 0 (by decide) (by decide) rfl (hTB.use m_fl_X3_89) dX3_armOf_10 ?_
      refine lv_iload_n hx hb dX3_armOf_13 rfl (lv_at hl 1 rfl) ?_
      refine lv_icmp_ne (tgt := 19) hx hb dX3_armOf_14 (by decide) (fun c_1 => ?_) (fun c_1 => ?_)
      · refine lv_aload_n hx hb dX3_armOf_19 rfl (lv_at hl 0 rfl) ?_
        refine kx_getrN hx hb htT m_u_X0 hown hK hP hy1 (Nat.le_of_ble_eq_true rfl) rfl 2 (by decide) (by decide) rfl rfl (hTB.use m_fl_X3_94) dX3_armOf_20 ?_
        rcases h8 : gQ S y_9 2 with _ | y_2
        · refine lv_astore_nN (lv' := [(2, .null), (1, .int u), (0, .ref a)]) hx hb dX3_armOf_23 rfl hl (by decide) rfl (fun ls hl => ?_)
          refine lv_goto (tgt := 5) hx hb dX3_armOf_24 (by decide) ?_
          have hl := lv_sub hl [0, 1, 2] rfl
          exact ih_5 _ (by omega) H locs ls ⟨d2, none, rfl, (h8 ▸ hy2), by rw [hF, ← h8]; simp [cArm, c_1], hP, hD, hS, hl⟩
        · refine lv_astore_n (lv' := [(2, .ref y_2), (1, .int u), (0, .ref a)]) hx hb dX3_armOf_23 rfl hl (by decide) rfl (fun ls hl => ?_)
          refine lv_goto (tgt := 5) hx hb dX3_armOf_24 (by decide) ?_
          have hl := lv_sub hl [0, 1, 2] rfl
          exact ih_5 _ (by omega) H locs ls ⟨d2, (some y_2), rfl, (h8 ▸ hy2), by rw [hF, ← h8]; simp [cArm, c_1], hP, hD, hS, hl⟩
      · refine lv_aload_n hx hb dX3_armOf_17 rfl (lv_at hl 0 rfl) ?_
        exact W.aret (v := va_rf (some y_9)) hx hb hr (Or.inl ⟨_, rfl⟩) (kz_rf _) (fun t ht hW => ⟨⟨(some y_9), S, rfl, ⟨by have h9 := hF; rw [h7] at h9; rw [h9]; simp [cArm, c_1], rfl⟩, by rw [ht]; exact hP, va_K.moved hW.alike hK, hD⟩, hS.F ht⟩) hS.2.2 dX3_armOf_18
  · refine lv_astore_n (lv' := [(2, .ref y_1), (0, .ref a), (1, .int u)]) hx hb dX3_armOf_4 rfl hl (by decide) rfl (fun ls hl => ?_)
    refine kz_loop 5 (fun n H locs ls => ∃ (d : Nat) (r : Option Nat), n = d ∧ chn S d r ∧ cArm S u cn (gQ S a 7) = cArm S u d r ∧ va_P D vwCl (PW cA S) H ∧ va_D A (PW cA S) ∧ va_S A s.heap H locs ∧ lv_has ls 3 [(2, va_rf r), (1, .int u), (0, .ref a)]) (fun n ih_5 H locs ls hI => ?_) ⟨cn, (some y_1), rfl, (h7 ▸ hch), (by rw [h7]), hP, hD, hS, lv_sub hl [0, 2, 1] rfl⟩
    obtain ⟨d, r, hn9, hd, hF, hP, hD, hS, hl⟩ := hI
    rcases r with _ | y_9
    · refine lv_aload_nN hx hb dX3_armOf_5 rfl (lv_at hl 0 rfl) ?_
      refine lv_ifnullN (tgt := 27) hx hb dX3_armOf_6 (by decide) ?_
      refine lv_null hx hb dX3_armOf_27 ?_
      exact W.aret (v := va_rf none) hx hb hr (Or.inl ⟨_, rfl⟩) (kz_rf _) (fun t ht hW => ⟨⟨none, S, rfl, ⟨by have h9 := hF; rw [h7] at h9; rw [h9, cArm_none], rfl⟩, by rw [ht]; exact hP, va_K.moved hW.alike hK, hD⟩, hS.F ht⟩) hS.2.2 dX3_armOf_28
    · obtain ⟨d2, rfl, hy1, hy2⟩ := chn_some hd
      refine lv_aload_n hx hb dX3_armOf_5 rfl (lv_at hl 0 rfl) ?_
      refine lv_ifnull hx hb dX3_armOf_6 ?_
      refine lv_aload_n hx hb dX3_armOf_9 rfl (lv_at hl 0 rfl) ?_
      refine kx_getiN hx hb htT m_u_X0 hown hK hP hy1 (Nat.le_of_ble_eq_true rfl) rfl 0 (by decide) (by decide) rfl (hTB.use m_fl_X3_89) dX3_armOf_10 ?_
      refine lv_iload_n hx hb dX3_armOf_13 rfl (lv_at hl 1 rfl) ?_
      refine lv_icmp_ne (tgt := 19) hx hb dX3_armOf_14 (by decide) (fun c_2 => ?_) (fun c_2 => ?_)
      · refine lv_aload_n hx hb dX3_armOf_19 rfl (lv_at hl 0 rfl) ?_
        refine kx_getrN hx hb htT m_u_X0 hown hK hP hy1 (Nat.le_of_ble_eq_true rfl) rfl 2 (by decide) (by decide) rfl rfl (hTB.use m_fl_X3_94) dX3_armOf_20 ?_
        rcases h8 : gQ S y_9 2 with _ | y_2
        · refine lv_astore_nN (lv' := [(2, .null), (1, .int u), (0, .ref a)]) hx hb dX3_armOf_23 rfl hl (by decide) rfl (fun ls hl => ?_)
          refine lv_goto (tgt := 5) hx hb dX3_armOf_24 (by decide) ?_
          have hl := lv_sub hl [0, 1, 2] rfl
          exact ih_5 _ (by omega) H locs ls ⟨d2, none, rfl, (h8 ▸ hy2), by rw [hF, ← h8]; simp [cArm, c_2], hP, hD, hS, hl⟩
        · refine lv_astore_n (lv' := [(2, .ref y_2), (1, .int u), (0, .ref a)]) hx hb dX3_armOf_23 rfl hl (by decide) rfl (fun ls hl => ?_)
          refine lv_goto (tgt := 5) hx hb dX3_armOf_24 (by decide) ?_
          have hl := lv_sub hl [0, 1, 2] rfl
          exact ih_5 _ (by omega) H locs ls ⟨d2, (some y_2), rfl, (h8 ▸ hy2), by rw [hF, ← h8]; simp [cArm, c_2], hP, hD, hS, hl⟩
      · refine lv_aload_n hx hb dX3_armOf_17 rfl (lv_at hl 0 rfl) ?_
        exact W.aret (v := va_rf (some y_9)) hx hb hr (Or.inl ⟨_, rfl⟩) (kz_rf _) (fun t ht hW => ⟨⟨(some y_9), S, rfl, ⟨by have h9 := hF; rw [h7] at h9; rw [h9]; simp [cArm, c_2], rfl⟩, by rw [ht]; exact hP, va_K.moved hW.alike hK, hD⟩, hS.F ht⟩) hS.2.2 dX3_armOf_18

