/-- getsOf of the switches up to d -/
def PO (l : Launch) (D : va_G) (cA : Nat → ClassId) (am : Nat) (r : Nat → Nat) (n na : Nat) (ru : Nat → Nat) (d : Nat) : Prop := ∀ (sz i : Nat) (M : MSt) (uu : Nat) (f g : Int32), i < n → i ≤ d → uu ≤ 9999 → okG M n na ru → Met l yX6_getsOf (Cond.code yX6_getsOf cX6_getsOf 5 (some .int) :: TT) ({ frames := 2 * d + 3, cells := 0, slots := 0, locals := 120 * d + 100 }) (va_Pc [.ref am, .int (nI i), .int (nI uu), .int f, .int g] (kPre D cA (wM cA am r M) sz)) (va_Qi (fun (r_ : Int32) (x_ : MSt) => r_ = (rG M.2 (M.1 2) (M.2 11) (fun k => rFar M.2 k (M.1 1)) (nI uu) f g na ru (d + 1) i).1 ∧ x_ = mS M 28 (rG M.2 (M.1 2) (M.2 11) (fun k => rFar M.2 k (M.1 1)) (nI uu) f g na ru (d + 1) i).2) (fun x_ => kB D cA (va_A (wM cA am r M) sz) (wM cA am r x_)) (va_A (wM cA am r M) sz)) 0 0 (va_A (wM cA am r M) sz)
set_option maxRecDepth 100000 in
set_option maxHeartbeats 4000000 in
/-- getsNow, out of getsOf of smaller numbers -/
theorem m_getsNow_s (l : Launch) (D : va_G) (cA : Nat → ClassId) (sz : Nat) (am : Nat) (r : Nat → Nat) (n na : Nat) (ru : Nat → Nat) (d : Nat) (hO : ∀ d', d = d' + 1 → PO l D cA am r n na ru d') (i : Nat) (M : MSt) (uu : Nat) (f g far : Int32) (hi : i < n) (hid : i ≤ d) (huu : uu ≤ 9999) (hok : okG M n na ru) : Met l yX6_getsNow (Cond.code yX6_getsNow cX6_getsNow 9 (some .int) :: TT) ({ frames := 2 * d + 2, cells := 0, slots := 0, locals := 120 * d + 60 }) (va_Pc [.ref am, .int (nI i), .int (nI uu), .int f, .int g, .int far] (kPre D cA (wM cA am r M) sz)) (va_Qi (fun (r_ : Int32) (x_ : MSt) => r_ = (rGx M.2 (M.1 2) (M.2 11) (nI uu) f g na (ru i) (fun j => (rG M.2 (M.1 2) (M.2 11) (fun k => rFar M.2 k (M.1 1)) (nI uu) f g na ru d j).1) i far).1 ∧ x_ = mS M 28 (rGx M.2 (M.1 2) (M.2 11) (nI uu) f g na (ru i) (fun j => (rG M.2 (M.1 2) (M.2 11) (fun k => rFar M.2 k (M.1 1)) (nI uu) f g na ru d j).1) i far).2) (fun x_ => kB D cA (va_A (wM cA am r M) sz) (wM cA am r x_)) (va_A (wM cA am r M) sz)) 0 0 (va_A (wM cA am r M) sz) := by
  refine Met.ofW (cc := cX6_getsNow) (maxL := 9) (ret := (some .int)) (by decide) rfl ?_
  intro p e s m args below meth c s₁ B hml hv
  obtain ⟨rfl, hsz, hP, hK, hD0, hTB⟩ := hv
  have hx := B.exec
  have hb := B.bytes
  have hr := B.returns
  have hts := atoms_spec (ws := Cond.code yX6_getsNow cX6_getsNow 9 (some .int) :: TT) B.pre
  have htT : ∀ w ∈ TT, w.before _ s = true := fun w h => hts w (List.mem_cons_of_mem _ h)
  have hown : s.vm.findClass RX6 = some m.cls := findClass_of_methodNamed B.named
  have hlocks := B.notSynchronized
  subst hsz
  have hD := hD0.self (sz := s.heap.size)
  generalize hAe : va_A (wM cA am r M) s.heap.size = A at hD ⊢
  have hA : ∀ q : Nat, s.heap.size ≤ q → A q := fun q h => by rw [← hAe]; exact Or.inr h
  have hS : va_S A s.heap s.heap [] := va_S.rf
  have hl := lv_entry ([.ref am, .int (nI i), .int (nI uu), .int f, .int g, .int far]) (n := 9) (Nat.le_of_ble_eq_true rfl)
  rw [lg_entry_eq]
  generalize (lg_sl ([.ref am, .int (nI i), .int (nI uu), .int f, .int g, .int far]) ++ List.replicate (9 - (lg_sl ([.ref am, .int (nI i), .int (nI uu), .int f, .int g, .int far])).length) Slot.unset).toArray = ls at hl ⊢
  have hl : lv_has ls 9 [(0, .ref am), (1, .int (nI i)), (2, .int (nI uu)), (3, .int f), (4, .int g), (5, .int far)] := hl
  obtain ⟨hna, h22, hn8, h3, hsw⟩ := id hok
  have hru5 := (hsw i hi).1
  refine kz_cut 47 (fun H locs ls st => ∃ (ρ z : Int32), st = [.int z] ∧ (z = 0 ∧ (¬ M.2 11 i = 0 → ¬ (¬ M.2 15 i = -1 ∧ ¬ (rG M.2 (M.1 2) (M.2 11) (fun k => rFar M.2 k (M.1 1)) (nI uu) f g na ru d (M.2 15 i).toNatClampNeg).1 = M.2 16 i)) ∨ z = 1 ∧ ¬ M.2 11 i = 0 ∧ (¬ M.2 15 i = -1 ∧ ¬ (rG M.2 (M.1 2) (M.2 11) (fun k => rFar M.2 k (M.1 1)) (nI uu) f g na ru d (M.2 15 i).toNatClampNeg).1 = M.2 16 i)) ∧ va_P D vwCl (wM cA am r (mS M 28 ρ)) H ∧ va_D A (wM cA am r (mS M 28 ρ)) ∧ va_S A s.heap H locs ∧ lv_has ls 9 [(5, .int far), (4, .int g), (3, .int f), (2, .int (nI uu)), (1, .int (nI i)), (0, .ref am)]) (fun hcut => ?_) (fun H locs ls st hI => ?_)
  · refine lv_aload_n hx hb dX6_getsNow_0 rfl (lv_at hl 0 rfl) ?_
    refine km_getr hx hb htT hown hK hP 11 (by decide) rfl (htT _ m_fl_X6_32) dX6_getsNow_1 ?_
    refine lv_iload_n hx hb dX6_getsNow_4 rfl (lv_at hl 1 rfl) ?_
    refine km_zaldv (x := (M.2 11) i) hx hb hK hP 11 rfl rfl (show vp_in (nI (i)) 8 from ki_in (by omega) (by decide)) (congrArg _ (ki_cl (by omega))) dX6_getsNow_5 ?_
    refine lv_if_eq (tgt := 46) hx hb dX6_getsNow_6 (by decide) (fun c_1 => ?_) (fun c_1 => ?_)
    · refine lv_iconst (v := 0) hx hb dX6_getsNow_46 (by decide) ?_
      rw [← mS_id (M := M) (k := 28)] at hP hD
      exact hcut _ _ _ _ ⟨(M.1 28), 0, rfl, Or.inl ⟨rfl, fun h9 => absurd c_1 h9⟩, hP, hD, hS, lv_sub hl [5, 4, 3, 2, 1, 0] rfl⟩
    · refine lv_aload_n hx hb dX6_getsNow_9 rfl (lv_at hl 0 rfl) ?_
      refine km_getr hx hb htT hown hK hP 15 (by decide) rfl (htT _ m_fl_X6_44) dX6_getsNow_10 ?_
      refine lv_iload_n hx hb dX6_getsNow_13 rfl (lv_at hl 1 rfl) ?_
      refine km_ialdv (x := (M.2 15) i) hx hb hK hP 15 rfl rfl (show vp_in (nI (i)) 8 from ki_in (by omega) (by decide)) (congrArg _ (ki_cl (by omega))) dX6_getsNow_14 ?_
      refine lv_iconst (v := (-1)) hx hb dX6_getsNow_15 (by decide) ?_
      refine lv_icmp_eq (tgt := 46) hx hb dX6_getsNow_16 (by decide) (fun c_2 => ?_) (fun c_2 => ?_)
      · refine lv_iconst (v := 0) hx hb dX6_getsNow_46 (by decide) ?_
        rw [← mS_id (M := M) (k := 28)] at hP hD
        exact hcut _ _ _ _ ⟨(M.1 28), 0, rfl, Or.inl ⟨rfl, fun _ h9 => h9.1 c_2⟩, hP, hD, hS, lv_sub hl [5, 4, 3, 2, 1, 0] rfl⟩
      · obtain ⟨j, hj, e15⟩ : ∃ j, j < i ∧ M.2 15 i = nI j := by
          rcases (hsw i hi).2.2.1 with h9 | h9
          · exact absurd h9 c_2
          · exact h9
        obtain ⟨d', ed⟩ : ∃ d', d = d' + 1 := ⟨d - 1, by omega⟩
        refine lv_aload_n hx hb dX6_getsNow_19 rfl (lv_at hl 0 rfl) ?_
        refine lv_aload_n hx hb dX6_getsNow_20 rfl (lv_at hl 0 rfl) ?_
        refine km_getr hx hb htT hown hK hP 15 (by decide) rfl (htT _ m_fl_X6_44) dX6_getsNow_21 ?_
        refine lv_iload_n hx hb dX6_getsNow_24 rfl (lv_at hl 1 rfl) ?_
        refine km_ialdv (x := nI j) hx hb hK hP 15 rfl rfl (show vp_in (nI (i)) 8 from ki_in (by omega) (by decide)) ((congrArg _ (ki_cl (by omega))).trans e15) dX6_getsNow_25 ?_
        refine lv_iload_n hx hb dX6_getsNow_26 rfl (lv_at hl 2 rfl) ?_
        refine lv_iload_n hx hb dX6_getsNow_27 rfl (lv_at hl 3 rfl) ?_
        refine lv_iload hx hb dX6_getsNow_28 (lv_at hl 4 rfl) ?_
        refine kc_i (va_runV (As := [.int (nI j), .int (nI uu), .int f, .int g]) (rest := []) ⟨hx, hb, hml, hown, htT⟩ (hO d' ed _ j M uu f g (by omega) (by omega) huu hok) (cwV 4 htT (kg_V m_ml_X6_154 m_im_X6_getsOf m_sl_X6_getsOf m_in_X6 m_cd_X6_getsOf) rfl rfl rfl (by decide +kernel) ⟨(show 2 * d' + 3 + 1 ≤ 2 * d + 2 by omega), (show 8 + (5 + 11) + (120 * d' + 100) ≤ 120 * d + 60 by omega)⟩) (kp_V hK hP hD hTB (km_rc hK hP)) rfl rfl hl.1 rfl (lv_room (Nat.le_of_ble_eq_true rfl)) dX6_getsNow_30 ⟨Nat.le_of_ble_eq_true rfl, Nat.le_of_ble_eq_true rfl⟩) hD hS hA (fun r_3 x_3 H locs hq_3 hP hD hS => ?_)
        rw [hq_3.1]
        rw [hq_3.2] at hP hD
        refine lv_aload_n hx hb dX6_getsNow_33 rfl (lv_at hl 0 rfl) ?_
        refine km_getr hx hb htT hown hK hP 16 (by decide) rfl (htT _ m_fl_X6_47) dX6_getsNow_34 ?_
        refine lv_iload_n hx hb dX6_getsNow_37 rfl (lv_at hl 1 rfl) ?_
        refine km_ialdv (x := (M.2 16) i) hx hb hK hP 16 rfl rfl (show vp_in (nI (i)) 8 from ki_in (by omega) (by decide)) (congrArg _ (ki_cl (by omega))) dX6_getsNow_38 ?_
        refine lv_icmp_eq (tgt := 46) hx hb dX6_getsNow_39 (by decide) (fun c_4 => ?_) (fun c_4 => ?_)
        · refine lv_iconst (v := 0) hx hb dX6_getsNow_46 (by decide) ?_
          exact hcut _ _ _ _ ⟨_, 0, rfl, Or.inl ⟨rfl, fun _ h9 => h9.2 (by rw [e15, ki_cl (by omega), ed]; exact c_4)⟩, hP, hD, hS, lv_sub hl [5, 4, 3, 2, 1, 0] rfl⟩
        · refine lv_iconst (v := 1) hx hb dX6_getsNow_42 (by decide) ?_
          refine lv_goto (tgt := 47) hx hb dX6_getsNow_43 (by decide) ?_
          exact hcut _ _ _ _ ⟨_, 1, rfl, Or.inr ⟨rfl, c_1, c_2, by rw [e15, ki_cl (by omega), ed]; exact c_4⟩, hP, hD, hS, lv_sub hl [5, 4, 3, 2, 1, 0] rfl⟩
  · obtain ⟨ρ, z, rfl, hz, hP, hD, hS, hl⟩ := hI
    rcases hz with ⟨rfl, hlate⟩ | ⟨rfl, hon, hlate⟩
    · refine lv_istore (lv' := [(6, .int 0), (5, .int far), (4, .int g), (3, .int f), (2, .int (nI uu)), (1, .int (nI i)), (0, .ref am)]) hx hb dX6_getsNow_47 hl (by decide) rfl (fun ls hl => ?_)
      refine lv_aload_n hx hb dX6_getsNow_49 rfl (lv_at hl 6 rfl) ?_
      refine lv_iload_n hx hb dX6_getsNow_50 rfl (lv_at hl 5 rfl) ?_
      refine lv_iload_n hx hb dX6_getsNow_51 rfl (lv_at hl 4 rfl) ?_
      refine kc_i (va_runV (As := [.int (nI i), .int (nI uu)]) (rest := []) ⟨hx, hb, hml, hown, htT⟩ (m_armAt l D cA _ am r (mS M 28 ρ) na hna h22 (nI i) (nI uu)) (cwV 2 htT (kg_V m_ml_X6_158 m_im_X6_armAt m_sl_X6_armAt m_in_X6 m_cd_X6_armAt) rfl rfl rfl (by decide +kernel) ⟨(show 0 + 1 ≤ 2 * d + 2 by omega), (show 8 + (4 + 11) + (0) ≤ 120 * d + 60 by omega)⟩) (kp_V hK hP hD hTB (km_rc hK hP)) rfl rfl hl.1 rfl (lv_room (Nat.le_of_ble_eq_true rfl)) dX6_getsNow_52 ⟨Nat.le_of_ble_eq_true rfl, Nat.le_of_ble_eq_true rfl⟩) hD hS hA (fun r_5 x_5 H locs hq_5 hP hD hS => ?_)
      rw [hq_5.2] at hP hD
      rcases rArm_of M.2 (nI i) (nI uu) na 0 with era | ⟨ka, hka0, hka, era, -, -⟩
      · rw [hq_5.1.trans era]
        refine lv_istore (lv' := [(7, .int (-1)), (6, .int 0), (5, .int far), (4, .int g), (3, .int f), (2, .int (nI uu)), (1, .int (nI i)), (0, .ref am)]) hx hb dX6_getsNow_55 hl (by decide) rfl (fun ls hl => ?_)
        refine lv_aload_n hx hb dX6_getsNow_57 rfl (lv_at hl 7 rfl) ?_
        refine lv_iload_n hx hb dX6_getsNow_58 rfl (lv_at hl 6 rfl) ?_
        refine lv_iload_n hx hb dX6_getsNow_59 rfl (lv_at hl 4 rfl) ?_
        refine lv_iload hx hb dX6_getsNow_60 (lv_at hl 3 rfl) ?_
        refine kc_i (va_runV (As := [.int (nI i), .int f, .int g]) (rest := []) ⟨hx, hb, hml, hown, htT⟩ (m_holdsNow l D cA _ am r (mS M 28 ρ) i (by omega) (ru i) (hsw i hi).1 (hsw i hi).2.1 f g) (cwV 3 htT (kg_V m_ml_X6_161 m_im_X6_holdsNow m_sl_X6_holdsNow m_in_X6 m_cd_X6_holdsNow) rfl rfl rfl (by decide +kernel) ⟨(show 0 + 1 ≤ 2 * d + 2 by omega), (show 8 + (6 + 11) + (0) ≤ 120 * d + 60 by omega)⟩) (kp_V hK hP hD hTB (km_rc hK hP)) rfl rfl hl.1 rfl (lv_room (Nat.le_of_ble_eq_true rfl)) dX6_getsNow_62 ⟨Nat.le_of_ble_eq_true rfl, Nat.le_of_ble_eq_true rfl⟩) hD hS hA (fun r_6 x_6 H locs hq_6 hP hD hS => ?_)
        rw [hq_6.2] at hP hD
        rcases rHold_of M.2 i f g (ru i) 0 with erh | ⟨kh, hkh0, hkh, erh, -⟩
        · rw [hq_6.1.trans erh]
          refine lv_istore (lv' := [(8, .int (-1)), (7, .int (-1)), (6, .int 0), (5, .int far), (4, .int g), (3, .int f), (2, .int (nI uu)), (1, .int (nI i)), (0, .ref am)]) hx hb dX6_getsNow_65 hl (by decide) rfl (fun ls hl => ?_)
          refine lv_aload_n hx hb dX6_getsNow_67 rfl (lv_at hl 8 rfl) ?_
          refine lv_bipush (v := 8) hx hb dX6_getsNow_68 (by decide) ?_
          refine km_puti hx hb htT hown hK hP hD hS 28 (by decide) rfl (htT _ m_fl_X6_165) rfl (by decide +kernel) dX6_getsNow_70 (fun H locs hP hD hS => ?_)
          refine lv_aload_n hx hb dX6_getsNow_73 rfl (lv_at hl 8 rfl) ?_
          refine km_getr hx hb htT hown hK hP 11 (by decide) rfl (htT _ m_fl_X6_32) dX6_getsNow_74 ?_
          refine lv_iload_n hx hb dX6_getsNow_77 rfl (lv_at hl 7 rfl) ?_
          refine km_zaldv (x := (M.2 11) i) hx hb hK hP 11 rfl rfl (show vp_in (nI (i)) 8 from ki_in (by omega) (by decide)) (congrArg _ (ki_cl (by omega))) dX6_getsNow_78 ?_
          refine lv_if_ne (tgt := 90) hx hb dX6_getsNow_79 (by decide) (fun c_7 => ?_) (fun c_7 => ?_)
          · refine lv_iload hx hb dX6_getsNow_90 (lv_at hl 2 rfl) ?_
            refine lv_if_eq (tgt := 103) hx hb dX6_getsNow_92 (by decide) (fun _ => ?_) (fun c_8 => absurd c_8 (by decide))
            refine lv_aload_n hx hb dX6_getsNow_103 rfl (lv_at hl 8 rfl) ?_
            refine km_getr hx hb htT hown hK hP 10 (by decide) rfl (htT _ m_fl_X6_28) dX6_getsNow_104 ?_
            refine lv_iload_n hx hb dX6_getsNow_107 rfl (lv_at hl 7 rfl) ?_
            refine km_zaldv (x := (M.2 10) i) hx hb hK hP 10 rfl rfl (show vp_in (nI (i)) 8 from ki_in (by omega) (by decide)) (congrArg _ (ki_cl (by omega))) dX6_getsNow_108 ?_
            refine lv_if_eq (tgt := 131) hx hb dX6_getsNow_109 (by decide) (fun c_9 => ?_) (fun c_9 => ?_)
            · refine lv_iload hx hb dX6_getsNow_131 (lv_at hl 0 rfl) ?_
              refine lv_iconst (v := (-1)) hx hb dX6_getsNow_133 (by decide) ?_
              refine lv_icmp_eq (tgt := 169) hx hb dX6_getsNow_134 (by decide) (fun _ => ?_) (fun c_10 => absurd c_10 (by decide))
              refine lv_sipush (v := 999) hx hb dX6_getsNow_169 (by decide) ?_
              refine lv_iload_n hx hb dX6_getsNow_172 rfl (lv_at hl 6 rfl) ?_
              refine kc_i (va_runS (As := [.int 999, .int (nI uu)]) (rest := []) ⟨hx, hb, hml, hown, htT⟩ (m_bucketOf l D cA _ am r (mS (mS M 28 ρ) 28 8) 999 (nI uu)) (cwS 2 htT (kg_S m_ml_X6_148 m_st_X6_bucketOf m_in_X6 m_cd_X6_bucketOf) rfl rfl rfl (by decide +kernel) ⟨(show 0 + 1 ≤ 2 * d + 2 by omega), (show 8 + (3 + 11) + (0) ≤ 120 * d + 60 by omega)⟩) (kp_S hK hP hD hTB) rfl rfl hl.1 rfl (lv_room (Nat.le_of_ble_eq_true rfl)) dX6_getsNow_173 ⟨Nat.le_of_ble_eq_true rfl, Nat.le_of_ble_eq_true rfl⟩) hD hS hA (fun r_11 x_11 H locs hq_11 hP hD hS => ?_)
              rw [hq_11.1]
              rw [hq_11.2] at hP hD
              refine lv_aload_n hx hb dX6_getsNow_176 rfl (lv_at hl 8 rfl) ?_
              refine km_getiv (x := M.1 2) hx hb htT hown hK hP 2 (by decide) rfl (htT _ m_fl_X6_136) rfl dX6_getsNow_177 ?_
              refine lv_icmp_ge (tgt := 191) hx hb dX6_getsNow_180 (by decide) (fun c_12 => ?_) (fun c_12 => ?_)
              · replace c_12 := Int32.not_lt.mpr c_12
                refine lv_aload_n hx hb dX6_getsNow_191 rfl (lv_at hl 8 rfl) ?_
                refine km_getr hx hb htT hown hK hP 12 (by decide) rfl (htT _ m_fl_X6_35) dX6_getsNow_192 ?_
                refine lv_iload_n hx hb dX6_getsNow_195 rfl (lv_at hl 7 rfl) ?_
                refine km_ialdv (x := (M.2 12) i) hx hb hK hP 12 rfl rfl (show vp_in (nI (i)) 8 from ki_in (by omega) (by decide)) (congrArg _ (ki_cl (by omega))) dX6_getsNow_196 ?_
                refine lv_iconst (v := (-1)) hx hb dX6_getsNow_197 (by decide) ?_
                refine lv_icmp_eq (tgt := 243) hx hb dX6_getsNow_198 (by decide) (fun c_13 => ?_) (fun c_13 => ?_)
                · refine lv_aload_n hx hb dX6_getsNow_243 rfl (lv_at hl 8 rfl) ?_
                  refine km_getr hx hb htT hown hK hP 4 (by decide) rfl (htT _ m_fl_X6_9) dX6_getsNow_244 ?_
                  refine lv_iload_n hx hb dX6_getsNow_247 rfl (lv_at hl 7 rfl) ?_
                  refine km_ialdv (x := (M.2 4) i) hx hb hK hP 4 rfl rfl (show vp_in (nI (i)) 8 from ki_in (by omega) (by decide)) (congrArg _ (ki_cl (by omega))) dX6_getsNow_248 ?_
                  refine lv_iconst (v := 1) hx hb dX6_getsNow_249 (by decide) ?_
                  refine lv_iadd hx hb dX6_getsNow_250 ?_
                  refine lv_iload_n hx hb dX6_getsNow_251 rfl (lv_at hl 6 rfl) ?_
                  refine kc_i (va_runS (As := [.int (((M.2 4) i) + 1), .int (nI uu)]) (rest := []) ⟨hx, hb, hml, hown, htT⟩ (m_bucketOf l D cA _ am r (mS (mS M 28 ρ) 28 8) (((M.2 4) i) + 1) (nI uu)) (cwS 2 htT (kg_S m_ml_X6_148 m_st_X6_bucketOf m_in_X6 m_cd_X6_bucketOf) rfl rfl rfl (by decide +kernel) ⟨(show 0 + 1 ≤ 2 * d + 2 by omega), (show 8 + (3 + 11) + (0) ≤ 120 * d + 60 by omega)⟩) (kp_S hK hP hD hTB) rfl rfl hl.1 rfl (lv_room (Nat.le_of_ble_eq_true rfl)) dX6_getsNow_252 ⟨Nat.le_of_ble_eq_true rfl, Nat.le_of_ble_eq_true rfl⟩) hD hS hA (fun r_14 x_14 H locs hq_14 hP hD hS => ?_)
                  rw [hq_14.1]
                  rw [hq_14.2] at hP hD
                  refine lv_iload hx hb dX6_getsNow_255 (lv_at hl 3 rfl) ?_
                  refine lv_icmp_lt (tgt := 269) hx hb dX6_getsNow_257 (by decide) (fun c_15 => ?_) (fun c_15 => ?_)
                  · refine lv_aload_n hx hb dX6_getsNow_269 rfl (lv_at hl 8 rfl) ?_
                    refine km_getr hx hb htT hown hK hP 17 (by decide) rfl (htT _ m_fl_X6_50) dX6_getsNow_270 ?_
                    refine lv_iload_n hx hb dX6_getsNow_273 rfl (lv_at hl 7 rfl) ?_
                    refine km_ialdv (x := nI (ru i)) hx hb hK hP 17 rfl rfl (show vp_in (nI (i)) 8 from ki_in (by omega) (by decide)) ((congrArg _ (ki_cl (by omega))).trans (hsw i hi).2.1) dX6_getsNow_274 ?_
                    refine lv_if_le (tgt := 290) hx hb dX6_getsNow_275 (by decide) (fun c_16 => ?_) (fun c_16 => ?_)
                    · replace c_16 := (nI_leI (a := ru i) (b := 0) (by omega) (by omega)).mp c_16
                      refine lv_aload_n hx hb dX6_getsNow_290 rfl (lv_at hl 8 rfl) ?_
                      refine km_getiv (x := 8) hx hb htT hown hK hP 28 (by decide) rfl (htT _ m_fl_X6_165) rfl dX6_getsNow_291 ?_
                      refine lv_bipush (v := 8) hx hb dX6_getsNow_294 (by decide) ?_
                      refine lv_icmp_ne (tgt := 308) hx hb dX6_getsNow_296 (by decide) (fun c_17 => absurd c_17 (by decide)) (fun _ => ?_)
                      refine lv_aload_n hx hb dX6_getsNow_299 rfl (lv_at hl 8 rfl) ?_
                      refine lv_iload_n hx hb dX6_getsNow_300 rfl (lv_at hl 7 rfl) ?_
                      refine lv_iload_n hx hb dX6_getsNow_301 rfl (lv_at hl 6 rfl) ?_
                      obtain ⟨sa, hsa, h4⟩ := (hsw i hi).2.2.2.1
                      refine kc_i (va_runV (As := [.int (nI i), .int (nI uu)]) (rest := []) ⟨hx, hb, hml, hown, htT⟩ (m_split l D cA _ am r (mS (mS M 28 ρ) 28 8) i (by omega) sa uu hsa huu h4 (hsw i hi).2.2.2.2) (cwV 2 htT (kg_V m_ml_X6_168 m_im_X6_split m_sl_X6_split m_in_X6 m_cd_X6_split) rfl rfl rfl (by decide +kernel) ⟨(show 1 + 1 ≤ 2 * d + 2 by omega), (show 8 + (6 + 11) + (22) ≤ 120 * d + 60 by omega)⟩) (kp_V hK hP hD hTB (km_rc hK hP)) rfl rfl hl.1 rfl (lv_room (Nat.le_of_ble_eq_true rfl)) dX6_getsNow_302 ⟨Nat.le_of_ble_eq_true rfl, Nat.le_of_ble_eq_true rfl⟩) hD hS hA (fun r_18 x_18 H locs hq_18 hP hD hS => ?_)
                      rw [hq_18.1]
                      rw [hq_18.2] at hP hD
                      refine lv_goto (tgt := 309) hx hb dX6_getsNow_305 (by decide) ?_
                      have hlate2 : ¬ M.2 11 i = 0 → ¬ (¬ M.2 15 i = -1 ∧ ¬ (rG M.2 (M.1 2) (M.2 11) (fun k => rFar M.2 k (M.1 1)) (nI uu) f g na ru d (M.2 15 i).toNatClampNeg).1 = M.2 16 i) := hlate
                      have hG : rGx M.2 (M.1 2) (M.2 11) (nI uu) f g na (ru i) (fun j => (rG M.2 (M.1 2) (M.2 11) (fun k => rFar M.2 k (M.1 1)) (nI uu) f g na ru d j).1) i far = (rSplit M.2 i (kBkt (M.2 4 i) (nI uu)) 4 0 (M.2 6 (4 * i)), 8) := by
                        unfold rGx
                        by_cases h11 : M.2 11 i = 0
                        · first | (simp [h11]; done) | exact absurd h11 (by assumption)
                        · have hl9 := hlate h11
                          first | exact absurd (by assumption) h11 | (rw [if_neg h11, if_neg hl9]; simp [era, erh, c_7, c_9, c_12, c_13, c_15, c_16])
                      exact W.iret (v := rSplit M.2 i (kBkt (M.2 4 i) (nI uu)) 4 0 (M.2 6 (4 * i))) hx hb hr (fun t ht hW => ⟨⟨rSplit M.2 i (kBkt (M.2 4 i) (nI uu)) 4 0 (M.2 6 (4 * i)), mS (mS M 28 ρ) 28 8, rfl, ⟨by rw [hG], by rw [hG]; simp only [mS_s]⟩, by rw [ht]; exact hP, va_K.moved hW.alike hK, hD⟩, hS.F ht⟩) hS.2.2 dX6_getsNow_309
                    · replace c_16 : ¬ (ru i ≤ 0) := fun h9 => c_16 ((nI_leI (a := ru i) (b := 0) (by omega) (by omega)).mpr h9)
                      refine lv_iload hx hb dX6_getsNow_278 (lv_at hl 0 rfl) ?_
                      refine lv_iconst (v := (-1)) hx hb dX6_getsNow_280 (by decide) ?_
                      refine lv_icmp_ne (tgt := 290) hx hb dX6_getsNow_281 (by decide) (fun c_19 => absurd c_19 (by decide)) (fun _ => ?_)
                      refine lv_aload_n hx hb dX6_getsNow_284 rfl (lv_at hl 8 rfl) ?_
                      refine lv_bipush (v := 7) hx hb dX6_getsNow_285 (by decide) ?_
                      refine km_puti hx hb htT hown hK hP hD hS 28 (by decide) rfl (htT _ m_fl_X6_165) rfl (by decide +kernel) dX6_getsNow_287 (fun H locs hP hD hS => ?_)
                      refine lv_aload_n hx hb dX6_getsNow_290 rfl (lv_at hl 8 rfl) ?_
                      refine km_getiv (x := 7) hx hb htT hown hK hP 28 (by decide) rfl (htT _ m_fl_X6_165) rfl dX6_getsNow_291 ?_
                      refine lv_bipush (v := 8) hx hb dX6_getsNow_294 (by decide) ?_
                      refine lv_icmp_ne (tgt := 308) hx hb dX6_getsNow_296 (by decide) (fun _ => ?_) (fun c_20 => absurd c_20 (by decide))
                      refine lv_iconst (v := 0) hx hb dX6_getsNow_308 (by decide) ?_
                      have hlate2 : ¬ M.2 11 i = 0 → ¬ (¬ M.2 15 i = -1 ∧ ¬ (rG M.2 (M.1 2) (M.2 11) (fun k => rFar M.2 k (M.1 1)) (nI uu) f g na ru d (M.2 15 i).toNatClampNeg).1 = M.2 16 i) := hlate
                      have hG : rGx M.2 (M.1 2) (M.2 11) (nI uu) f g na (ru i) (fun j => (rG M.2 (M.1 2) (M.2 11) (fun k => rFar M.2 k (M.1 1)) (nI uu) f g na ru d j).1) i far = (0, 7) := by
                        unfold rGx
                        by_cases h11 : M.2 11 i = 0
                        · first | (simp [h11]; done) | exact absurd h11 (by assumption)
                        · have hl9 := hlate h11
                          first | exact absurd (by assumption) h11 | (rw [if_neg h11, if_neg hl9]; simp [era, erh, c_7, c_9, c_12, c_13, c_15, c_16])
                      exact W.iret (v := 0) hx hb hr (fun t ht hW => ⟨⟨0, mS (mS (mS M 28 ρ) 28 8) 28 7, rfl, ⟨by rw [hG], by rw [hG]; simp only [mS_s]⟩, by rw [ht]; exact hP, va_K.moved hW.alike hK, hD⟩, hS.F ht⟩) hS.2.2 dX6_getsNow_309
                  · refine lv_aload_n hx hb dX6_getsNow_260 rfl (lv_at hl 8 rfl) ?_
                    refine lv_bipush (v := 6) hx hb dX6_getsNow_261 (by decide) ?_
                    refine km_puti hx hb htT hown hK hP hD hS 28 (by decide) rfl (htT _ m_fl_X6_165) rfl (by decide +kernel) dX6_getsNow_263 (fun H locs hP hD hS => ?_)
                    refine lv_goto (tgt := 290) hx hb dX6_getsNow_266 (by decide) ?_
                    refine lv_aload_n hx hb dX6_getsNow_290 rfl (lv_at hl 8 rfl) ?_
                    refine km_getiv (x := 6) hx hb htT hown hK hP 28 (by decide) rfl (htT _ m_fl_X6_165) rfl dX6_getsNow_291 ?_
                    refine lv_bipush (v := 8) hx hb dX6_getsNow_294 (by decide) ?_
                    refine lv_icmp_ne (tgt := 308) hx hb dX6_getsNow_296 (by decide) (fun _ => ?_) (fun c_21 => absurd c_21 (by decide))
                    refine lv_iconst (v := 0) hx hb dX6_getsNow_308 (by decide) ?_
                    have hlate2 : ¬ M.2 11 i = 0 → ¬ (¬ M.2 15 i = -1 ∧ ¬ (rG M.2 (M.1 2) (M.2 11) (fun k => rFar M.2 k (M.1 1)) (nI uu) f g na ru d (M.2 15 i).toNatClampNeg).1 = M.2 16 i) := hlate
                    have hG : rGx M.2 (M.1 2) (M.2 11) (nI uu) f g na (ru i) (fun j => (rG M.2 (M.1 2) (M.2 11) (fun k => rFar M.2 k (M.1 1)) (nI uu) f g na ru d j).1) i far = (0, 6) := by
                      unfold rGx
                      by_cases h11 : M.2 11 i = 0
                      · first | (simp [h11]; done) | exact absurd h11 (by assumption)
                      · have hl9 := hlate h11
                        first | exact absurd (by assumption) h11 | (rw [if_neg h11, if_neg hl9]; simp [era, erh, c_7, c_9, c_12, c_13, c_15])
                    exact W.iret (v := 0) hx hb hr (fun t ht hW => ⟨⟨0, mS (mS (mS M 28 ρ) 28 8) 28 6, rfl, ⟨by rw [hG], by rw [hG]; simp only [mS_s]⟩, by rw [ht]; exact hP, va_K.moved hW.alike hK, hD⟩, hS.F ht⟩) hS.2.2 dX6_getsNow_309
                · refine lv_sipush (v := 500) hx hb dX6_getsNow_201 (by decide) ?_
                  refine lv_aload_n hx hb dX6_getsNow_204 rfl (lv_at hl 8 rfl) ?_
                  refine km_getr hx hb htT hown hK hP 12 (by decide) rfl (htT _ m_fl_X6_35) dX6_getsNow_205 ?_
                  refine lv_iload_n hx hb dX6_getsNow_208 rfl (lv_at hl 7 rfl) ?_
                  refine km_ialdv (x := (M.2 12) i) hx hb hK hP 12 rfl rfl (show vp_in (nI (i)) 8 from ki_in (by omega) (by decide)) (congrArg _ (ki_cl (by omega))) dX6_getsNow_209 ?_
                  refine lv_iadd hx hb dX6_getsNow_210 ?_
                  refine lv_iload_n hx hb dX6_getsNow_211 rfl (lv_at hl 6 rfl) ?_
                  refine kc_i (va_runS (As := [.int (500 + ((M.2 12) i)), .int (nI uu)]) (rest := []) ⟨hx, hb, hml, hown, htT⟩ (m_bucketOf l D cA _ am r (mS (mS M 28 ρ) 28 8) (500 + ((M.2 12) i)) (nI uu)) (cwS 2 htT (kg_S m_ml_X6_148 m_st_X6_bucketOf m_in_X6 m_cd_X6_bucketOf) rfl rfl rfl (by decide +kernel) ⟨(show 0 + 1 ≤ 2 * d + 2 by omega), (show 8 + (3 + 11) + (0) ≤ 120 * d + 60 by omega)⟩) (kp_S hK hP hD hTB) rfl rfl hl.1 rfl (lv_room (Nat.le_of_ble_eq_true rfl)) dX6_getsNow_212 ⟨Nat.le_of_ble_eq_true rfl, Nat.le_of_ble_eq_true rfl⟩) hD hS hA (fun r_22 x_22 H locs hq_22 hP hD hS => ?_)
                  rw [hq_22.1]
                  rw [hq_22.2] at hP hD
                  refine lv_aload_n hx hb dX6_getsNow_215 rfl (lv_at hl 8 rfl) ?_
                  refine km_getr hx hb htT hown hK hP 13 (by decide) rfl (htT _ m_fl_X6_38) dX6_getsNow_216 ?_
                  refine lv_iload_n hx hb dX6_getsNow_219 rfl (lv_at hl 7 rfl) ?_
                  refine km_ialdv (x := (M.2 13) i) hx hb hK hP 13 rfl rfl (show vp_in (nI (i)) 8 from ki_in (by omega) (by decide)) (congrArg _ (ki_cl (by omega))) dX6_getsNow_220 ?_
                  refine lv_aload_n hx hb dX6_getsNow_221 rfl (lv_at hl 8 rfl) ?_
                  refine km_getr hx hb htT hown hK hP 14 (by decide) rfl (htT _ m_fl_X6_41) dX6_getsNow_222 ?_
                  refine lv_iload_n hx hb dX6_getsNow_225 rfl (lv_at hl 7 rfl) ?_
                  refine km_ialdv (x := (M.2 14) i) hx hb hK hP 14 rfl rfl (show vp_in (nI (i)) 8 from ki_in (by omega) (by decide)) (congrArg _ (ki_cl (by omega))) dX6_getsNow_226 ?_
                  refine lv_iconst (v := 1) hx hb dX6_getsNow_227 (by decide) ?_
                  refine lv_isub hx hb dX6_getsNow_228 ?_
                  refine kc_i (va_runS (As := [.int (kBkt (500 + ((M.2 12) i)) (nI uu)), .int ((M.2 13) i), .int (((M.2 14) i) - 1)]) (rest := []) ⟨hx, hb, hml, hown, htT⟩ (m_isIn l D cA _ am r (mS (mS M 28 ρ) 28 8) (kBkt (500 + ((M.2 12) i)) (nI uu)) ((M.2 13) i) (((M.2 14) i) - 1)) (cwS 3 htT (kg_S m_ml_X6_87 m_st_X6_isIn m_in_X6 m_cd_X6_isIn) rfl rfl rfl (by decide +kernel) ⟨(show 0 + 1 ≤ 2 * d + 2 by omega), (show 8 + (3 + 11) + (0) ≤ 120 * d + 60 by omega)⟩) (kp_S hK hP hD hTB) rfl rfl hl.1 rfl (lv_room (Nat.le_of_ble_eq_true rfl)) dX6_getsNow_229 ⟨Nat.le_of_ble_eq_true rfl, Nat.le_of_ble_eq_true rfl⟩) hD hS hA (fun r_23 x_23 H locs hq_23 hP hD hS => ?_)
                  rw [hq_23.1]
                  rw [hq_23.2] at hP hD
                  refine lv_if_ne (tgt := 243) hx hb dX6_getsNow_232 (by decide) (fun c_24 => ?_) (fun c_24 => ?_)
                  · refine lv_aload_n hx hb dX6_getsNow_243 rfl (lv_at hl 8 rfl) ?_
                    refine km_getr hx hb htT hown hK hP 4 (by decide) rfl (htT _ m_fl_X6_9) dX6_getsNow_244 ?_
                    refine lv_iload_n hx hb dX6_getsNow_247 rfl (lv_at hl 7 rfl) ?_
                    refine km_ialdv (x := (M.2 4) i) hx hb hK hP 4 rfl rfl (show vp_in (nI (i)) 8 from ki_in (by omega) (by decide)) (congrArg _ (ki_cl (by omega))) dX6_getsNow_248 ?_
                    refine lv_iconst (v := 1) hx hb dX6_getsNow_249 (by decide) ?_
                    refine lv_iadd hx hb dX6_getsNow_250 ?_
                    refine lv_iload_n hx hb dX6_getsNow_251 rfl (lv_at hl 6 rfl) ?_
                    refine kc_i (va_runS (As := [.int (((M.2 4) i) + 1), .int (nI uu)]) (rest := []) ⟨hx, hb, hml, hown, htT⟩ (m_bucketOf l D cA _ am r (mS (mS M 28 ρ) 28 8) (((M.2 4) i) + 1) (nI uu)) (cwS 2 htT (kg_S m_ml_X6_148 m_st_X6_bucketOf m_in_X6 m_cd_X6_bucketOf) rfl rfl rfl (by decide +kernel) ⟨(show 0 + 1 ≤ 2 * d + 2 by omega), (show 8 + (3 + 11) + (0) ≤ 120 * d + 60 by omega)⟩) (kp_S hK hP hD hTB) rfl rfl hl.1 rfl (lv_room (Nat.le_of_ble_eq_true rfl)) dX6_getsNow_252 ⟨Nat.le_of_ble_eq_true rfl, Nat.le_of_ble_eq_true rfl⟩) hD hS hA (fun r_25 x_25 H locs hq_25 hP hD hS => ?_)
                    rw [hq_25.1]
                    rw [hq_25.2] at hP hD
                    refine lv_iload hx hb dX6_getsNow_255 (lv_at hl 3 rfl) ?_
                    refine lv_icmp_lt (tgt := 269) hx hb dX6_getsNow_257 (by decide) (fun c_26 => ?_) (fun c_26 => ?_)
                    · refine lv_aload_n hx hb dX6_getsNow_269 rfl (lv_at hl 8 rfl) ?_
                      refine km_getr hx hb htT hown hK hP 17 (by decide) rfl (htT _ m_fl_X6_50) dX6_getsNow_270 ?_
                      refine lv_iload_n hx hb dX6_getsNow_273 rfl (lv_at hl 7 rfl) ?_
                      refine km_ialdv (x := nI (ru i)) hx hb hK hP 17 rfl rfl (show vp_in (nI (i)) 8 from ki_in (by omega) (by decide)) ((congrArg _ (ki_cl (by omega))).trans (hsw i hi).2.1) dX6_getsNow_274 ?_
                      refine lv_if_le (tgt := 290) hx hb dX6_getsNow_275 (by decide) (fun c_27 => ?_) (fun c_27 => ?_)
                      · replace c_27 := (nI_leI (a := ru i) (b := 0) (by omega) (by omega)).mp c_27
                        refine lv_aload_n hx hb dX6_getsNow_290 rfl (lv_at hl 8 rfl) ?_
                        refine km_getiv (x := 8) hx hb htT hown hK hP 28 (by decide) rfl (htT _ m_fl_X6_165) rfl dX6_getsNow_291 ?_
                        refine lv_bipush (v := 8) hx hb dX6_getsNow_294 (by decide) ?_
                        refine lv_icmp_ne (tgt := 308) hx hb dX6_getsNow_296 (by decide) (fun c_28 => absurd c_28 (by decide)) (fun _ => ?_)
                        refine lv_aload_n hx hb dX6_getsNow_299 rfl (lv_at hl 8 rfl) ?_
                        refine lv_iload_n hx hb dX6_getsNow_300 rfl (lv_at hl 7 rfl) ?_
                        refine lv_iload_n hx hb dX6_getsNow_301 rfl (lv_at hl 6 rfl) ?_
                        obtain ⟨sa, hsa, h4⟩ := (hsw i hi).2.2.2.1
                        refine kc_i (va_runV (As := [.int (nI i), .int (nI uu)]) (rest := []) ⟨hx, hb, hml, hown, htT⟩ (m_split l D cA _ am r (mS (mS M 28 ρ) 28 8) i (by omega) sa uu hsa huu h4 (hsw i hi).2.2.2.2) (cwV 2 htT (kg_V m_ml_X6_168 m_im_X6_split m_sl_X6_split m_in_X6 m_cd_X6_split) rfl rfl rfl (by decide +kernel) ⟨(show 1 + 1 ≤ 2 * d + 2 by omega), (show 8 + (6 + 11) + (22) ≤ 120 * d + 60 by omega)⟩) (kp_V hK hP hD hTB (km_rc hK hP)) rfl rfl hl.1 rfl (lv_room (Nat.le_of_ble_eq_true rfl)) dX6_getsNow_302 ⟨Nat.le_of_ble_eq_true rfl, Nat.le_of_ble_eq_true rfl⟩) hD hS hA (fun r_29 x_29 H locs hq_29 hP hD hS => ?_)
                        rw [hq_29.1]
                        rw [hq_29.2] at hP hD
                        refine lv_goto (tgt := 309) hx hb dX6_getsNow_305 (by decide) ?_
                        have hlate2 : ¬ M.2 11 i = 0 → ¬ (¬ M.2 15 i = -1 ∧ ¬ (rG M.2 (M.1 2) (M.2 11) (fun k => rFar M.2 k (M.1 1)) (nI uu) f g na ru d (M.2 15 i).toNatClampNeg).1 = M.2 16 i) := hlate
                        have hG : rGx M.2 (M.1 2) (M.2 11) (nI uu) f g na (ru i) (fun j => (rG M.2 (M.1 2) (M.2 11) (fun k => rFar M.2 k (M.1 1)) (nI uu) f g na ru d j).1) i far = (rSplit M.2 i (kBkt (M.2 4 i) (nI uu)) 4 0 (M.2 6 (4 * i)), 8) := by
                          unfold rGx
                          by_cases h11 : M.2 11 i = 0
                          · first | (simp [h11]; done) | exact absurd h11 (by assumption)
                          · have hl9 := hlate h11
                            first | exact absurd (by assumption) h11 | (rw [if_neg h11, if_neg hl9]; simp [era, erh, c_7, c_9, c_12, c_13, c_24, c_26, c_27])
                        exact W.iret (v := rSplit M.2 i (kBkt (M.2 4 i) (nI uu)) 4 0 (M.2 6 (4 * i))) hx hb hr (fun t ht hW => ⟨⟨rSplit M.2 i (kBkt (M.2 4 i) (nI uu)) 4 0 (M.2 6 (4 * i)), mS (mS M 28 ρ) 28 8, rfl, ⟨by rw [hG], by rw [hG]; simp only [mS_s]⟩, by rw [ht]; exact hP, va_K.moved hW.alike hK, hD⟩, hS.F ht⟩) hS.2.2 dX6_getsNow_309
                      · replace c_27 : ¬ (ru i ≤ 0) := fun h9 => c_27 ((nI_leI (a := ru i) (b := 0) (by omega) (by omega)).mpr h9)
                        refine lv_iload hx hb dX6_getsNow_278 (lv_at hl 0 rfl) ?_
                        refine lv_iconst (v := (-1)) hx hb dX6_getsNow_280 (by decide) ?_
                        refine lv_icmp_ne (tgt := 290) hx hb dX6_getsNow_281 (by decide) (fun c_30 => absurd c_30 (by decide)) (fun _ => ?_)
                        refine lv_aload_n hx hb dX6_getsNow_284 rfl (lv_at hl 8 rfl) ?_
                        refine lv_bipush (v := 7) hx hb dX6_getsNow_285 (by decide) ?_
                        refine km_puti hx hb htT hown hK hP hD hS 28 (by decide) rfl (htT _ m_fl_X6_165) rfl (by decide +kernel) dX6_getsNow_287 (fun H locs hP hD hS => ?_)
                        refine lv_aload_n hx hb dX6_getsNow_290 rfl (lv_at hl 8 rfl) ?_
                        refine km_getiv (x := 7) hx hb htT hown hK hP 28 (by decide) rfl (htT _ m_fl_X6_165) rfl dX6_getsNow_291 ?_
                        refine lv_bipush (v := 8) hx hb dX6_getsNow_294 (by decide) ?_
                        refine lv_icmp_ne (tgt := 308) hx hb dX6_getsNow_296 (by decide) (fun _ => ?_) (fun c_31 => absurd c_31 (by decide))
                        refine lv_iconst (v := 0) hx hb dX6_getsNow_308 (by decide) ?_
                        have hlate2 : ¬ M.2 11 i = 0 → ¬ (¬ M.2 15 i = -1 ∧ ¬ (rG M.2 (M.1 2) (M.2 11) (fun k => rFar M.2 k (M.1 1)) (nI uu) f g na ru d (M.2 15 i).toNatClampNeg).1 = M.2 16 i) := hlate
                        have hG : rGx M.2 (M.1 2) (M.2 11) (nI uu) f g na (ru i) (fun j => (rG M.2 (M.1 2) (M.2 11) (fun k => rFar M.2 k (M.1 1)) (nI uu) f g na ru d j).1) i far = (0, 7) := by
                          unfold rGx
                          by_cases h11 : M.2 11 i = 0
                          · first | (simp [h11]; done) | exact absurd h11 (by assumption)
                          · have hl9 := hlate h11
                            first | exact absurd (by assumption) h11 | (rw [if_neg h11, if_neg hl9]; simp [era, erh, c_7, c_9, c_12, c_13, c_24, c_26, c_27])
                        exact W.iret (v := 0) hx hb hr (fun t ht hW => ⟨⟨0, mS (mS (mS M 28 ρ) 28 8) 28 7, rfl, ⟨by rw [hG], by rw [hG]; simp only [mS_s]⟩, by rw [ht]; exact hP, va_K.moved hW.alike hK, hD⟩, hS.F ht⟩) hS.2.2 dX6_getsNow_309
                    · refine lv_aload_n hx hb dX6_getsNow_260 rfl (lv_at hl 8 rfl) ?_
                      refine lv_bipush (v := 6) hx hb dX6_getsNow_261 (by decide) ?_
                      refine km_puti hx hb htT hown hK hP hD hS 28 (by decide) rfl (htT _ m_fl_X6_165) rfl (by decide +kernel) dX6_getsNow_263 (fun H locs hP hD hS => ?_)
                      refine lv_goto (tgt := 290) hx hb dX6_getsNow_266 (by decide) ?_
                      refine lv_aload_n hx hb dX6_getsNow_290 rfl (lv_at hl 8 rfl) ?_
                      refine km_getiv (x := 6) hx hb htT hown hK hP 28 (by decide) rfl (htT _ m_fl_X6_165) rfl dX6_getsNow_291 ?_
                      refine lv_bipush (v := 8) hx hb dX6_getsNow_294 (by decide) ?_
                      refine lv_icmp_ne (tgt := 308) hx hb dX6_getsNow_296 (by decide) (fun _ => ?_) (fun c_32 => absurd c_32 (by decide))
                      refine lv_iconst (v := 0) hx hb dX6_getsNow_308 (by decide) ?_
                      have hlate2 : ¬ M.2 11 i = 0 → ¬ (¬ M.2 15 i = -1 ∧ ¬ (rG M.2 (M.1 2) (M.2 11) (fun k => rFar M.2 k (M.1 1)) (nI uu) f g na ru d (M.2 15 i).toNatClampNeg).1 = M.2 16 i) := hlate
                      have hG : rGx M.2 (M.1 2) (M.2 11) (nI uu) f g na (ru i) (fun j => (rG M.2 (M.1 2) (M.2 11) (fun k => rFar M.2 k (M.1 1)) (nI uu) f g na ru d j).1) i far = (0, 6) := by
                        unfold rGx
                        by_cases h11 : M.2 11 i = 0
                        · first | (simp [h11]; done) | exact absurd h11 (by assumption)
                        · have hl9 := hlate h11
                          first | exact absurd (by assumption) h11 | (rw [if_neg h11, if_neg hl9]; simp [era, erh, c_7, c_9, c_12, c_13, c_24, c_26])
                      exact W.iret (v := 0) hx hb hr (fun t ht hW => ⟨⟨0, mS (mS (mS M 28 ρ) 28 8) 28 6, rfl, ⟨by rw [hG], by rw [hG]; simp only [mS_s]⟩, by rw [ht]; exact hP, va_K.moved hW.alike hK, hD⟩, hS.F ht⟩) hS.2.2 dX6_getsNow_309
                  · refine lv_aload_n hx hb dX6_getsNow_235 rfl (lv_at hl 8 rfl) ?_
                    refine lv_iconst (v := 5) hx hb dX6_getsNow_236 (by decide) ?_
                    refine km_puti hx hb htT hown hK hP hD hS 28 (by decide) rfl (htT _ m_fl_X6_165) rfl (by decide +kernel) dX6_getsNow_237 (fun H locs hP hD hS => ?_)
                    refine lv_goto (tgt := 290) hx hb dX6_getsNow_240 (by decide) ?_
                    refine lv_aload_n hx hb dX6_getsNow_290 rfl (lv_at hl 8 rfl) ?_
                    refine km_getiv (x := 5) hx hb htT hown hK hP 28 (by decide) rfl (htT _ m_fl_X6_165) rfl dX6_getsNow_291 ?_
                    refine lv_bipush (v := 8) hx hb dX6_getsNow_294 (by decide) ?_
                    refine lv_icmp_ne (tgt := 308) hx hb dX6_getsNow_296 (by decide) (fun _ => ?_) (fun c_33 => absurd c_33 (by decide))
                    refine lv_iconst (v := 0) hx hb dX6_getsNow_308 (by decide) ?_
                    have hlate2 : ¬ M.2 11 i = 0 → ¬ (¬ M.2 15 i = -1 ∧ ¬ (rG M.2 (M.1 2) (M.2 11) (fun k => rFar M.2 k (M.1 1)) (nI uu) f g na ru d (M.2 15 i).toNatClampNeg).1 = M.2 16 i) := hlate
                    have hG : rGx M.2 (M.1 2) (M.2 11) (nI uu) f g na (ru i) (fun j => (rG M.2 (M.1 2) (M.2 11) (fun k => rFar M.2 k (M.1 1)) (nI uu) f g na ru d j).1) i far = (0, 5) := by
                      unfold rGx
                      by_cases h11 : M.2 11 i = 0
                      · first | (simp [h11]; done) | exact absurd h11 (by assumption)
                      · have hl9 := hlate h11
                        first | exact absurd (by assumption) h11 | (rw [if_neg h11, if_neg hl9]; simp [era, erh, c_7, c_9, c_12, c_13, c_24])
                    exact W.iret (v := 0) hx hb hr (fun t ht hW => ⟨⟨0, mS (mS (mS M 28 ρ) 28 8) 28 5, rfl, ⟨by rw [hG], by rw [hG]; simp only [mS_s]⟩, by rw [ht]; exact hP, va_K.moved hW.alike hK, hD⟩, hS.F ht⟩) hS.2.2 dX6_getsNow_309
              · replace c_12 := Int32.not_le.mp c_12
                refine lv_aload_n hx hb dX6_getsNow_183 rfl (lv_at hl 8 rfl) ?_
                refine lv_iconst (v := 4) hx hb dX6_getsNow_184 (by decide) ?_
                refine km_puti hx hb htT hown hK hP hD hS 28 (by decide) rfl (htT _ m_fl_X6_165) rfl (by decide +kernel) dX6_getsNow_185 (fun H locs hP hD hS => ?_)
                refine lv_goto (tgt := 290) hx hb dX6_getsNow_188 (by decide) ?_
                refine lv_aload_n hx hb dX6_getsNow_290 rfl (lv_at hl 8 rfl) ?_
                refine km_getiv (x := 4) hx hb htT hown hK hP 28 (by decide) rfl (htT _ m_fl_X6_165) rfl dX6_getsNow_291 ?_
                refine lv_bipush (v := 8) hx hb dX6_getsNow_294 (by decide) ?_
                refine lv_icmp_ne (tgt := 308) hx hb dX6_getsNow_296 (by decide) (fun _ => ?_) (fun c_34 => absurd c_34 (by decide))
                refine lv_iconst (v := 0) hx hb dX6_getsNow_308 (by decide) ?_
                have hlate2 : ¬ M.2 11 i = 0 → ¬ (¬ M.2 15 i = -1 ∧ ¬ (rG M.2 (M.1 2) (M.2 11) (fun k => rFar M.2 k (M.1 1)) (nI uu) f g na ru d (M.2 15 i).toNatClampNeg).1 = M.2 16 i) := hlate
                have hG : rGx M.2 (M.1 2) (M.2 11) (nI uu) f g na (ru i) (fun j => (rG M.2 (M.1 2) (M.2 11) (fun k => rFar M.2 k (M.1 1)) (nI uu) f g na ru d j).1) i far = (0, 4) := by
                  unfold rGx
                  by_cases h11 : M.2 11 i = 0
                  · first | (simp [h11]; done) | exact absurd h11 (by assumption)
                  · have hl9 := hlate h11
                    first | exact absurd (by assumption) h11 | (rw [if_neg h11, if_neg hl9]; simp [era, erh, c_7, c_9, c_12])
                exact W.iret (v := 0) hx hb hr (fun t ht hW => ⟨⟨0, mS (mS (mS M 28 ρ) 28 8) 28 4, rfl, ⟨by rw [hG], by rw [hG]; simp only [mS_s]⟩, by rw [ht]; exact hP, va_K.moved hW.alike hK, hD⟩, hS.F ht⟩) hS.2.2 dX6_getsNow_309
            · refine lv_iload hx hb dX6_getsNow_112 (lv_at hl 1 rfl) ?_
              refine lv_iconst (v := (-1)) hx hb dX6_getsNow_114 (by decide) ?_
              refine lv_icmp_eq (tgt := 131) hx hb dX6_getsNow_115 (by decide) (fun _ => ?_) (fun c_35 => absurd c_35 (by decide))
              refine lv_iload hx hb dX6_getsNow_131 (lv_at hl 0 rfl) ?_
              refine lv_iconst (v := (-1)) hx hb dX6_getsNow_133 (by decide) ?_
              refine lv_icmp_eq (tgt := 169) hx hb dX6_getsNow_134 (by decide) (fun _ => ?_) (fun c_36 => absurd c_36 (by decide))
              refine lv_sipush (v := 999) hx hb dX6_getsNow_169 (by decide) ?_
              refine lv_iload_n hx hb dX6_getsNow_172 rfl (lv_at hl 6 rfl) ?_
              refine kc_i (va_runS (As := [.int 999, .int (nI uu)]) (rest := []) ⟨hx, hb, hml, hown, htT⟩ (m_bucketOf l D cA _ am r (mS (mS M 28 ρ) 28 8) 999 (nI uu)) (cwS 2 htT (kg_S m_ml_X6_148 m_st_X6_bucketOf m_in_X6 m_cd_X6_bucketOf) rfl rfl rfl (by decide +kernel) ⟨(show 0 + 1 ≤ 2 * d + 2 by omega), (show 8 + (3 + 11) + (0) ≤ 120 * d + 60 by omega)⟩) (kp_S hK hP hD hTB) rfl rfl hl.1 rfl (lv_room (Nat.le_of_ble_eq_true rfl)) dX6_getsNow_173 ⟨Nat.le_of_ble_eq_true rfl, Nat.le_of_ble_eq_true rfl⟩) hD hS hA (fun r_37 x_37 H locs hq_37 hP hD hS => ?_)
              rw [hq_37.1]
              rw [hq_37.2] at hP hD
              refine lv_aload_n hx hb dX6_getsNow_176 rfl (lv_at hl 8 rfl) ?_
              refine km_getiv (x := M.1 2) hx hb htT hown hK hP 2 (by decide) rfl (htT _ m_fl_X6_136) rfl dX6_getsNow_177 ?_
              refine lv_icmp_ge (tgt := 191) hx hb dX6_getsNow_180 (by decide) (fun c_38 => ?_) (fun c_38 => ?_)
              · replace c_38 := Int32.not_lt.mpr c_38
                refine lv_aload_n hx hb dX6_getsNow_191 rfl (lv_at hl 8 rfl) ?_
                refine km_getr hx hb htT hown hK hP 12 (by decide) rfl (htT _ m_fl_X6_35) dX6_getsNow_192 ?_
                refine lv_iload_n hx hb dX6_getsNow_195 rfl (lv_at hl 7 rfl) ?_
                refine km_ialdv (x := (M.2 12) i) hx hb hK hP 12 rfl rfl (show vp_in (nI (i)) 8 from ki_in (by omega) (by decide)) (congrArg _ (ki_cl (by omega))) dX6_getsNow_196 ?_
                refine lv_iconst (v := (-1)) hx hb dX6_getsNow_197 (by decide) ?_
                refine lv_icmp_eq (tgt := 243) hx hb dX6_getsNow_198 (by decide) (fun c_39 => ?_) (fun c_39 => ?_)
                · refine lv_aload_n hx hb dX6_getsNow_243 rfl (lv_at hl 8 rfl) ?_
                  refine km_getr hx hb htT hown hK hP 4 (by decide) rfl (htT _ m_fl_X6_9) dX6_getsNow_244 ?_
                  refine lv_iload_n hx hb dX6_getsNow_247 rfl (lv_at hl 7 rfl) ?_
                  refine km_ialdv (x := (M.2 4) i) hx hb hK hP 4 rfl rfl (show vp_in (nI (i)) 8 from ki_in (by omega) (by decide)) (congrArg _ (ki_cl (by omega))) dX6_getsNow_248 ?_
                  refine lv_iconst (v := 1) hx hb dX6_getsNow_249 (by decide) ?_
                  refine lv_iadd hx hb dX6_getsNow_250 ?_
                  refine lv_iload_n hx hb dX6_getsNow_251 rfl (lv_at hl 6 rfl) ?_
                  refine kc_i (va_runS (As := [.int (((M.2 4) i) + 1), .int (nI uu)]) (rest := []) ⟨hx, hb, hml, hown, htT⟩ (m_bucketOf l D cA _ am r (mS (mS M 28 ρ) 28 8) (((M.2 4) i) + 1) (nI uu)) (cwS 2 htT (kg_S m_ml_X6_148 m_st_X6_bucketOf m_in_X6 m_cd_X6_bucketOf) rfl rfl rfl (by decide +kernel) ⟨(show 0 + 1 ≤ 2 * d + 2 by omega), (show 8 + (3 + 11) + (0) ≤ 120 * d + 60 by omega)⟩) (kp_S hK hP hD hTB) rfl rfl hl.1 rfl (lv_room (Nat.le_of_ble_eq_true rfl)) dX6_getsNow_252 ⟨Nat.le_of_ble_eq_true rfl, Nat.le_of_ble_eq_true rfl⟩) hD hS hA (fun r_40 x_40 H locs hq_40 hP hD hS => ?_)
                  rw [hq_40.1]
                  rw [hq_40.2] at hP hD
                  refine lv_iload hx hb dX6_getsNow_255 (lv_at hl 3 rfl) ?_
                  refine lv_icmp_lt (tgt := 269) hx hb dX6_getsNow_257 (by decide) (fun c_41 => ?_) (fun c_41 => ?_)
                  · refine lv_aload_n hx hb dX6_getsNow_269 rfl (lv_at hl 8 rfl) ?_
                    refine km_getr hx hb htT hown hK hP 17 (by decide) rfl (htT _ m_fl_X6_50) dX6_getsNow_270 ?_
                    refine lv_iload_n hx hb dX6_getsNow_273 rfl (lv_at hl 7 rfl) ?_
                    refine km_ialdv (x := nI (ru i)) hx hb hK hP 17 rfl rfl (show vp_in (nI (i)) 8 from ki_in (by omega) (by decide)) ((congrArg _ (ki_cl (by omega))).trans (hsw i hi).2.1) dX6_getsNow_274 ?_
                    refine lv_if_le (tgt := 290) hx hb dX6_getsNow_275 (by decide) (fun c_42 => ?_) (fun c_42 => ?_)
                    · replace c_42 := (nI_leI (a := ru i) (b := 0) (by omega) (by omega)).mp c_42
                      refine lv_aload_n hx hb dX6_getsNow_290 rfl (lv_at hl 8 rfl) ?_
                      refine km_getiv (x := 8) hx hb htT hown hK hP 28 (by decide) rfl (htT _ m_fl_X6_165) rfl dX6_getsNow_291 ?_
                      refine lv_bipush (v := 8) hx hb dX6_getsNow_294 (by decide) ?_
                      refine lv_icmp_ne (tgt := 308) hx hb dX6_getsNow_296 (by decide) (fun c_43 => absurd c_43 (by decide)) (fun _ => ?_)
                      refine lv_aload_n hx hb dX6_getsNow_299 rfl (lv_at hl 8 rfl) ?_
                      refine lv_iload_n hx hb dX6_getsNow_300 rfl (lv_at hl 7 rfl) ?_
                      refine lv_iload_n hx hb dX6_getsNow_301 rfl (lv_at hl 6 rfl) ?_
                      obtain ⟨sa, hsa, h4⟩ := (hsw i hi).2.2.2.1
                      refine kc_i (va_runV (As := [.int (nI i), .int (nI uu)]) (rest := []) ⟨hx, hb, hml, hown, htT⟩ (m_split l D cA _ am r (mS (mS M 28 ρ) 28 8) i (by omega) sa uu hsa huu h4 (hsw i hi).2.2.2.2) (cwV 2 htT (kg_V m_ml_X6_168 m_im_X6_split m_sl_X6_split m_in_X6 m_cd_X6_split) rfl rfl rfl (by decide +kernel) ⟨(show 1 + 1 ≤ 2 * d + 2 by omega), (show 8 + (6 + 11) + (22) ≤ 120 * d + 60 by omega)⟩) (kp_V hK hP hD hTB (km_rc hK hP)) rfl rfl hl.1 rfl (lv_room (Nat.le_of_ble_eq_true rfl)) dX6_getsNow_302 ⟨Nat.le_of_ble_eq_true rfl, Nat.le_of_ble_eq_true rfl⟩) hD hS hA (fun r_44 x_44 H locs hq_44 hP hD hS => ?_)
                      rw [hq_44.1]
                      rw [hq_44.2] at hP hD
                      refine lv_goto (tgt := 309) hx hb dX6_getsNow_305 (by decide) ?_
                      have hlate2 : ¬ M.2 11 i = 0 → ¬ (¬ M.2 15 i = -1 ∧ ¬ (rG M.2 (M.1 2) (M.2 11) (fun k => rFar M.2 k (M.1 1)) (nI uu) f g na ru d (M.2 15 i).toNatClampNeg).1 = M.2 16 i) := hlate
                      have hG : rGx M.2 (M.1 2) (M.2 11) (nI uu) f g na (ru i) (fun j => (rG M.2 (M.1 2) (M.2 11) (fun k => rFar M.2 k (M.1 1)) (nI uu) f g na ru d j).1) i far = (rSplit M.2 i (kBkt (M.2 4 i) (nI uu)) 4 0 (M.2 6 (4 * i)), 8) := by
                        unfold rGx
                        by_cases h11 : M.2 11 i = 0
                        · first | (simp [h11]; done) | exact absurd h11 (by assumption)
                        · have hl9 := hlate h11
                          first | exact absurd (by assumption) h11 | (rw [if_neg h11, if_neg hl9]; simp [era, erh, c_7, c_9, c_38, c_39, c_41, c_42])
                      exact W.iret (v := rSplit M.2 i (kBkt (M.2 4 i) (nI uu)) 4 0 (M.2 6 (4 * i))) hx hb hr (fun t ht hW => ⟨⟨rSplit M.2 i (kBkt (M.2 4 i) (nI uu)) 4 0 (M.2 6 (4 * i)), mS (mS M 28 ρ) 28 8, rfl, ⟨by rw [hG], by rw [hG]; simp only [mS_s]⟩, by rw [ht]; exact hP, va_K.moved hW.alike hK, hD⟩, hS.F ht⟩) hS.2.2 dX6_getsNow_309
                    · replace c_42 : ¬ (ru i ≤ 0) := fun h9 => c_42 ((nI_leI (a := ru i) (b := 0) (by omega) (by omega)).mpr h9)
                      refine lv_iload hx hb dX6_getsNow_278 (lv_at hl 0 rfl) ?_
                      refine lv_iconst (v := (-1)) hx hb dX6_getsNow_280 (by decide) ?_
                      refine lv_icmp_ne (tgt := 290) hx hb dX6_getsNow_281 (by decide) (fun c_45 => absurd c_45 (by decide)) (fun _ => ?_)
                      refine lv_aload_n hx hb dX6_getsNow_284 rfl (lv_at hl 8 rfl) ?_
                      refine lv_bipush (v := 7) hx hb dX6_getsNow_285 (by decide) ?_
                      refine km_puti hx hb htT hown hK hP hD hS 28 (by decide) rfl (htT _ m_fl_X6_165) rfl (by decide +kernel) dX6_getsNow_287 (fun H locs hP hD hS => ?_)
                      refine lv_aload_n hx hb dX6_getsNow_290 rfl (lv_at hl 8 rfl) ?_
                      refine km_getiv (x := 7) hx hb htT hown hK hP 28 (by decide) rfl (htT _ m_fl_X6_165) rfl dX6_getsNow_291 ?_
                      refine lv_bipush (v := 8) hx hb dX6_getsNow_294 (by decide) ?_
                      refine lv_icmp_ne (tgt := 308) hx hb dX6_getsNow_296 (by decide) (fun _ => ?_) (fun c_46 => absurd c_46 (by decide))
                      refine lv_iconst (v := 0) hx hb dX6_getsNow_308 (by decide) ?_
                      have hlate2 : ¬ M.2 11 i = 0 → ¬ (¬ M.2 15 i = -1 ∧ ¬ (rG M.2 (M.1 2) (M.2 11) (fun k => rFar M.2 k (M.1 1)) (nI uu) f g na ru d (M.2 15 i).toNatClampNeg).1 = M.2 16 i) := hlate
                      have hG : rGx M.2 (M.1 2) (M.2 11) (nI uu) f g na (ru i) (fun j => (rG M.2 (M.1 2) (M.2 11) (fun k => rFar M.2 k (M.1 1)) (nI uu) f g na ru d j).1) i far = (0, 7) := by
                        unfold rGx
                        by_cases h11 : M.2 11 i = 0
                        · first | (simp [h11]; done) | exact absurd h11 (by assumption)
                        · have hl9 := hlate h11
                          first | exact absurd (by assumption) h11 | (rw [if_neg h11, if_neg hl9]; simp [era, erh, c_7, c_9, c_38, c_39, c_41, c_42])
                      exact W.iret (v := 0) hx hb hr (fun t ht hW => ⟨⟨0, mS (mS (mS M 28 ρ) 28 8) 28 7, rfl, ⟨by rw [hG], by rw [hG]; simp only [mS_s]⟩, by rw [ht]; exact hP, va_K.moved hW.alike hK, hD⟩, hS.F ht⟩) hS.2.2 dX6_getsNow_309
                  · refine lv_aload_n hx hb dX6_getsNow_260 rfl (lv_at hl 8 rfl) ?_
                    refine lv_bipush (v := 6) hx hb dX6_getsNow_261 (by decide) ?_
                    refine km_puti hx hb htT hown hK hP hD hS 28 (by decide) rfl (htT _ m_fl_X6_165) rfl (by decide +kernel) dX6_getsNow_263 (fun H locs hP hD hS => ?_)
                    refine lv_goto (tgt := 290) hx hb dX6_getsNow_266 (by decide) ?_
                    refine lv_aload_n hx hb dX6_getsNow_290 rfl (lv_at hl 8 rfl) ?_
                    refine km_getiv (x := 6) hx hb htT hown hK hP 28 (by decide) rfl (htT _ m_fl_X6_165) rfl dX6_getsNow_291 ?_
                    refine lv_bipush (v := 8) hx hb dX6_getsNow_294 (by decide) ?_
                    refine lv_icmp_ne (tgt := 308) hx hb dX6_getsNow_296 (by decide) (fun _ => ?_) (fun c_47 => absurd c_47 (by decide))
                    refine lv_iconst (v := 0) hx hb dX6_getsNow_308 (by decide) ?_
                    have hlate2 : ¬ M.2 11 i = 0 → ¬ (¬ M.2 15 i = -1 ∧ ¬ (rG M.2 (M.1 2) (M.2 11) (fun k => rFar M.2 k (M.1 1)) (nI uu) f g na ru d (M.2 15 i).toNatClampNeg).1 = M.2 16 i) := hlate
                    have hG : rGx M.2 (M.1 2) (M.2 11) (nI uu) f g na (ru i) (fun j => (rG M.2 (M.1 2) (M.2 11) (fun k => rFar M.2 k (M.1 1)) (nI uu) f g na ru d j).1) i far = (0, 6) := by
                      unfold rGx
                      by_cases h11 : M.2 11 i = 0
                      · first | (simp [h11]; done) | exact absurd h11 (by assumption)
                      · have hl9 := hlate h11
                        first | exact absurd (by assumption) h11 | (rw [if_neg h11, if_neg hl9]; simp [era, erh, c_7, c_9, c_38, c_39, c_41])
                    exact W.iret (v := 0) hx hb hr (fun t ht hW => ⟨⟨0, mS (mS (mS M 28 ρ) 28 8) 28 6, rfl, ⟨by rw [hG], by rw [hG]; simp only [mS_s]⟩, by rw [ht]; exact hP, va_K.moved hW.alike hK, hD⟩, hS.F ht⟩) hS.2.2 dX6_getsNow_309
                · refine lv_sipush (v := 500) hx hb dX6_getsNow_201 (by decide) ?_
                  refine lv_aload_n hx hb dX6_getsNow_204 rfl (lv_at hl 8 rfl) ?_
                  refine km_getr hx hb htT hown hK hP 12 (by decide) rfl (htT _ m_fl_X6_35) dX6_getsNow_205 ?_
                  refine lv_iload_n hx hb dX6_getsNow_208 rfl (lv_at hl 7 rfl) ?_
                  refine km_ialdv (x := (M.2 12) i) hx hb hK hP 12 rfl rfl (show vp_in (nI (i)) 8 from ki_in (by omega) (by decide)) (congrArg _ (ki_cl (by omega))) dX6_getsNow_209 ?_
                  refine lv_iadd hx hb dX6_getsNow_210 ?_
                  refine lv_iload_n hx hb dX6_getsNow_211 rfl (lv_at hl 6 rfl) ?_
                  refine kc_i (va_runS (As := [.int (500 + ((M.2 12) i)), .int (nI uu)]) (rest := []) ⟨hx, hb, hml, hown, htT⟩ (m_bucketOf l D cA _ am r (mS (mS M 28 ρ) 28 8) (500 + ((M.2 12) i)) (nI uu)) (cwS 2 htT (kg_S m_ml_X6_148 m_st_X6_bucketOf m_in_X6 m_cd_X6_bucketOf) rfl rfl rfl (by decide +kernel) ⟨(show 0 + 1 ≤ 2 * d + 2 by omega), (show 8 + (3 + 11) + (0) ≤ 120 * d + 60 by omega)⟩) (kp_S hK hP hD hTB) rfl rfl hl.1 rfl (lv_room (Nat.le_of_ble_eq_true rfl)) dX6_getsNow_212 ⟨Nat.le_of_ble_eq_true rfl, Nat.le_of_ble_eq_true rfl⟩) hD hS hA (fun r_48 x_48 H locs hq_48 hP hD hS => ?_)
                  rw [hq_48.1]
                  rw [hq_48.2] at hP hD
                  refine lv_aload_n hx hb dX6_getsNow_215 rfl (lv_at hl 8 rfl) ?_
                  refine km_getr hx hb htT hown hK hP 13 (by decide) rfl (htT _ m_fl_X6_38) dX6_getsNow_216 ?_
                  refine lv_iload_n hx hb dX6_getsNow_219 rfl (lv_at hl 7 rfl) ?_
                  refine km_ialdv (x := (M.2 13) i) hx hb hK hP 13 rfl rfl (show vp_in (nI (i)) 8 from ki_in (by omega) (by decide)) (congrArg _ (ki_cl (by omega))) dX6_getsNow_220 ?_
                  refine lv_aload_n hx hb dX6_getsNow_221 rfl (lv_at hl 8 rfl) ?_
                  refine km_getr hx hb htT hown hK hP 14 (by decide) rfl (htT _ m_fl_X6_41) dX6_getsNow_222 ?_
                  refine lv_iload_n hx hb dX6_getsNow_225 rfl (lv_at hl 7 rfl) ?_
                  refine km_ialdv (x := (M.2 14) i) hx hb hK hP 14 rfl rfl (show vp_in (nI (i)) 8 from ki_in (by omega) (by decide)) (congrArg _ (ki_cl (by omega))) dX6_getsNow_226 ?_
                  refine lv_iconst (v := 1) hx hb dX6_getsNow_227 (by decide) ?_
                  refine lv_isub hx hb dX6_getsNow_228 ?_
                  refine kc_i (va_runS (As := [.int (kBkt (500 + ((M.2 12) i)) (nI uu)), .int ((M.2 13) i), .int (((M.2 14) i) - 1)]) (rest := []) ⟨hx, hb, hml, hown, htT⟩ (m_isIn l D cA _ am r (mS (mS M 28 ρ) 28 8) (kBkt (500 + ((M.2 12) i)) (nI uu)) ((M.2 13) i) (((M.2 14) i) - 1)) (cwS 3 htT (kg_S m_ml_X6_87 m_st_X6_isIn m_in_X6 m_cd_X6_isIn) rfl rfl rfl (by decide +kernel) ⟨(show 0 + 1 ≤ 2 * d + 2 by omega), (show 8 + (3 + 11) + (0) ≤ 120 * d + 60 by omega)⟩) (kp_S hK hP hD hTB) rfl rfl hl.1 rfl (lv_room (Nat.le_of_ble_eq_true rfl)) dX6_getsNow_229 ⟨Nat.le_of_ble_eq_true rfl, Nat.le_of_ble_eq_true rfl⟩) hD hS hA (fun r_49 x_49 H locs hq_49 hP hD hS => ?_)
                  rw [hq_49.1]
                  rw [hq_49.2] at hP hD
                  refine lv_if_ne (tgt := 243) hx hb dX6_getsNow_232 (by decide) (fun c_50 => ?_) (fun c_50 => ?_)
                  · refine lv_aload_n hx hb dX6_getsNow_243 rfl (lv_at hl 8 rfl) ?_
                    refine km_getr hx hb htT hown hK hP 4 (by decide) rfl (htT _ m_fl_X6_9) dX6_getsNow_244 ?_
                    refine lv_iload_n hx hb dX6_getsNow_247 rfl (lv_at hl 7 rfl) ?_
                    refine km_ialdv (x := (M.2 4) i) hx hb hK hP 4 rfl rfl (show vp_in (nI (i)) 8 from ki_in (by omega) (by decide)) (congrArg _ (ki_cl (by omega))) dX6_getsNow_248 ?_
                    refine lv_iconst (v := 1) hx hb dX6_getsNow_249 (by decide) ?_
                    refine lv_iadd hx hb dX6_getsNow_250 ?_
                    refine lv_iload_n hx hb dX6_getsNow_251 rfl (lv_at hl 6 rfl) ?_
                    refine kc_i (va_runS (As := [.int (((M.2 4) i) + 1), .int (nI uu)]) (rest := []) ⟨hx, hb, hml, hown, htT⟩ (m_bucketOf l D cA _ am r (mS (mS M 28 ρ) 28 8) (((M.2 4) i) + 1) (nI uu)) (cwS 2 htT (kg_S m_ml_X6_148 m_st_X6_bucketOf m_in_X6 m_cd_X6_bucketOf) rfl rfl rfl (by decide +kernel) ⟨(show 0 + 1 ≤ 2 * d + 2 by omega), (show 8 + (3 + 11) + (0) ≤ 120 * d + 60 by omega)⟩) (kp_S hK hP hD hTB) rfl rfl hl.1 rfl (lv_room (Nat.le_of_ble_eq_true rfl)) dX6_getsNow_252 ⟨Nat.le_of_ble_eq_true rfl, Nat.le_of_ble_eq_true rfl⟩) hD hS hA (fun r_51 x_51 H locs hq_51 hP hD hS => ?_)
                    rw [hq_51.1]
                    rw [hq_51.2] at hP hD
                    refine lv_iload hx hb dX6_getsNow_255 (lv_at hl 3 rfl) ?_
                    refine lv_icmp_lt (tgt := 269) hx hb dX6_getsNow_257 (by decide) (fun c_52 => ?_) (fun c_52 => ?_)
                    · refine lv_aload_n hx hb dX6_getsNow_269 rfl (lv_at hl 8 rfl) ?_
                      refine km_getr hx hb htT hown hK hP 17 (by decide) rfl (htT _ m_fl_X6_50) dX6_getsNow_270 ?_
                      refine lv_iload_n hx hb dX6_getsNow_273 rfl (lv_at hl 7 rfl) ?_
                      refine km_ialdv (x := nI (ru i)) hx hb hK hP 17 rfl rfl (show vp_in (nI (i)) 8 from ki_in (by omega) (by decide)) ((congrArg _ (ki_cl (by omega))).trans (hsw i hi).2.1) dX6_getsNow_274 ?_
                      refine lv_if_le (tgt := 290) hx hb dX6_getsNow_275 (by decide) (fun c_53 => ?_) (fun c_53 => ?_)
                      · replace c_53 := (nI_leI (a := ru i) (b := 0) (by omega) (by omega)).mp c_53
                        refine lv_aload_n hx hb dX6_getsNow_290 rfl (lv_at hl 8 rfl) ?_
                        refine km_getiv (x := 8) hx hb htT hown hK hP 28 (by decide) rfl (htT _ m_fl_X6_165) rfl dX6_getsNow_291 ?_
                        refine lv_bipush (v := 8) hx hb dX6_getsNow_294 (by decide) ?_
                        refine lv_icmp_ne (tgt := 308) hx hb dX6_getsNow_296 (by decide) (fun c_54 => absurd c_54 (by decide)) (fun _ => ?_)
                        refine lv_aload_n hx hb dX6_getsNow_299 rfl (lv_at hl 8 rfl) ?_
                        refine lv_iload_n hx hb dX6_getsNow_300 rfl (lv_at hl 7 rfl) ?_
                        refine lv_iload_n hx hb dX6_getsNow_301 rfl (lv_at hl 6 rfl) ?_
                        obtain ⟨sa, hsa, h4⟩ := (hsw i hi).2.2.2.1
                        refine kc_i (va_runV (As := [.int (nI i), .int (nI uu)]) (rest := []) ⟨hx, hb, hml, hown, htT⟩ (m_split l D cA _ am r (mS (mS M 28 ρ) 28 8) i (by omega) sa uu hsa huu h4 (hsw i hi).2.2.2.2) (cwV 2 htT (kg_V m_ml_X6_168 m_im_X6_split m_sl_X6_split m_in_X6 m_cd_X6_split) rfl rfl rfl (by decide +kernel) ⟨(show 1 + 1 ≤ 2 * d + 2 by omega), (show 8 + (6 + 11) + (22) ≤ 120 * d + 60 by omega)⟩) (kp_V hK hP hD hTB (km_rc hK hP)) rfl rfl hl.1 rfl (lv_room (Nat.le_of_ble_eq_true rfl)) dX6_getsNow_302 ⟨Nat.le_of_ble_eq_true rfl, Nat.le_of_ble_eq_true rfl⟩) hD hS hA (fun r_55 x_55 H locs hq_55 hP hD hS => ?_)
                        rw [hq_55.1]
                        rw [hq_55.2] at hP hD
                        refine lv_goto (tgt := 309) hx hb dX6_getsNow_305 (by decide) ?_
                        have hlate2 : ¬ M.2 11 i = 0 → ¬ (¬ M.2 15 i = -1 ∧ ¬ (rG M.2 (M.1 2) (M.2 11) (fun k => rFar M.2 k (M.1 1)) (nI uu) f g na ru d (M.2 15 i).toNatClampNeg).1 = M.2 16 i) := hlate
                        have hG : rGx M.2 (M.1 2) (M.2 11) (nI uu) f g na (ru i) (fun j => (rG M.2 (M.1 2) (M.2 11) (fun k => rFar M.2 k (M.1 1)) (nI uu) f g na ru d j).1) i far = (rSplit M.2 i (kBkt (M.2 4 i) (nI uu)) 4 0 (M.2 6 (4 * i)), 8) := by
                          unfold rGx
                          by_cases h11 : M.2 11 i = 0
                          · first | (simp [h11]; done) | exact absurd h11 (by assumption)
                          · have hl9 := hlate h11
                            first | exact absurd (by assumption) h11 | (rw [if_neg h11, if_neg hl9]; simp [era, erh, c_7, c_9, c_38, c_39, c_50, c_52, c_53])
                        exact W.iret (v := rSplit M.2 i (kBkt (M.2 4 i) (nI uu)) 4 0 (M.2 6 (4 * i))) hx hb hr (fun t ht hW => ⟨⟨rSplit M.2 i (kBkt (M.2 4 i) (nI uu)) 4 0 (M.2 6 (4 * i)), mS (mS M 28 ρ) 28 8, rfl, ⟨by rw [hG], by rw [hG]; simp only [mS_s]⟩, by rw [ht]; exact hP, va_K.moved hW.alike hK, hD⟩, hS.F ht⟩) hS.2.2 dX6_getsNow_309
                      · replace c_53 : ¬ (ru i ≤ 0) := fun h9 => c_53 ((nI_leI (a := ru i) (b := 0) (by omega) (by omega)).mpr h9)
                        refine lv_iload hx hb dX6_getsNow_278 (lv_at hl 0 rfl) ?_
                        refine lv_iconst (v := (-1)) hx hb dX6_getsNow_280 (by decide) ?_
                        refine lv_icmp_ne (tgt := 290) hx hb dX6_getsNow_281 (by decide) (fun c_56 => absurd c_56 (by decide)) (fun _ => ?_)
                        refine lv_aload_n hx hb dX6_getsNow_284 rfl (lv_at hl 8 rfl) ?_
                        refine lv_bipush (v := 7) hx hb dX6_getsNow_285 (by decide) ?_
                        refine km_puti hx hb htT hown hK hP hD hS 28 (by decide) rfl (htT _ m_fl_X6_165) rfl (by decide +kernel) dX6_getsNow_287 (fun H locs hP hD hS => ?_)
                        refine lv_aload_n hx hb dX6_getsNow_290 rfl (lv_at hl 8 rfl) ?_
                        refine km_getiv (x := 7) hx hb htT hown hK hP 28 (by decide) rfl (htT _ m_fl_X6_165) rfl dX6_getsNow_291 ?_
                        refine lv_bipush (v := 8) hx hb dX6_getsNow_294 (by decide) ?_
                        refine lv_icmp_ne (tgt := 308) hx hb dX6_getsNow_296 (by decide) (fun _ => ?_) (fun c_57 => absurd c_57 (by decide))
                        refine lv_iconst (v := 0) hx hb dX6_getsNow_308 (by decide) ?_
                        have hlate2 : ¬ M.2 11 i = 0 → ¬ (¬ M.2 15 i = -1 ∧ ¬ (rG M.2 (M.1 2) (M.2 11) (fun k => rFar M.2 k (M.1 1)) (nI uu) f g na ru d (M.2 15 i).toNatClampNeg).1 = M.2 16 i) := hlate
                        have hG : rGx M.2 (M.1 2) (M.2 11) (nI uu) f g na (ru i) (fun j => (rG M.2 (M.1 2) (M.2 11) (fun k => rFar M.2 k (M.1 1)) (nI uu) f g na ru d j).1) i far = (0, 7) := by
                          unfold rGx
                          by_cases h11 : M.2 11 i = 0
                          · first | (simp [h11]; done) | exact absurd h11 (by assumption)
                          · have hl9 := hlate h11
                            first | exact absurd (by assumption) h11 | (rw [if_neg h11, if_neg hl9]; simp [era, erh, c_7, c_9, c_38, c_39, c_50, c_52, c_53])
                        exact W.iret (v := 0) hx hb hr (fun t ht hW => ⟨⟨0, mS (mS (mS M 28 ρ) 28 8) 28 7, rfl, ⟨by rw [hG], by rw [hG]; simp only [mS_s]⟩, by rw [ht]; exact hP, va_K.moved hW.alike hK, hD⟩, hS.F ht⟩) hS.2.2 dX6_getsNow_309
                    · refine lv_aload_n hx hb dX6_getsNow_260 rfl (lv_at hl 8 rfl) ?_
                      refine lv_bipush (v := 6) hx hb dX6_getsNow_261 (by decide) ?_
                      refine km_puti hx hb htT hown hK hP hD hS 28 (by decide) rfl (htT _ m_fl_X6_165) rfl (by decide +kernel) dX6_getsNow_263 (fun H locs hP hD hS => ?_)
                      refine lv_goto (tgt := 290) hx hb dX6_getsNow_266 (by decide) ?_
                      refine lv_aload_n hx hb dX6_getsNow_290 rfl (lv_at hl 8 rfl) ?_
                      refine km_getiv (x := 6) hx hb htT hown hK hP 28 (by decide) rfl (htT _ m_fl_X6_165) rfl dX6_getsNow_291 ?_
                      refine lv_bipush (v := 8) hx hb dX6_getsNow_294 (by decide) ?_
                      refine lv_icmp_ne (tgt := 308) hx hb dX6_getsNow_296 (by decide) (fun _ => ?_) (fun c_58 => absurd c_58 (by decide))
                      refine lv_iconst (v := 0) hx hb dX6_getsNow_308 (by decide) ?_
                      have hlate2 : ¬ M.2 11 i = 0 → ¬ (¬ M.2 15 i = -1 ∧ ¬ (rG M.2 (M.1 2) (M.2 11) (fun k => rFar M.2 k (M.1 1)) (nI uu) f g na ru d (M.2 15 i).toNatClampNeg).1 = M.2 16 i) := hlate
                      have hG : rGx M.2 (M.1 2) (M.2 11) (nI uu) f g na (ru i) (fun j => (rG M.2 (M.1 2) (M.2 11) (fun k => rFar M.2 k (M.1 1)) (nI uu) f g na ru d j).1) i far = (0, 6) := by
                        unfold rGx
                        by_cases h11 : M.2 11 i = 0
                        · first | (simp [h11]; done) | exact absurd h11 (by assumption)
                        · have hl9 := hlate h11
                          first | exact absurd (by assumption) h11 | (rw [if_neg h11, if_neg hl9]; simp [era, erh, c_7, c_9, c_38, c_39, c_50, c_52])
                      exact W.iret (v := 0) hx hb hr (fun t ht hW => ⟨⟨0, mS (mS (mS M 28 ρ) 28 8) 28 6, rfl, ⟨by rw [hG], by rw [hG]; simp only [mS_s]⟩, by rw [ht]; exact hP, va_K.moved hW.alike hK, hD⟩, hS.F ht⟩) hS.2.2 dX6_getsNow_309
                  · refine lv_aload_n hx hb dX6_getsNow_235 rfl (lv_at hl 8 rfl) ?_
                    refine lv_iconst (v := 5) hx hb dX6_getsNow_236 (by decide) ?_
                    refine km_puti hx hb htT hown hK hP hD hS 28 (by decide) rfl (htT _ m_fl_X6_165) rfl (by decide +kernel) dX6_getsNow_237 (fun H locs hP hD hS => ?_)
                    refine lv_goto (tgt := 290) hx hb dX6_getsNow_240 (by decide) ?_
                    refine lv_aload_n hx hb dX6_getsNow_290 rfl (lv_at hl 8 rfl) ?_
                    refine km_getiv (x := 5) hx hb htT hown hK hP 28 (by decide) rfl (htT _ m_fl_X6_165) rfl dX6_getsNow_291 ?_
                    refine lv_bipush (v := 8) hx hb dX6_getsNow_294 (by decide) ?_
                    refine lv_icmp_ne (tgt := 308) hx hb dX6_getsNow_296 (by decide) (fun _ => ?_) (fun c_59 => absurd c_59 (by decide))
                    refine lv_iconst (v := 0) hx hb dX6_getsNow_308 (by decide) ?_
                    have hlate2 : ¬ M.2 11 i = 0 → ¬ (¬ M.2 15 i = -1 ∧ ¬ (rG M.2 (M.1 2) (M.2 11) (fun k => rFar M.2 k (M.1 1)) (nI uu) f g na ru d (M.2 15 i).toNatClampNeg).1 = M.2 16 i) := hlate
                    have hG : rGx M.2 (M.1 2) (M.2 11) (nI uu) f g na (ru i) (fun j => (rG M.2 (M.1 2) (M.2 11) (fun k => rFar M.2 k (M.1 1)) (nI uu) f g na ru d j).1) i far = (0, 5) := by
                      unfold rGx
                      by_cases h11 : M.2 11 i = 0
                      · first | (simp [h11]; done) | exact absurd h11 (by assumption)
                      · have hl9 := hlate h11
                        first | exact absurd (by assumption) h11 | (rw [if_neg h11, if_neg hl9]; simp [era, erh, c_7, c_9, c_38, c_39, c_50])
                    exact W.iret (v := 0) hx hb hr (fun t ht hW => ⟨⟨0, mS (mS (mS M 28 ρ) 28 8) 28 5, rfl, ⟨by rw [hG], by rw [hG]; simp only [mS_s]⟩, by rw [ht]; exact hP, va_K.moved hW.alike hK, hD⟩, hS.F ht⟩) hS.2.2 dX6_getsNow_309
              · replace c_38 := Int32.not_le.mp c_38
                refine lv_aload_n hx hb dX6_getsNow_183 rfl (lv_at hl 8 rfl) ?_
                refine lv_iconst (v := 4) hx hb dX6_getsNow_184 (by decide) ?_
                refine km_puti hx hb htT hown hK hP hD hS 28 (by decide) rfl (htT _ m_fl_X6_165) rfl (by decide +kernel) dX6_getsNow_185 (fun H locs hP hD hS => ?_)
                refine lv_goto (tgt := 290) hx hb dX6_getsNow_188 (by decide) ?_
                refine lv_aload_n hx hb dX6_getsNow_290 rfl (lv_at hl 8 rfl) ?_
                refine km_getiv (x := 4) hx hb htT hown hK hP 28 (by decide) rfl (htT _ m_fl_X6_165) rfl dX6_getsNow_291 ?_
                refine lv_bipush (v := 8) hx hb dX6_getsNow_294 (by decide) ?_
                refine lv_icmp_ne (tgt := 308) hx hb dX6_getsNow_296 (by decide) (fun _ => ?_) (fun c_60 => absurd c_60 (by decide))
                refine lv_iconst (v := 0) hx hb dX6_getsNow_308 (by decide) ?_
                have hlate2 : ¬ M.2 11 i = 0 → ¬ (¬ M.2 15 i = -1 ∧ ¬ (rG M.2 (M.1 2) (M.2 11) (fun k => rFar M.2 k (M.1 1)) (nI uu) f g na ru d (M.2 15 i).toNatClampNeg).1 = M.2 16 i) := hlate
                have hG : rGx M.2 (M.1 2) (M.2 11) (nI uu) f g na (ru i) (fun j => (rG M.2 (M.1 2) (M.2 11) (fun k => rFar M.2 k (M.1 1)) (nI uu) f g na ru d j).1) i far = (0, 4) := by
                  unfold rGx
                  by_cases h11 : M.2 11 i = 0
                  · first | (simp [h11]; done) | exact absurd h11 (by assumption)
                  · have hl9 := hlate h11
                    first | exact absurd (by assumption) h11 | (rw [if_neg h11, if_neg hl9]; simp [era, erh, c_7, c_9, c_38])
                exact W.iret (v := 0) hx hb hr (fun t ht hW => ⟨⟨0, mS (mS (mS M 28 ρ) 28 8) 28 4, rfl, ⟨by rw [hG], by rw [hG]; simp only [mS_s]⟩, by rw [ht]; exact hP, va_K.moved hW.alike hK, hD⟩, hS.F ht⟩) hS.2.2 dX6_getsNow_309
          · refine lv_aload_n hx hb dX6_getsNow_82 rfl (lv_at hl 8 rfl) ?_
            refine lv_iconst (v := 0) hx hb dX6_getsNow_83 (by decide) ?_
            refine km_puti hx hb htT hown hK hP hD hS 28 (by decide) rfl (htT _ m_fl_X6_165) rfl (by decide +kernel) dX6_getsNow_84 (fun H locs hP hD hS => ?_)
            refine lv_goto (tgt := 290) hx hb dX6_getsNow_87 (by decide) ?_
            refine lv_aload_n hx hb dX6_getsNow_290 rfl (lv_at hl 8 rfl) ?_
            refine km_getiv (x := 0) hx hb htT hown hK hP 28 (by decide) rfl (htT _ m_fl_X6_165) rfl dX6_getsNow_291 ?_
            refine lv_bipush (v := 8) hx hb dX6_getsNow_294 (by decide) ?_
            refine lv_icmp_ne (tgt := 308) hx hb dX6_getsNow_296 (by decide) (fun _ => ?_) (fun c_61 => absurd c_61 (by decide))
            refine lv_iconst (v := 0) hx hb dX6_getsNow_308 (by decide) ?_
            have hlate2 : ¬ M.2 11 i = 0 → ¬ (¬ M.2 15 i = -1 ∧ ¬ (rG M.2 (M.1 2) (M.2 11) (fun k => rFar M.2 k (M.1 1)) (nI uu) f g na ru d (M.2 15 i).toNatClampNeg).1 = M.2 16 i) := hlate
            have hG : rGx M.2 (M.1 2) (M.2 11) (nI uu) f g na (ru i) (fun j => (rG M.2 (M.1 2) (M.2 11) (fun k => rFar M.2 k (M.1 1)) (nI uu) f g na ru d j).1) i far = (0, 0) := by
              unfold rGx
              by_cases h11 : M.2 11 i = 0
              · first | (simp [h11]; done) | exact absurd h11 (by assumption)
              · have hl9 := hlate h11
                first | exact absurd (by assumption) h11 | (rw [if_neg h11, if_neg hl9]; simp [era, erh, c_7])
            exact W.iret (v := 0) hx hb hr (fun t ht hW => ⟨⟨0, mS (mS (mS M 28 ρ) 28 8) 28 0, rfl, ⟨by rw [hG], by rw [hG]; simp only [mS_s]⟩, by rw [ht]; exact hP, va_K.moved hW.alike hK, hD⟩, hS.F ht⟩) hS.2.2 dX6_getsNow_309
        · rw [hq_6.1.trans erh]
          have hru5 := (hsw i hi).1
          refine lv_istore (lv' := [(8, .int (nI kh)), (7, .int (-1)), (6, .int 0), (5, .int far), (4, .int g), (3, .int f), (2, .int (nI uu)), (1, .int (nI i)), (0, .ref am)]) hx hb dX6_getsNow_65 hl (by decide) rfl (fun ls hl => ?_)
          refine lv_aload_n hx hb dX6_getsNow_67 rfl (lv_at hl 8 rfl) ?_
          refine lv_bipush (v := 8) hx hb dX6_getsNow_68 (by decide) ?_
          refine km_puti hx hb htT hown hK hP hD hS 28 (by decide) rfl (htT _ m_fl_X6_165) rfl (by decide +kernel) dX6_getsNow_70 (fun H locs hP hD hS => ?_)
          refine lv_aload_n hx hb dX6_getsNow_73 rfl (lv_at hl 8 rfl) ?_
          refine km_getr hx hb htT hown hK hP 11 (by decide) rfl (htT _ m_fl_X6_32) dX6_getsNow_74 ?_
          refine lv_iload_n hx hb dX6_getsNow_77 rfl (lv_at hl 7 rfl) ?_
          refine km_zaldv (x := (M.2 11) i) hx hb hK hP 11 rfl rfl (show vp_in (nI (i)) 8 from ki_in (by omega) (by decide)) (congrArg _ (ki_cl (by omega))) dX6_getsNow_78 ?_
          refine lv_if_ne (tgt := 90) hx hb dX6_getsNow_79 (by decide) (fun c_62 => ?_) (fun c_62 => ?_)
          · refine lv_iload hx hb dX6_getsNow_90 (lv_at hl 2 rfl) ?_
            refine lv_if_eq (tgt := 103) hx hb dX6_getsNow_92 (by decide) (fun _ => ?_) (fun c_63 => absurd c_63 (by decide))
            refine lv_aload_n hx hb dX6_getsNow_103 rfl (lv_at hl 8 rfl) ?_
            refine km_getr hx hb htT hown hK hP 10 (by decide) rfl (htT _ m_fl_X6_28) dX6_getsNow_104 ?_
            refine lv_iload_n hx hb dX6_getsNow_107 rfl (lv_at hl 7 rfl) ?_
            refine km_zaldv (x := (M.2 10) i) hx hb hK hP 10 rfl rfl (show vp_in (nI (i)) 8 from ki_in (by omega) (by decide)) (congrArg _ (ki_cl (by omega))) dX6_getsNow_108 ?_
            refine lv_if_eq (tgt := 131) hx hb dX6_getsNow_109 (by decide) (fun c_64 => ?_) (fun c_64 => ?_)
            · refine lv_iload hx hb dX6_getsNow_131 (lv_at hl 0 rfl) ?_
              refine lv_iconst (v := (-1)) hx hb dX6_getsNow_133 (by decide) ?_
              refine lv_icmp_eq (tgt := 169) hx hb dX6_getsNow_134 (by decide) (fun c_65 => ?_) (fun c_65 => ?_)
              · exact absurd c_65 (nI_m1 (by omega))
              · refine lv_aload_n hx hb dX6_getsNow_137 rfl (lv_at hl 8 rfl) ?_
                refine km_getr hx hb htT hown hK hP 21 (by decide) rfl (htT _ m_fl_X6_62) dX6_getsNow_138 ?_
                refine lv_iload_n hx hb dX6_getsNow_141 rfl (lv_at hl 7 rfl) ?_
                refine lv_iconst (v := 5) hx hb dX6_getsNow_142 (by decide) ?_
                refine lv_imul hx hb dX6_getsNow_143 ?_
                rw [show ((nI i) * 5 : Int32) = nI (5 * i) from (pk_mul i 5).trans (congrArg nI (by omega))]
                refine lv_iload hx hb dX6_getsNow_144 (lv_at hl 0 rfl) ?_
                refine lv_iadd hx hb dX6_getsNow_146 ?_
                rw [show ((nI (5 * i)) + (nI kh) : Int32) = nI (5 * i + kh) from (nI_add (5 * i) kh).trans (congrArg nI (by omega))]
                refine km_ialdv (x := (M.2 21) (5 * i + kh)) hx hb hK hP 21 rfl rfl (show vp_in (nI (5 * i + kh)) 40 from ki_in (by omega) (by decide)) (congrArg _ (ki_cl (by omega))) dX6_getsNow_147 ?_
                refine lv_iconst (v := (-1)) hx hb dX6_getsNow_148 (by decide) ?_
                refine lv_icmp_eq (tgt := 169) hx hb dX6_getsNow_149 (by decide) (fun c_66 => ?_) (fun c_66 => ?_)
                · refine lv_sipush (v := 999) hx hb dX6_getsNow_169 (by decide) ?_
                  refine lv_iload_n hx hb dX6_getsNow_172 rfl (lv_at hl 6 rfl) ?_
                  refine kc_i (va_runS (As := [.int 999, .int (nI uu)]) (rest := []) ⟨hx, hb, hml, hown, htT⟩ (m_bucketOf l D cA _ am r (mS (mS M 28 ρ) 28 8) 999 (nI uu)) (cwS 2 htT (kg_S m_ml_X6_148 m_st_X6_bucketOf m_in_X6 m_cd_X6_bucketOf) rfl rfl rfl (by decide +kernel) ⟨(show 0 + 1 ≤ 2 * d + 2 by omega), (show 8 + (3 + 11) + (0) ≤ 120 * d + 60 by omega)⟩) (kp_S hK hP hD hTB) rfl rfl hl.1 rfl (lv_room (Nat.le_of_ble_eq_true rfl)) dX6_getsNow_173 ⟨Nat.le_of_ble_eq_true rfl, Nat.le_of_ble_eq_true rfl⟩) hD hS hA (fun r_67 x_67 H locs hq_67 hP hD hS => ?_)
                  rw [hq_67.1]
                  rw [hq_67.2] at hP hD
                  refine lv_aload_n hx hb dX6_getsNow_176 rfl (lv_at hl 8 rfl) ?_
                  refine km_getiv (x := M.1 2) hx hb htT hown hK hP 2 (by decide) rfl (htT _ m_fl_X6_136) rfl dX6_getsNow_177 ?_
                  refine lv_icmp_ge (tgt := 191) hx hb dX6_getsNow_180 (by decide) (fun c_68 => ?_) (fun c_68 => ?_)
                  · replace c_68 := Int32.not_lt.mpr c_68
                    refine lv_aload_n hx hb dX6_getsNow_191 rfl (lv_at hl 8 rfl) ?_
                    refine km_getr hx hb htT hown hK hP 12 (by decide) rfl (htT _ m_fl_X6_35) dX6_getsNow_192 ?_
                    refine lv_iload_n hx hb dX6_getsNow_195 rfl (lv_at hl 7 rfl) ?_
                    refine km_ialdv (x := (M.2 12) i) hx hb hK hP 12 rfl rfl (show vp_in (nI (i)) 8 from ki_in (by omega) (by decide)) (congrArg _ (ki_cl (by omega))) dX6_getsNow_196 ?_
                    refine lv_iconst (v := (-1)) hx hb dX6_getsNow_197 (by decide) ?_
                    refine lv_icmp_eq (tgt := 243) hx hb dX6_getsNow_198 (by decide) (fun c_69 => ?_) (fun c_69 => ?_)
                    · refine lv_aload_n hx hb dX6_getsNow_243 rfl (lv_at hl 8 rfl) ?_
                      refine km_getr hx hb htT hown hK hP 4 (by decide) rfl (htT _ m_fl_X6_9) dX6_getsNow_244 ?_
                      refine lv_iload_n hx hb dX6_getsNow_247 rfl (lv_at hl 7 rfl) ?_
                      refine km_ialdv (x := (M.2 4) i) hx hb hK hP 4 rfl rfl (show vp_in (nI (i)) 8 from ki_in (by omega) (by decide)) (congrArg _ (ki_cl (by omega))) dX6_getsNow_248 ?_
                      refine lv_iconst (v := 1) hx hb dX6_getsNow_249 (by decide) ?_
                      refine lv_iadd hx hb dX6_getsNow_250 ?_
                      refine lv_iload_n hx hb dX6_getsNow_251 rfl (lv_at hl 6 rfl) ?_
                      refine kc_i (va_runS (As := [.int (((M.2 4) i) + 1), .int (nI uu)]) (rest := []) ⟨hx, hb, hml, hown, htT⟩ (m_bucketOf l D cA _ am r (mS (mS M 28 ρ) 28 8) (((M.2 4) i) + 1) (nI uu)) (cwS 2 htT (kg_S m_ml_X6_148 m_st_X6_bucketOf m_in_X6 m_cd_X6_bucketOf) rfl rfl rfl (by decide +kernel) ⟨(show 0 + 1 ≤ 2 * d + 2 by omega), (show 8 + (3 + 11) + (0) ≤ 120 * d + 60 by omega)⟩) (kp_S hK hP hD hTB) rfl rfl hl.1 rfl (lv_room (Nat.le_of_ble_eq_true rfl)) dX6_getsNow_252 ⟨Nat.le_of_ble_eq_true rfl, Nat.le_of_ble_eq_true rfl⟩) hD hS hA (fun r_70 x_70 H locs hq_70 hP hD hS => ?_)
                      rw [hq_70.1]
                      rw [hq_70.2] at hP hD
                      refine lv_iload hx hb dX6_getsNow_255 (lv_at hl 3 rfl) ?_
                      refine lv_icmp_lt (tgt := 269) hx hb dX6_getsNow_257 (by decide) (fun c_71 => ?_) (fun c_71 => ?_)
                      · refine lv_aload_n hx hb dX6_getsNow_269 rfl (lv_at hl 8 rfl) ?_
                        refine km_getr hx hb htT hown hK hP 17 (by decide) rfl (htT _ m_fl_X6_50) dX6_getsNow_270 ?_
                        refine lv_iload_n hx hb dX6_getsNow_273 rfl (lv_at hl 7 rfl) ?_
                        refine km_ialdv (x := nI (ru i)) hx hb hK hP 17 rfl rfl (show vp_in (nI (i)) 8 from ki_in (by omega) (by decide)) ((congrArg _ (ki_cl (by omega))).trans (hsw i hi).2.1) dX6_getsNow_274 ?_
                        refine lv_if_le (tgt := 290) hx hb dX6_getsNow_275 (by decide) (fun c_72 => ?_) (fun c_72 => ?_)
                        · replace c_72 := (nI_leI (a := ru i) (b := 0) (by omega) (by omega)).mp c_72
                          refine lv_aload_n hx hb dX6_getsNow_290 rfl (lv_at hl 8 rfl) ?_
                          refine km_getiv (x := 8) hx hb htT hown hK hP 28 (by decide) rfl (htT _ m_fl_X6_165) rfl dX6_getsNow_291 ?_
                          refine lv_bipush (v := 8) hx hb dX6_getsNow_294 (by decide) ?_
                          refine lv_icmp_ne (tgt := 308) hx hb dX6_getsNow_296 (by decide) (fun c_73 => absurd c_73 (by decide)) (fun _ => ?_)
                          refine lv_aload_n hx hb dX6_getsNow_299 rfl (lv_at hl 8 rfl) ?_
                          refine lv_iload_n hx hb dX6_getsNow_300 rfl (lv_at hl 7 rfl) ?_
                          refine lv_iload_n hx hb dX6_getsNow_301 rfl (lv_at hl 6 rfl) ?_
                          obtain ⟨sa, hsa, h4⟩ := (hsw i hi).2.2.2.1
                          refine kc_i (va_runV (As := [.int (nI i), .int (nI uu)]) (rest := []) ⟨hx, hb, hml, hown, htT⟩ (m_split l D cA _ am r (mS (mS M 28 ρ) 28 8) i (by omega) sa uu hsa huu h4 (hsw i hi).2.2.2.2) (cwV 2 htT (kg_V m_ml_X6_168 m_im_X6_split m_sl_X6_split m_in_X6 m_cd_X6_split) rfl rfl rfl (by decide +kernel) ⟨(show 1 + 1 ≤ 2 * d + 2 by omega), (show 8 + (6 + 11) + (22) ≤ 120 * d + 60 by omega)⟩) (kp_V hK hP hD hTB (km_rc hK hP)) rfl rfl hl.1 rfl (lv_room (Nat.le_of_ble_eq_true rfl)) dX6_getsNow_302 ⟨Nat.le_of_ble_eq_true rfl, Nat.le_of_ble_eq_true rfl⟩) hD hS hA (fun r_74 x_74 H locs hq_74 hP hD hS => ?_)
                          rw [hq_74.1]
                          rw [hq_74.2] at hP hD
                          refine lv_goto (tgt := 309) hx hb dX6_getsNow_305 (by decide) ?_
                          have hlate2 : ¬ M.2 11 i = 0 → ¬ (¬ M.2 15 i = -1 ∧ ¬ (rG M.2 (M.1 2) (M.2 11) (fun k => rFar M.2 k (M.1 1)) (nI uu) f g na ru d (M.2 15 i).toNatClampNeg).1 = M.2 16 i) := hlate
                          have hG : rGx M.2 (M.1 2) (M.2 11) (nI uu) f g na (ru i) (fun j => (rG M.2 (M.1 2) (M.2 11) (fun k => rFar M.2 k (M.1 1)) (nI uu) f g na ru d j).1) i far = (rSplit M.2 i (kBkt (M.2 4 i) (nI uu)) 4 0 (M.2 6 (4 * i)), 8) := by
                            unfold rGx
                            by_cases h11 : M.2 11 i = 0
                            · first | (simp [h11]; done) | exact absurd h11 (by assumption)
                            · have hl9 := hlate h11
                              first | exact absurd (by assumption) h11 | (rw [if_neg h11, if_neg hl9]; simp [era, erh, c_62, c_64, c_66, c_68, c_69, c_71, c_72, nI_m1 (a := kh) (by omega), ki_cl (n := kh) (by omega)])
                          exact W.iret (v := rSplit M.2 i (kBkt (M.2 4 i) (nI uu)) 4 0 (M.2 6 (4 * i))) hx hb hr (fun t ht hW => ⟨⟨rSplit M.2 i (kBkt (M.2 4 i) (nI uu)) 4 0 (M.2 6 (4 * i)), mS (mS M 28 ρ) 28 8, rfl, ⟨by rw [hG], by rw [hG]; simp only [mS_s]⟩, by rw [ht]; exact hP, va_K.moved hW.alike hK, hD⟩, hS.F ht⟩) hS.2.2 dX6_getsNow_309
                        · replace c_72 : ¬ (ru i ≤ 0) := fun h9 => c_72 ((nI_leI (a := ru i) (b := 0) (by omega) (by omega)).mpr h9)
                          refine lv_iload hx hb dX6_getsNow_278 (lv_at hl 0 rfl) ?_
                          refine lv_iconst (v := (-1)) hx hb dX6_getsNow_280 (by decide) ?_
                          refine lv_icmp_ne (tgt := 290) hx hb dX6_getsNow_281 (by decide) (fun c_75 => ?_) (fun c_75 => ?_)
                          · refine lv_aload_n hx hb dX6_getsNow_290 rfl (lv_at hl 8 rfl) ?_
                            refine km_getiv (x := 8) hx hb htT hown hK hP 28 (by decide) rfl (htT _ m_fl_X6_165) rfl dX6_getsNow_291 ?_
                            refine lv_bipush (v := 8) hx hb dX6_getsNow_294 (by decide) ?_
                            refine lv_icmp_ne (tgt := 308) hx hb dX6_getsNow_296 (by decide) (fun c_76 => absurd c_76 (by decide)) (fun _ => ?_)
                            refine lv_aload_n hx hb dX6_getsNow_299 rfl (lv_at hl 8 rfl) ?_
                            refine lv_iload_n hx hb dX6_getsNow_300 rfl (lv_at hl 7 rfl) ?_
                            refine lv_iload_n hx hb dX6_getsNow_301 rfl (lv_at hl 6 rfl) ?_
                            obtain ⟨sa, hsa, h4⟩ := (hsw i hi).2.2.2.1
                            refine kc_i (va_runV (As := [.int (nI i), .int (nI uu)]) (rest := []) ⟨hx, hb, hml, hown, htT⟩ (m_split l D cA _ am r (mS (mS M 28 ρ) 28 8) i (by omega) sa uu hsa huu h4 (hsw i hi).2.2.2.2) (cwV 2 htT (kg_V m_ml_X6_168 m_im_X6_split m_sl_X6_split m_in_X6 m_cd_X6_split) rfl rfl rfl (by decide +kernel) ⟨(show 1 + 1 ≤ 2 * d + 2 by omega), (show 8 + (6 + 11) + (22) ≤ 120 * d + 60 by omega)⟩) (kp_V hK hP hD hTB (km_rc hK hP)) rfl rfl hl.1 rfl (lv_room (Nat.le_of_ble_eq_true rfl)) dX6_getsNow_302 ⟨Nat.le_of_ble_eq_true rfl, Nat.le_of_ble_eq_true rfl⟩) hD hS hA (fun r_77 x_77 H locs hq_77 hP hD hS => ?_)
                            rw [hq_77.1]
                            rw [hq_77.2] at hP hD
                            refine lv_goto (tgt := 309) hx hb dX6_getsNow_305 (by decide) ?_
                            have hlate2 : ¬ M.2 11 i = 0 → ¬ (¬ M.2 15 i = -1 ∧ ¬ (rG M.2 (M.1 2) (M.2 11) (fun k => rFar M.2 k (M.1 1)) (nI uu) f g na ru d (M.2 15 i).toNatClampNeg).1 = M.2 16 i) := hlate
                            have hG : rGx M.2 (M.1 2) (M.2 11) (nI uu) f g na (ru i) (fun j => (rG M.2 (M.1 2) (M.2 11) (fun k => rFar M.2 k (M.1 1)) (nI uu) f g na ru d j).1) i far = (rSplit M.2 i (kBkt (M.2 4 i) (nI uu)) 4 0 (M.2 6 (4 * i)), 8) := by
                              unfold rGx
                              by_cases h11 : M.2 11 i = 0
                              · first | (simp [h11]; done) | exact absurd h11 (by assumption)
                              · have hl9 := hlate h11
                                first | exact absurd (by assumption) h11 | (rw [if_neg h11, if_neg hl9]; simp [era, erh, c_62, c_64, c_66, c_68, c_69, c_71, c_72, nI_m1 (a := kh) (by omega), ki_cl (n := kh) (by omega)])
                            exact W.iret (v := rSplit M.2 i (kBkt (M.2 4 i) (nI uu)) 4 0 (M.2 6 (4 * i))) hx hb hr (fun t ht hW => ⟨⟨rSplit M.2 i (kBkt (M.2 4 i) (nI uu)) 4 0 (M.2 6 (4 * i)), mS (mS M 28 ρ) 28 8, rfl, ⟨by rw [hG], by rw [hG]; simp only [mS_s]⟩, by rw [ht]; exact hP, va_K.moved hW.alike hK, hD⟩, hS.F ht⟩) hS.2.2 dX6_getsNow_309
                          · exact absurd c_75 (nI_m1 (by omega))
                      · refine lv_aload_n hx hb dX6_getsNow_260 rfl (lv_at hl 8 rfl) ?_
                        refine lv_bipush (v := 6) hx hb dX6_getsNow_261 (by decide) ?_
                        refine km_puti hx hb htT hown hK hP hD hS 28 (by decide) rfl (htT _ m_fl_X6_165) rfl (by decide +kernel) dX6_getsNow_263 (fun H locs hP hD hS => ?_)
                        refine lv_goto (tgt := 290) hx hb dX6_getsNow_266 (by decide) ?_
                        refine lv_aload_n hx hb dX6_getsNow_290 rfl (lv_at hl 8 rfl) ?_
                        refine km_getiv (x := 6) hx hb htT hown hK hP 28 (by decide) rfl (htT _ m_fl_X6_165) rfl dX6_getsNow_291 ?_
                        refine lv_bipush (v := 8) hx hb dX6_getsNow_294 (by decide) ?_
                        refine lv_icmp_ne (tgt := 308) hx hb dX6_getsNow_296 (by decide) (fun _ => ?_) (fun c_78 => absurd c_78 (by decide))
                        refine lv_iconst (v := 0) hx hb dX6_getsNow_308 (by decide) ?_
                        have hlate2 : ¬ M.2 11 i = 0 → ¬ (¬ M.2 15 i = -1 ∧ ¬ (rG M.2 (M.1 2) (M.2 11) (fun k => rFar M.2 k (M.1 1)) (nI uu) f g na ru d (M.2 15 i).toNatClampNeg).1 = M.2 16 i) := hlate
                        have hG : rGx M.2 (M.1 2) (M.2 11) (nI uu) f g na (ru i) (fun j => (rG M.2 (M.1 2) (M.2 11) (fun k => rFar M.2 k (M.1 1)) (nI uu) f g na ru d j).1) i far = (0, 6) := by
                          unfold rGx
                          by_cases h11 : M.2 11 i = 0
                          · first | (simp [h11]; done) | exact absurd h11 (by assumption)
                          · have hl9 := hlate h11
                            first | exact absurd (by assumption) h11 | (rw [if_neg h11, if_neg hl9]; simp [era, erh, c_62, c_64, c_66, c_68, c_69, c_71, nI_m1 (a := kh) (by omega), ki_cl (n := kh) (by omega)])
                        exact W.iret (v := 0) hx hb hr (fun t ht hW => ⟨⟨0, mS (mS (mS M 28 ρ) 28 8) 28 6, rfl, ⟨by rw [hG], by rw [hG]; simp only [mS_s]⟩, by rw [ht]; exact hP, va_K.moved hW.alike hK, hD⟩, hS.F ht⟩) hS.2.2 dX6_getsNow_309
                    · refine lv_sipush (v := 500) hx hb dX6_getsNow_201 (by decide) ?_
                      refine lv_aload_n hx hb dX6_getsNow_204 rfl (lv_at hl 8 rfl) ?_
                      refine km_getr hx hb htT hown hK hP 12 (by decide) rfl (htT _ m_fl_X6_35) dX6_getsNow_205 ?_
                      refine lv_iload_n hx hb dX6_getsNow_208 rfl (lv_at hl 7 rfl) ?_
                      refine km_ialdv (x := (M.2 12) i) hx hb hK hP 12 rfl rfl (show vp_in (nI (i)) 8 from ki_in (by omega) (by decide)) (congrArg _ (ki_cl (by omega))) dX6_getsNow_209 ?_
                      refine lv_iadd hx hb dX6_getsNow_210 ?_
                      refine lv_iload_n hx hb dX6_getsNow_211 rfl (lv_at hl 6 rfl) ?_
                      refine kc_i (va_runS (As := [.int (500 + ((M.2 12) i)), .int (nI uu)]) (rest := []) ⟨hx, hb, hml, hown, htT⟩ (m_bucketOf l D cA _ am r (mS (mS M 28 ρ) 28 8) (500 + ((M.2 12) i)) (nI uu)) (cwS 2 htT (kg_S m_ml_X6_148 m_st_X6_bucketOf m_in_X6 m_cd_X6_bucketOf) rfl rfl rfl (by decide +kernel) ⟨(show 0 + 1 ≤ 2 * d + 2 by omega), (show 8 + (3 + 11) + (0) ≤ 120 * d + 60 by omega)⟩) (kp_S hK hP hD hTB) rfl rfl hl.1 rfl (lv_room (Nat.le_of_ble_eq_true rfl)) dX6_getsNow_212 ⟨Nat.le_of_ble_eq_true rfl, Nat.le_of_ble_eq_true rfl⟩) hD hS hA (fun r_79 x_79 H locs hq_79 hP hD hS => ?_)
                      rw [hq_79.1]
                      rw [hq_79.2] at hP hD
                      refine lv_aload_n hx hb dX6_getsNow_215 rfl (lv_at hl 8 rfl) ?_
                      refine km_getr hx hb htT hown hK hP 13 (by decide) rfl (htT _ m_fl_X6_38) dX6_getsNow_216 ?_
                      refine lv_iload_n hx hb dX6_getsNow_219 rfl (lv_at hl 7 rfl) ?_
                      refine km_ialdv (x := (M.2 13) i) hx hb hK hP 13 rfl rfl (show vp_in (nI (i)) 8 from ki_in (by omega) (by decide)) (congrArg _ (ki_cl (by omega))) dX6_getsNow_220 ?_
                      refine lv_aload_n hx hb dX6_getsNow_221 rfl (lv_at hl 8 rfl) ?_
                      refine km_getr hx hb htT hown hK hP 14 (by decide) rfl (htT _ m_fl_X6_41) dX6_getsNow_222 ?_
                      refine lv_iload_n hx hb dX6_getsNow_225 rfl (lv_at hl 7 rfl) ?_
                      refine km_ialdv (x := (M.2 14) i) hx hb hK hP 14 rfl rfl (show vp_in (nI (i)) 8 from ki_in (by omega) (by decide)) (congrArg _ (ki_cl (by omega))) dX6_getsNow_226 ?_
                      refine lv_iconst (v := 1) hx hb dX6_getsNow_227 (by decide) ?_
                      refine lv_isub hx hb dX6_getsNow_228 ?_
                      refine kc_i (va_runS (As := [.int (kBkt (500 + ((M.2 12) i)) (nI uu)), .int ((M.2 13) i), .int (((M.2 14) i) - 1)]) (rest := []) ⟨hx, hb, hml, hown, htT⟩ (m_isIn l D cA _ am r (mS (mS M 28 ρ) 28 8) (kBkt (500 + ((M.2 12) i)) (nI uu)) ((M.2 13) i) (((M.2 14) i) - 1)) (cwS 3 htT (kg_S m_ml_X6_87 m_st_X6_isIn m_in_X6 m_cd_X6_isIn) rfl rfl rfl (by decide +kernel) ⟨(show 0 + 1 ≤ 2 * d + 2 by omega), (show 8 + (3 + 11) + (0) ≤ 120 * d + 60 by omega)⟩) (kp_S hK hP hD hTB) rfl rfl hl.1 rfl (lv_room (Nat.le_of_ble_eq_true rfl)) dX6_getsNow_229 ⟨Nat.le_of_ble_eq_true rfl, Nat.le_of_ble_eq_true rfl⟩) hD hS hA (fun r_80 x_80 H locs hq_80 hP hD hS => ?_)
                      rw [hq_80.1]
                      rw [hq_80.2] at hP hD
                      refine lv_if_ne (tgt := 243) hx hb dX6_getsNow_232 (by decide) (fun c_81 => ?_) (fun c_81 => ?_)
                      · refine lv_aload_n hx hb dX6_getsNow_243 rfl (lv_at hl 8 rfl) ?_
                        refine km_getr hx hb htT hown hK hP 4 (by decide) rfl (htT _ m_fl_X6_9) dX6_getsNow_244 ?_
                        refine lv_iload_n hx hb dX6_getsNow_247 rfl (lv_at hl 7 rfl) ?_
                        refine km_ialdv (x := (M.2 4) i) hx hb hK hP 4 rfl rfl (show vp_in (nI (i)) 8 from ki_in (by omega) (by decide)) (congrArg _ (ki_cl (by omega))) dX6_getsNow_248 ?_
                        refine lv_iconst (v := 1) hx hb dX6_getsNow_249 (by decide) ?_
                        refine lv_iadd hx hb dX6_getsNow_250 ?_
                        refine lv_iload_n hx hb dX6_getsNow_251 rfl (lv_at hl 6 rfl) ?_
                        refine kc_i (va_runS (As := [.int (((M.2 4) i) + 1), .int (nI uu)]) (rest := []) ⟨hx, hb, hml, hown, htT⟩ (m_bucketOf l D cA _ am r (mS (mS M 28 ρ) 28 8) (((M.2 4) i) + 1) (nI uu)) (cwS 2 htT (kg_S m_ml_X6_148 m_st_X6_bucketOf m_in_X6 m_cd_X6_bucketOf) rfl rfl rfl (by decide +kernel) ⟨(show 0 + 1 ≤ 2 * d + 2 by omega), (show 8 + (3 + 11) + (0) ≤ 120 * d + 60 by omega)⟩) (kp_S hK hP hD hTB) rfl rfl hl.1 rfl (lv_room (Nat.le_of_ble_eq_true rfl)) dX6_getsNow_252 ⟨Nat.le_of_ble_eq_true rfl, Nat.le_of_ble_eq_true rfl⟩) hD hS hA (fun r_82 x_82 H locs hq_82 hP hD hS => ?_)
                        rw [hq_82.1]
                        rw [hq_82.2] at hP hD
                        refine lv_iload hx hb dX6_getsNow_255 (lv_at hl 3 rfl) ?_
                        refine lv_icmp_lt (tgt := 269) hx hb dX6_getsNow_257 (by decide) (fun c_83 => ?_) (fun c_83 => ?_)
                        · refine lv_aload_n hx hb dX6_getsNow_269 rfl (lv_at hl 8 rfl) ?_
                          refine km_getr hx hb htT hown hK hP 17 (by decide) rfl (htT _ m_fl_X6_50) dX6_getsNow_270 ?_
                          refine lv_iload_n hx hb dX6_getsNow_273 rfl (lv_at hl 7 rfl) ?_
                          refine km_ialdv (x := nI (ru i)) hx hb hK hP 17 rfl rfl (show vp_in (nI (i)) 8 from ki_in (by omega) (by decide)) ((congrArg _ (ki_cl (by omega))).trans (hsw i hi).2.1) dX6_getsNow_274 ?_
                          refine lv_if_le (tgt := 290) hx hb dX6_getsNow_275 (by decide) (fun c_84 => ?_) (fun c_84 => ?_)
                          · replace c_84 := (nI_leI (a := ru i) (b := 0) (by omega) (by omega)).mp c_84
                            refine lv_aload_n hx hb dX6_getsNow_290 rfl (lv_at hl 8 rfl) ?_
                            refine km_getiv (x := 8) hx hb htT hown hK hP 28 (by decide) rfl (htT _ m_fl_X6_165) rfl dX6_getsNow_291 ?_
                            refine lv_bipush (v := 8) hx hb dX6_getsNow_294 (by decide) ?_
                            refine lv_icmp_ne (tgt := 308) hx hb dX6_getsNow_296 (by decide) (fun c_85 => absurd c_85 (by decide)) (fun _ => ?_)
                            refine lv_aload_n hx hb dX6_getsNow_299 rfl (lv_at hl 8 rfl) ?_
                            refine lv_iload_n hx hb dX6_getsNow_300 rfl (lv_at hl 7 rfl) ?_
                            refine lv_iload_n hx hb dX6_getsNow_301 rfl (lv_at hl 6 rfl) ?_
                            obtain ⟨sa, hsa, h4⟩ := (hsw i hi).2.2.2.1
                            refine kc_i (va_runV (As := [.int (nI i), .int (nI uu)]) (rest := []) ⟨hx, hb, hml, hown, htT⟩ (m_split l D cA _ am r (mS (mS M 28 ρ) 28 8) i (by omega) sa uu hsa huu h4 (hsw i hi).2.2.2.2) (cwV 2 htT (kg_V m_ml_X6_168 m_im_X6_split m_sl_X6_split m_in_X6 m_cd_X6_split) rfl rfl rfl (by decide +kernel) ⟨(show 1 + 1 ≤ 2 * d + 2 by omega), (show 8 + (6 + 11) + (22) ≤ 120 * d + 60 by omega)⟩) (kp_V hK hP hD hTB (km_rc hK hP)) rfl rfl hl.1 rfl (lv_room (Nat.le_of_ble_eq_true rfl)) dX6_getsNow_302 ⟨Nat.le_of_ble_eq_true rfl, Nat.le_of_ble_eq_true rfl⟩) hD hS hA (fun r_86 x_86 H locs hq_86 hP hD hS => ?_)
                            rw [hq_86.1]
                            rw [hq_86.2] at hP hD
                            refine lv_goto (tgt := 309) hx hb dX6_getsNow_305 (by decide) ?_
                            have hlate2 : ¬ M.2 11 i = 0 → ¬ (¬ M.2 15 i = -1 ∧ ¬ (rG M.2 (M.1 2) (M.2 11) (fun k => rFar M.2 k (M.1 1)) (nI uu) f g na ru d (M.2 15 i).toNatClampNeg).1 = M.2 16 i) := hlate
                            have hG : rGx M.2 (M.1 2) (M.2 11) (nI uu) f g na (ru i) (fun j => (rG M.2 (M.1 2) (M.2 11) (fun k => rFar M.2 k (M.1 1)) (nI uu) f g na ru d j).1) i far = (rSplit M.2 i (kBkt (M.2 4 i) (nI uu)) 4 0 (M.2 6 (4 * i)), 8) := by
                              unfold rGx
                              by_cases h11 : M.2 11 i = 0
                              · first | (simp [h11]; done) | exact absurd h11 (by assumption)
                              · have hl9 := hlate h11
                                first | exact absurd (by assumption) h11 | (rw [if_neg h11, if_neg hl9]; simp [era, erh, c_62, c_64, c_66, c_68, c_69, c_81, c_83, c_84, nI_m1 (a := kh) (by omega), ki_cl (n := kh) (by omega)])
                            exact W.iret (v := rSplit M.2 i (kBkt (M.2 4 i) (nI uu)) 4 0 (M.2 6 (4 * i))) hx hb hr (fun t ht hW => ⟨⟨rSplit M.2 i (kBkt (M.2 4 i) (nI uu)) 4 0 (M.2 6 (4 * i)), mS (mS M 28 ρ) 28 8, rfl, ⟨by rw [hG], by rw [hG]; simp only [mS_s]⟩, by rw [ht]; exact hP, va_K.moved hW.alike hK, hD⟩, hS.F ht⟩) hS.2.2 dX6_getsNow_309
                          · replace c_84 : ¬ (ru i ≤ 0) := fun h9 => c_84 ((nI_leI (a := ru i) (b := 0) (by omega) (by omega)).mpr h9)
                            refine lv_iload hx hb dX6_getsNow_278 (lv_at hl 0 rfl) ?_
                            refine lv_iconst (v := (-1)) hx hb dX6_getsNow_280 (by decide) ?_
                            refine lv_icmp_ne (tgt := 290) hx hb dX6_getsNow_281 (by decide) (fun c_87 => ?_) (fun c_87 => ?_)
                            · refine lv_aload_n hx hb dX6_getsNow_290 rfl (lv_at hl 8 rfl) ?_
                              refine km_getiv (x := 8) hx hb htT hown hK hP 28 (by decide) rfl (htT _ m_fl_X6_165) rfl dX6_getsNow_291 ?_
                              refine lv_bipush (v := 8) hx hb dX6_getsNow_294 (by decide) ?_
                              refine lv_icmp_ne (tgt := 308) hx hb dX6_getsNow_296 (by decide) (fun c_88 => absurd c_88 (by decide)) (fun _ => ?_)
                              refine lv_aload_n hx hb dX6_getsNow_299 rfl (lv_at hl 8 rfl) ?_
                              refine lv_iload_n hx hb dX6_getsNow_300 rfl (lv_at hl 7 rfl) ?_
                              refine lv_iload_n hx hb dX6_getsNow_301 rfl (lv_at hl 6 rfl) ?_
                              obtain ⟨sa, hsa, h4⟩ := (hsw i hi).2.2.2.1
                              refine kc_i (va_runV (As := [.int (nI i), .int (nI uu)]) (rest := []) ⟨hx, hb, hml, hown, htT⟩ (m_split l D cA _ am r (mS (mS M 28 ρ) 28 8) i (by omega) sa uu hsa huu h4 (hsw i hi).2.2.2.2) (cwV 2 htT (kg_V m_ml_X6_168 m_im_X6_split m_sl_X6_split m_in_X6 m_cd_X6_split) rfl rfl rfl (by decide +kernel) ⟨(show 1 + 1 ≤ 2 * d + 2 by omega), (show 8 + (6 + 11) + (22) ≤ 120 * d + 60 by omega)⟩) (kp_V hK hP hD hTB (km_rc hK hP)) rfl rfl hl.1 rfl (lv_room (Nat.le_of_ble_eq_true rfl)) dX6_getsNow_302 ⟨Nat.le_of_ble_eq_true rfl, Nat.le_of_ble_eq_true rfl⟩) hD hS hA (fun r_89 x_89 H locs hq_89 hP hD hS => ?_)
                              rw [hq_89.1]
                              rw [hq_89.2] at hP hD
                              refine lv_goto (tgt := 309) hx hb dX6_getsNow_305 (by decide) ?_
                              have hlate2 : ¬ M.2 11 i = 0 → ¬ (¬ M.2 15 i = -1 ∧ ¬ (rG M.2 (M.1 2) (M.2 11) (fun k => rFar M.2 k (M.1 1)) (nI uu) f g na ru d (M.2 15 i).toNatClampNeg).1 = M.2 16 i) := hlate
                              have hG : rGx M.2 (M.1 2) (M.2 11) (nI uu) f g na (ru i) (fun j => (rG M.2 (M.1 2) (M.2 11) (fun k => rFar M.2 k (M.1 1)) (nI uu) f g na ru d j).1) i far = (rSplit M.2 i (kBkt (M.2 4 i) (nI uu)) 4 0 (M.2 6 (4 * i)), 8) := by
                                unfold rGx
                                by_cases h11 : M.2 11 i = 0
                                · first | (simp [h11]; done) | exact absurd h11 (by assumption)
                                · have hl9 := hlate h11
                                  first | exact absurd (by assumption) h11 | (rw [if_neg h11, if_neg hl9]; simp [era, erh, c_62, c_64, c_66, c_68, c_69, c_81, c_83, c_84, nI_m1 (a := kh) (by omega), ki_cl (n := kh) (by omega)])
                              exact W.iret (v := rSplit M.2 i (kBkt (M.2 4 i) (nI uu)) 4 0 (M.2 6 (4 * i))) hx hb hr (fun t ht hW => ⟨⟨rSplit M.2 i (kBkt (M.2 4 i) (nI uu)) 4 0 (M.2 6 (4 * i)), mS (mS M 28 ρ) 28 8, rfl, ⟨by rw [hG], by rw [hG]; simp only [mS_s]⟩, by rw [ht]; exact hP, va_K.moved hW.alike hK, hD⟩, hS.F ht⟩) hS.2.2 dX6_getsNow_309
                            · exact absurd c_87 (nI_m1 (by omega))
                        · refine lv_aload_n hx hb dX6_getsNow_260 rfl (lv_at hl 8 rfl) ?_
                          refine lv_bipush (v := 6) hx hb dX6_getsNow_261 (by decide) ?_
                          refine km_puti hx hb htT hown hK hP hD hS 28 (by decide) rfl (htT _ m_fl_X6_165) rfl (by decide +kernel) dX6_getsNow_263 (fun H locs hP hD hS => ?_)
                          refine lv_goto (tgt := 290) hx hb dX6_getsNow_266 (by decide) ?_
                          refine lv_aload_n hx hb dX6_getsNow_290 rfl (lv_at hl 8 rfl) ?_
                          refine km_getiv (x := 6) hx hb htT hown hK hP 28 (by decide) rfl (htT _ m_fl_X6_165) rfl dX6_getsNow_291 ?_
                          refine lv_bipush (v := 8) hx hb dX6_getsNow_294 (by decide) ?_
                          refine lv_icmp_ne (tgt := 308) hx hb dX6_getsNow_296 (by decide) (fun _ => ?_) (fun c_90 => absurd c_90 (by decide))
                          refine lv_iconst (v := 0) hx hb dX6_getsNow_308 (by decide) ?_
                          have hlate2 : ¬ M.2 11 i = 0 → ¬ (¬ M.2 15 i = -1 ∧ ¬ (rG M.2 (M.1 2) (M.2 11) (fun k => rFar M.2 k (M.1 1)) (nI uu) f g na ru d (M.2 15 i).toNatClampNeg).1 = M.2 16 i) := hlate
                          have hG : rGx M.2 (M.1 2) (M.2 11) (nI uu) f g na (ru i) (fun j => (rG M.2 (M.1 2) (M.2 11) (fun k => rFar M.2 k (M.1 1)) (nI uu) f g na ru d j).1) i far = (0, 6) := by
                            unfold rGx
                            by_cases h11 : M.2 11 i = 0
                            · first | (simp [h11]; done) | exact absurd h11 (by assumption)
                            · have hl9 := hlate h11
                              first | exact absurd (by assumption) h11 | (rw [if_neg h11, if_neg hl9]; simp [era, erh, c_62, c_64, c_66, c_68, c_69, c_81, c_83, nI_m1 (a := kh) (by omega), ki_cl (n := kh) (by omega)])
                          exact W.iret (v := 0) hx hb hr (fun t ht hW => ⟨⟨0, mS (mS (mS M 28 ρ) 28 8) 28 6, rfl, ⟨by rw [hG], by rw [hG]; simp only [mS_s]⟩, by rw [ht]; exact hP, va_K.moved hW.alike hK, hD⟩, hS.F ht⟩) hS.2.2 dX6_getsNow_309
                      · refine lv_aload_n hx hb dX6_getsNow_235 rfl (lv_at hl 8 rfl) ?_
                        refine lv_iconst (v := 5) hx hb dX6_getsNow_236 (by decide) ?_
                        refine km_puti hx hb htT hown hK hP hD hS 28 (by decide) rfl (htT _ m_fl_X6_165) rfl (by decide +kernel) dX6_getsNow_237 (fun H locs hP hD hS => ?_)
                        refine lv_goto (tgt := 290) hx hb dX6_getsNow_240 (by decide) ?_
                        refine lv_aload_n hx hb dX6_getsNow_290 rfl (lv_at hl 8 rfl) ?_
                        refine km_getiv (x := 5) hx hb htT hown hK hP 28 (by decide) rfl (htT _ m_fl_X6_165) rfl dX6_getsNow_291 ?_
                        refine lv_bipush (v := 8) hx hb dX6_getsNow_294 (by decide) ?_
                        refine lv_icmp_ne (tgt := 308) hx hb dX6_getsNow_296 (by decide) (fun _ => ?_) (fun c_91 => absurd c_91 (by decide))
                        refine lv_iconst (v := 0) hx hb dX6_getsNow_308 (by decide) ?_
                        have hlate2 : ¬ M.2 11 i = 0 → ¬ (¬ M.2 15 i = -1 ∧ ¬ (rG M.2 (M.1 2) (M.2 11) (fun k => rFar M.2 k (M.1 1)) (nI uu) f g na ru d (M.2 15 i).toNatClampNeg).1 = M.2 16 i) := hlate
                        have hG : rGx M.2 (M.1 2) (M.2 11) (nI uu) f g na (ru i) (fun j => (rG M.2 (M.1 2) (M.2 11) (fun k => rFar M.2 k (M.1 1)) (nI uu) f g na ru d j).1) i far = (0, 5) := by
                          unfold rGx
                          by_cases h11 : M.2 11 i = 0
                          · first | (simp [h11]; done) | exact absurd h11 (by assumption)
                          · have hl9 := hlate h11
                            first | exact absurd (by assumption) h11 | (rw [if_neg h11, if_neg hl9]; simp [era, erh, c_62, c_64, c_66, c_68, c_69, c_81, nI_m1 (a := kh) (by omega), ki_cl (n := kh) (by omega)])
                        exact W.iret (v := 0) hx hb hr (fun t ht hW => ⟨⟨0, mS (mS (mS M 28 ρ) 28 8) 28 5, rfl, ⟨by rw [hG], by rw [hG]; simp only [mS_s]⟩, by rw [ht]; exact hP, va_K.moved hW.alike hK, hD⟩, hS.F ht⟩) hS.2.2 dX6_getsNow_309
                  · replace c_68 := Int32.not_le.mp c_68
                    refine lv_aload_n hx hb dX6_getsNow_183 rfl (lv_at hl 8 rfl) ?_
                    refine lv_iconst (v := 4) hx hb dX6_getsNow_184 (by decide) ?_
                    refine km_puti hx hb htT hown hK hP hD hS 28 (by decide) rfl (htT _ m_fl_X6_165) rfl (by decide +kernel) dX6_getsNow_185 (fun H locs hP hD hS => ?_)
                    refine lv_goto (tgt := 290) hx hb dX6_getsNow_188 (by decide) ?_
                    refine lv_aload_n hx hb dX6_getsNow_290 rfl (lv_at hl 8 rfl) ?_
                    refine km_getiv (x := 4) hx hb htT hown hK hP 28 (by decide) rfl (htT _ m_fl_X6_165) rfl dX6_getsNow_291 ?_
                    refine lv_bipush (v := 8) hx hb dX6_getsNow_294 (by decide) ?_
                    refine lv_icmp_ne (tgt := 308) hx hb dX6_getsNow_296 (by decide) (fun _ => ?_) (fun c_92 => absurd c_92 (by decide))
                    refine lv_iconst (v := 0) hx hb dX6_getsNow_308 (by decide) ?_
                    have hlate2 : ¬ M.2 11 i = 0 → ¬ (¬ M.2 15 i = -1 ∧ ¬ (rG M.2 (M.1 2) (M.2 11) (fun k => rFar M.2 k (M.1 1)) (nI uu) f g na ru d (M.2 15 i).toNatClampNeg).1 = M.2 16 i) := hlate
                    have hG : rGx M.2 (M.1 2) (M.2 11) (nI uu) f g na (ru i) (fun j => (rG M.2 (M.1 2) (M.2 11) (fun k => rFar M.2 k (M.1 1)) (nI uu) f g na ru d j).1) i far = (0, 4) := by
                      unfold rGx
                      by_cases h11 : M.2 11 i = 0
                      · first | (simp [h11]; done) | exact absurd h11 (by assumption)
                      · have hl9 := hlate h11
                        first | exact absurd (by assumption) h11 | (rw [if_neg h11, if_neg hl9]; simp [era, erh, c_62, c_64, c_66, c_68, nI_m1 (a := kh) (by omega), ki_cl (n := kh) (by omega)])
                    exact W.iret (v := 0) hx hb hr (fun t ht hW => ⟨⟨0, mS (mS (mS M 28 ρ) 28 8) 28 4, rfl, ⟨by rw [hG], by rw [hG]; simp only [mS_s]⟩, by rw [ht]; exact hP, va_K.moved hW.alike hK, hD⟩, hS.F ht⟩) hS.2.2 dX6_getsNow_309
                · refine lv_aload_n hx hb dX6_getsNow_152 rfl (lv_at hl 8 rfl) ?_
                  refine lv_iconst (v := 3) hx hb dX6_getsNow_153 (by decide) ?_
                  refine km_puti hx hb htT hown hK hP hD hS 28 (by decide) rfl (htT _ m_fl_X6_165) rfl (by decide +kernel) dX6_getsNow_154 (fun H locs hP hD hS => ?_)
                  refine lv_aload_n hx hb dX6_getsNow_157 rfl (lv_at hl 8 rfl) ?_
                  refine km_getr hx hb htT hown hK hP 21 (by decide) rfl (htT _ m_fl_X6_62) dX6_getsNow_158 ?_
                  refine lv_iload_n hx hb dX6_getsNow_161 rfl (lv_at hl 7 rfl) ?_
                  refine lv_iconst (v := 5) hx hb dX6_getsNow_162 (by decide) ?_
                  refine lv_imul hx hb dX6_getsNow_163 ?_
                  rw [show ((nI i) * 5 : Int32) = nI (5 * i) from (pk_mul i 5).trans (congrArg nI (by omega))]
                  refine lv_iload hx hb dX6_getsNow_164 (lv_at hl 0 rfl) ?_
                  refine lv_iadd hx hb dX6_getsNow_166 ?_
                  rw [show ((nI (5 * i)) + (nI kh) : Int32) = nI (5 * i + kh) from (nI_add (5 * i) kh).trans (congrArg nI (by omega))]
                  refine km_ialdv (x := (M.2 21) (5 * i + kh)) hx hb hK hP 21 rfl rfl (show vp_in (nI (5 * i + kh)) 40 from ki_in (by omega) (by decide)) (congrArg _ (ki_cl (by omega))) dX6_getsNow_167 ?_
                  have hlate2 : ¬ M.2 11 i = 0 → ¬ (¬ M.2 15 i = -1 ∧ ¬ (rG M.2 (M.1 2) (M.2 11) (fun k => rFar M.2 k (M.1 1)) (nI uu) f g na ru d (M.2 15 i).toNatClampNeg).1 = M.2 16 i) := hlate
                  have hG : rGx M.2 (M.1 2) (M.2 11) (nI uu) f g na (ru i) (fun j => (rG M.2 (M.1 2) (M.2 11) (fun k => rFar M.2 k (M.1 1)) (nI uu) f g na ru d j).1) i far = ((M.2 21) (5 * i + kh), 3) := by
                    unfold rGx
                    by_cases h11 : M.2 11 i = 0
                    · first | (simp [h11]; done) | exact absurd h11 (by assumption)
                    · have hl9 := hlate h11
                      first | exact absurd (by assumption) h11 | (rw [if_neg h11, if_neg hl9]; simp [era, erh, c_62, c_64, c_66, nI_m1 (a := kh) (by omega), ki_cl (n := kh) (by omega)])
                  exact W.iret (v := (M.2 21) (5 * i + kh)) hx hb hr (fun t ht hW => ⟨⟨(M.2 21) (5 * i + kh), mS (mS (mS M 28 ρ) 28 8) 28 3, rfl, ⟨by rw [hG], by rw [hG]; simp only [mS_s]⟩, by rw [ht]; exact hP, va_K.moved hW.alike hK, hD⟩, hS.F ht⟩) hS.2.2 dX6_getsNow_168
            · refine lv_iload hx hb dX6_getsNow_112 (lv_at hl 1 rfl) ?_
              refine lv_iconst (v := (-1)) hx hb dX6_getsNow_114 (by decide) ?_
              refine lv_icmp_eq (tgt := 131) hx hb dX6_getsNow_115 (by decide) (fun _ => ?_) (fun c_93 => absurd c_93 (by decide))
              refine lv_iload hx hb dX6_getsNow_131 (lv_at hl 0 rfl) ?_
              refine lv_iconst (v := (-1)) hx hb dX6_getsNow_133 (by decide) ?_
              refine lv_icmp_eq (tgt := 169) hx hb dX6_getsNow_134 (by decide) (fun c_94 => ?_) (fun c_94 => ?_)
              · exact absurd c_94 (nI_m1 (by omega))
              · refine lv_aload_n hx hb dX6_getsNow_137 rfl (lv_at hl 8 rfl) ?_
                refine km_getr hx hb htT hown hK hP 21 (by decide) rfl (htT _ m_fl_X6_62) dX6_getsNow_138 ?_
                refine lv_iload_n hx hb dX6_getsNow_141 rfl (lv_at hl 7 rfl) ?_
                refine lv_iconst (v := 5) hx hb dX6_getsNow_142 (by decide) ?_
                refine lv_imul hx hb dX6_getsNow_143 ?_
                rw [show ((nI i) * 5 : Int32) = nI (5 * i) from (pk_mul i 5).trans (congrArg nI (by omega))]
                refine lv_iload hx hb dX6_getsNow_144 (lv_at hl 0 rfl) ?_
                refine lv_iadd hx hb dX6_getsNow_146 ?_
                rw [show ((nI (5 * i)) + (nI kh) : Int32) = nI (5 * i + kh) from (nI_add (5 * i) kh).trans (congrArg nI (by omega))]
                refine km_ialdv (x := (M.2 21) (5 * i + kh)) hx hb hK hP 21 rfl rfl (show vp_in (nI (5 * i + kh)) 40 from ki_in (by omega) (by decide)) (congrArg _ (ki_cl (by omega))) dX6_getsNow_147 ?_
                refine lv_iconst (v := (-1)) hx hb dX6_getsNow_148 (by decide) ?_
                refine lv_icmp_eq (tgt := 169) hx hb dX6_getsNow_149 (by decide) (fun c_95 => ?_) (fun c_95 => ?_)
                · refine lv_sipush (v := 999) hx hb dX6_getsNow_169 (by decide) ?_
                  refine lv_iload_n hx hb dX6_getsNow_172 rfl (lv_at hl 6 rfl) ?_
                  refine kc_i (va_runS (As := [.int 999, .int (nI uu)]) (rest := []) ⟨hx, hb, hml, hown, htT⟩ (m_bucketOf l D cA _ am r (mS (mS M 28 ρ) 28 8) 999 (nI uu)) (cwS 2 htT (kg_S m_ml_X6_148 m_st_X6_bucketOf m_in_X6 m_cd_X6_bucketOf) rfl rfl rfl (by decide +kernel) ⟨(show 0 + 1 ≤ 2 * d + 2 by omega), (show 8 + (3 + 11) + (0) ≤ 120 * d + 60 by omega)⟩) (kp_S hK hP hD hTB) rfl rfl hl.1 rfl (lv_room (Nat.le_of_ble_eq_true rfl)) dX6_getsNow_173 ⟨Nat.le_of_ble_eq_true rfl, Nat.le_of_ble_eq_true rfl⟩) hD hS hA (fun r_96 x_96 H locs hq_96 hP hD hS => ?_)
                  rw [hq_96.1]
                  rw [hq_96.2] at hP hD
                  refine lv_aload_n hx hb dX6_getsNow_176 rfl (lv_at hl 8 rfl) ?_
                  refine km_getiv (x := M.1 2) hx hb htT hown hK hP 2 (by decide) rfl (htT _ m_fl_X6_136) rfl dX6_getsNow_177 ?_
                  refine lv_icmp_ge (tgt := 191) hx hb dX6_getsNow_180 (by decide) (fun c_97 => ?_) (fun c_97 => ?_)
                  · replace c_97 := Int32.not_lt.mpr c_97
                    refine lv_aload_n hx hb dX6_getsNow_191 rfl (lv_at hl 8 rfl) ?_
                    refine km_getr hx hb htT hown hK hP 12 (by decide) rfl (htT _ m_fl_X6_35) dX6_getsNow_192 ?_
                    refine lv_iload_n hx hb dX6_getsNow_195 rfl (lv_at hl 7 rfl) ?_
                    refine km_ialdv (x := (M.2 12) i) hx hb hK hP 12 rfl rfl (show vp_in (nI (i)) 8 from ki_in (by omega) (by decide)) (congrArg _ (ki_cl (by omega))) dX6_getsNow_196 ?_
                    refine lv_iconst (v := (-1)) hx hb dX6_getsNow_197 (by decide) ?_
                    refine lv_icmp_eq (tgt := 243) hx hb dX6_getsNow_198 (by decide) (fun c_98 => ?_) (fun c_98 => ?_)
                    · refine lv_aload_n hx hb dX6_getsNow_243 rfl (lv_at hl 8 rfl) ?_
                      refine km_getr hx hb htT hown hK hP 4 (by decide) rfl (htT _ m_fl_X6_9) dX6_getsNow_244 ?_
                      refine lv_iload_n hx hb dX6_getsNow_247 rfl (lv_at hl 7 rfl) ?_
                      refine km_ialdv (x := (M.2 4) i) hx hb hK hP 4 rfl rfl (show vp_in (nI (i)) 8 from ki_in (by omega) (by decide)) (congrArg _ (ki_cl (by omega))) dX6_getsNow_248 ?_
                      refine lv_iconst (v := 1) hx hb dX6_getsNow_249 (by decide) ?_
                      refine lv_iadd hx hb dX6_getsNow_250 ?_
                      refine lv_iload_n hx hb dX6_getsNow_251 rfl (lv_at hl 6 rfl) ?_
                      refine kc_i (va_runS (As := [.int (((M.2 4) i) + 1), .int (nI uu)]) (rest := []) ⟨hx, hb, hml, hown, htT⟩ (m_bucketOf l D cA _ am r (mS (mS M 28 ρ) 28 8) (((M.2 4) i) + 1) (nI uu)) (cwS 2 htT (kg_S m_ml_X6_148 m_st_X6_bucketOf m_in_X6 m_cd_X6_bucketOf) rfl rfl rfl (by decide +kernel) ⟨(show 0 + 1 ≤ 2 * d + 2 by omega), (show 8 + (3 + 11) + (0) ≤ 120 * d + 60 by omega)⟩) (kp_S hK hP hD hTB) rfl rfl hl.1 rfl (lv_room (Nat.le_of_ble_eq_true rfl)) dX6_getsNow_252 ⟨Nat.le_of_ble_eq_true rfl, Nat.le_of_ble_eq_true rfl⟩) hD hS hA (fun r_99 x_99 H locs hq_99 hP hD hS => ?_)
                      rw [hq_99.1]
                      rw [hq_99.2] at hP hD
                      refine lv_iload hx hb dX6_getsNow_255 (lv_at hl 3 rfl) ?_
                      refine lv_icmp_lt (tgt := 269) hx hb dX6_getsNow_257 (by decide) (fun c_100 => ?_) (fun c_100 => ?_)
                      · refine lv_aload_n hx hb dX6_getsNow_269 rfl (lv_at hl 8 rfl) ?_
                        refine km_getr hx hb htT hown hK hP 17 (by decide) rfl (htT _ m_fl_X6_50) dX6_getsNow_270 ?_
                        refine lv_iload_n hx hb dX6_getsNow_273 rfl (lv_at hl 7 rfl) ?_
                        refine km_ialdv (x := nI (ru i)) hx hb hK hP 17 rfl rfl (show vp_in (nI (i)) 8 from ki_in (by omega) (by decide)) ((congrArg _ (ki_cl (by omega))).trans (hsw i hi).2.1) dX6_getsNow_274 ?_
                        refine lv_if_le (tgt := 290) hx hb dX6_getsNow_275 (by decide) (fun c_101 => ?_) (fun c_101 => ?_)
                        · replace c_101 := (nI_leI (a := ru i) (b := 0) (by omega) (by omega)).mp c_101
                          refine lv_aload_n hx hb dX6_getsNow_290 rfl (lv_at hl 8 rfl) ?_
                          refine km_getiv (x := 8) hx hb htT hown hK hP 28 (by decide) rfl (htT _ m_fl_X6_165) rfl dX6_getsNow_291 ?_
                          refine lv_bipush (v := 8) hx hb dX6_getsNow_294 (by decide) ?_
                          refine lv_icmp_ne (tgt := 308) hx hb dX6_getsNow_296 (by decide) (fun c_102 => absurd c_102 (by decide)) (fun _ => ?_)
                          refine lv_aload_n hx hb dX6_getsNow_299 rfl (lv_at hl 8 rfl) ?_
                          refine lv_iload_n hx hb dX6_getsNow_300 rfl (lv_at hl 7 rfl) ?_
                          refine lv_iload_n hx hb dX6_getsNow_301 rfl (lv_at hl 6 rfl) ?_
                          obtain ⟨sa, hsa, h4⟩ := (hsw i hi).2.2.2.1
                          refine kc_i (va_runV (As := [.int (nI i), .int (nI uu)]) (rest := []) ⟨hx, hb, hml, hown, htT⟩ (m_split l D cA _ am r (mS (mS M 28 ρ) 28 8) i (by omega) sa uu hsa huu h4 (hsw i hi).2.2.2.2) (cwV 2 htT (kg_V m_ml_X6_168 m_im_X6_split m_sl_X6_split m_in_X6 m_cd_X6_split) rfl rfl rfl (by decide +kernel) ⟨(show 1 + 1 ≤ 2 * d + 2 by omega), (show 8 + (6 + 11) + (22) ≤ 120 * d + 60 by omega)⟩) (kp_V hK hP hD hTB (km_rc hK hP)) rfl rfl hl.1 rfl (lv_room (Nat.le_of_ble_eq_true rfl)) dX6_getsNow_302 ⟨Nat.le_of_ble_eq_true rfl, Nat.le_of_ble_eq_true rfl⟩) hD hS hA (fun r_103 x_103 H locs hq_103 hP hD hS => ?_)
                          rw [hq_103.1]
                          rw [hq_103.2] at hP hD
                          refine lv_goto (tgt := 309) hx hb dX6_getsNow_305 (by decide) ?_
                          have hlate2 : ¬ M.2 11 i = 0 → ¬ (¬ M.2 15 i = -1 ∧ ¬ (rG M.2 (M.1 2) (M.2 11) (fun k => rFar M.2 k (M.1 1)) (nI uu) f g na ru d (M.2 15 i).toNatClampNeg).1 = M.2 16 i) := hlate
                          have hG : rGx M.2 (M.1 2) (M.2 11) (nI uu) f g na (ru i) (fun j => (rG M.2 (M.1 2) (M.2 11) (fun k => rFar M.2 k (M.1 1)) (nI uu) f g na ru d j).1) i far = (rSplit M.2 i (kBkt (M.2 4 i) (nI uu)) 4 0 (M.2 6 (4 * i)), 8) := by
                            unfold rGx
                            by_cases h11 : M.2 11 i = 0
                            · first | (simp [h11]; done) | exact absurd h11 (by assumption)
                            · have hl9 := hlate h11
                              first | exact absurd (by assumption) h11 | (rw [if_neg h11, if_neg hl9]; simp [era, erh, c_62, c_64, c_95, c_97, c_98, c_100, c_101, nI_m1 (a := kh) (by omega), ki_cl (n := kh) (by omega)])
                          exact W.iret (v := rSplit M.2 i (kBkt (M.2 4 i) (nI uu)) 4 0 (M.2 6 (4 * i))) hx hb hr (fun t ht hW => ⟨⟨rSplit M.2 i (kBkt (M.2 4 i) (nI uu)) 4 0 (M.2 6 (4 * i)), mS (mS M 28 ρ) 28 8, rfl, ⟨by rw [hG], by rw [hG]; simp only [mS_s]⟩, by rw [ht]; exact hP, va_K.moved hW.alike hK, hD⟩, hS.F ht⟩) hS.2.2 dX6_getsNow_309
                        · replace c_101 : ¬ (ru i ≤ 0) := fun h9 => c_101 ((nI_leI (a := ru i) (b := 0) (by omega) (by omega)).mpr h9)
                          refine lv_iload hx hb dX6_getsNow_278 (lv_at hl 0 rfl) ?_
                          refine lv_iconst (v := (-1)) hx hb dX6_getsNow_280 (by decide) ?_
                          refine lv_icmp_ne (tgt := 290) hx hb dX6_getsNow_281 (by decide) (fun c_104 => ?_) (fun c_104 => ?_)
                          · refine lv_aload_n hx hb dX6_getsNow_290 rfl (lv_at hl 8 rfl) ?_
                            refine km_getiv (x := 8) hx hb htT hown hK hP 28 (by decide) rfl (htT _ m_fl_X6_165) rfl dX6_getsNow_291 ?_
                            refine lv_bipush (v := 8) hx hb dX6_getsNow_294 (by decide) ?_
                            refine lv_icmp_ne (tgt := 308) hx hb dX6_getsNow_296 (by decide) (fun c_105 => absurd c_105 (by decide)) (fun _ => ?_)
                            refine lv_aload_n hx hb dX6_getsNow_299 rfl (lv_at hl 8 rfl) ?_
                            refine lv_iload_n hx hb dX6_getsNow_300 rfl (lv_at hl 7 rfl) ?_
                            refine lv_iload_n hx hb dX6_getsNow_301 rfl (lv_at hl 6 rfl) ?_
                            obtain ⟨sa, hsa, h4⟩ := (hsw i hi).2.2.2.1
                            refine kc_i (va_runV (As := [.int (nI i), .int (nI uu)]) (rest := []) ⟨hx, hb, hml, hown, htT⟩ (m_split l D cA _ am r (mS (mS M 28 ρ) 28 8) i (by omega) sa uu hsa huu h4 (hsw i hi).2.2.2.2) (cwV 2 htT (kg_V m_ml_X6_168 m_im_X6_split m_sl_X6_split m_in_X6 m_cd_X6_split) rfl rfl rfl (by decide +kernel) ⟨(show 1 + 1 ≤ 2 * d + 2 by omega), (show 8 + (6 + 11) + (22) ≤ 120 * d + 60 by omega)⟩) (kp_V hK hP hD hTB (km_rc hK hP)) rfl rfl hl.1 rfl (lv_room (Nat.le_of_ble_eq_true rfl)) dX6_getsNow_302 ⟨Nat.le_of_ble_eq_true rfl, Nat.le_of_ble_eq_true rfl⟩) hD hS hA (fun r_106 x_106 H locs hq_106 hP hD hS => ?_)
                            rw [hq_106.1]
                            rw [hq_106.2] at hP hD
                            refine lv_goto (tgt := 309) hx hb dX6_getsNow_305 (by decide) ?_
                            have hlate2 : ¬ M.2 11 i = 0 → ¬ (¬ M.2 15 i = -1 ∧ ¬ (rG M.2 (M.1 2) (M.2 11) (fun k => rFar M.2 k (M.1 1)) (nI uu) f g na ru d (M.2 15 i).toNatClampNeg).1 = M.2 16 i) := hlate
                            have hG : rGx M.2 (M.1 2) (M.2 11) (nI uu) f g na (ru i) (fun j => (rG M.2 (M.1 2) (M.2 11) (fun k => rFar M.2 k (M.1 1)) (nI uu) f g na ru d j).1) i far = (rSplit M.2 i (kBkt (M.2 4 i) (nI uu)) 4 0 (M.2 6 (4 * i)), 8) := by
                              unfold rGx
                              by_cases h11 : M.2 11 i = 0
                              · first | (simp [h11]; done) | exact absurd h11 (by assumption)
                              · have hl9 := hlate h11
                                first | exact absurd (by assumption) h11 | (rw [if_neg h11, if_neg hl9]; simp [era, erh, c_62, c_64, c_95, c_97, c_98, c_100, c_101, nI_m1 (a := kh) (by omega), ki_cl (n := kh) (by omega)])
                            exact W.iret (v := rSplit M.2 i (kBkt (M.2 4 i) (nI uu)) 4 0 (M.2 6 (4 * i))) hx hb hr (fun t ht hW => ⟨⟨rSplit M.2 i (kBkt (M.2 4 i) (nI uu)) 4 0 (M.2 6 (4 * i)), mS (mS M 28 ρ) 28 8, rfl, ⟨by rw [hG], by rw [hG]; simp only [mS_s]⟩, by rw [ht]; exact hP, va_K.moved hW.alike hK, hD⟩, hS.F ht⟩) hS.2.2 dX6_getsNow_309
                          · exact absurd c_104 (nI_m1 (by omega))
                      · refine lv_aload_n hx hb dX6_getsNow_260 rfl (lv_at hl 8 rfl) ?_
                        refine lv_bipush (v := 6) hx hb dX6_getsNow_261 (by decide) ?_
                        refine km_puti hx hb htT hown hK hP hD hS 28 (by decide) rfl (htT _ m_fl_X6_165) rfl (by decide +kernel) dX6_getsNow_263 (fun H locs hP hD hS => ?_)
                        refine lv_goto (tgt := 290) hx hb dX6_getsNow_266 (by decide) ?_
                        refine lv_aload_n hx hb dX6_getsNow_290 rfl (lv_at hl 8 rfl) ?_
                        refine km_getiv (x := 6) hx hb htT hown hK hP 28 (by decide) rfl (htT _ m_fl_X6_165) rfl dX6_getsNow_291 ?_
                        refine lv_bipush (v := 8) hx hb dX6_getsNow_294 (by decide) ?_
                        refine lv_icmp_ne (tgt := 308) hx hb dX6_getsNow_296 (by decide) (fun _ => ?_) (fun c_107 => absurd c_107 (by decide))
                        refine lv_iconst (v := 0) hx hb dX6_getsNow_308 (by decide) ?_
                        have hlate2 : ¬ M.2 11 i = 0 → ¬ (¬ M.2 15 i = -1 ∧ ¬ (rG M.2 (M.1 2) (M.2 11) (fun k => rFar M.2 k (M.1 1)) (nI uu) f g na ru d (M.2 15 i).toNatClampNeg).1 = M.2 16 i) := hlate
                        have hG : rGx M.2 (M.1 2) (M.2 11) (nI uu) f g na (ru i) (fun j => (rG M.2 (M.1 2) (M.2 11) (fun k => rFar M.2 k (M.1 1)) (nI uu) f g na ru d j).1) i far = (0, 6) := by
                          unfold rGx
                          by_cases h11 : M.2 11 i = 0
                          · first | (simp [h11]; done) | exact absurd h11 (by assumption)
                          · have hl9 := hlate h11
                            first | exact absurd (by assumption) h11 | (rw [if_neg h11, if_neg hl9]; simp [era, erh, c_62, c_64, c_95, c_97, c_98, c_100, nI_m1 (a := kh) (by omega), ki_cl (n := kh) (by omega)])
                        exact W.iret (v := 0) hx hb hr (fun t ht hW => ⟨⟨0, mS (mS (mS M 28 ρ) 28 8) 28 6, rfl, ⟨by rw [hG], by rw [hG]; simp only [mS_s]⟩, by rw [ht]; exact hP, va_K.moved hW.alike hK, hD⟩, hS.F ht⟩) hS.2.2 dX6_getsNow_309
                    · refine lv_sipush (v := 500) hx hb dX6_getsNow_201 (by decide) ?_
                      refine lv_aload_n hx hb dX6_getsNow_204 rfl (lv_at hl 8 rfl) ?_
                      refine km_getr hx hb htT hown hK hP 12 (by decide) rfl (htT _ m_fl_X6_35) dX6_getsNow_205 ?_
                      refine lv_iload_n hx hb dX6_getsNow_208 rfl (lv_at hl 7 rfl) ?_
                      refine km_ialdv (x := (M.2 12) i) hx hb hK hP 12 rfl rfl (show vp_in (nI (i)) 8 from ki_in (by omega) (by decide)) (congrArg _ (ki_cl (by omega))) dX6_getsNow_209 ?_
                      refine lv_iadd hx hb dX6_getsNow_210 ?_
                      refine lv_iload_n hx hb dX6_getsNow_211 rfl (lv_at hl 6 rfl) ?_
                      refine kc_i (va_runS (As := [.int (500 + ((M.2 12) i)), .int (nI uu)]) (rest := []) ⟨hx, hb, hml, hown, htT⟩ (m_bucketOf l D cA _ am r (mS (mS M 28 ρ) 28 8) (500 + ((M.2 12) i)) (nI uu)) (cwS 2 htT (kg_S m_ml_X6_148 m_st_X6_bucketOf m_in_X6 m_cd_X6_bucketOf) rfl rfl rfl (by decide +kernel) ⟨(show 0 + 1 ≤ 2 * d + 2 by omega), (show 8 + (3 + 11) + (0) ≤ 120 * d + 60 by omega)⟩) (kp_S hK hP hD hTB) rfl rfl hl.1 rfl (lv_room (Nat.le_of_ble_eq_true rfl)) dX6_getsNow_212 ⟨Nat.le_of_ble_eq_true rfl, Nat.le_of_ble_eq_true rfl⟩) hD hS hA (fun r_108 x_108 H locs hq_108 hP hD hS => ?_)
                      rw [hq_108.1]
                      rw [hq_108.2] at hP hD
                      refine lv_aload_n hx hb dX6_getsNow_215 rfl (lv_at hl 8 rfl) ?_
                      refine km_getr hx hb htT hown hK hP 13 (by decide) rfl (htT _ m_fl_X6_38) dX6_getsNow_216 ?_
                      refine lv_iload_n hx hb dX6_getsNow_219 rfl (lv_at hl 7 rfl) ?_
                      refine km_ialdv (x := (M.2 13) i) hx hb hK hP 13 rfl rfl (show vp_in (nI (i)) 8 from ki_in (by omega) (by decide)) (congrArg _ (ki_cl (by omega))) dX6_getsNow_220 ?_
                      refine lv_aload_n hx hb dX6_getsNow_221 rfl (lv_at hl 8 rfl) ?_
                      refine km_getr hx hb htT hown hK hP 14 (by decide) rfl (htT _ m_fl_X6_41) dX6_getsNow_222 ?_
                      refine lv_iload_n hx hb dX6_getsNow_225 rfl (lv_at hl 7 rfl) ?_
                      refine km_ialdv (x := (M.2 14) i) hx hb hK hP 14 rfl rfl (show vp_in (nI (i)) 8 from ki_in (by omega) (by decide)) (congrArg _ (ki_cl (by omega))) dX6_getsNow_226 ?_
                      refine lv_iconst (v := 1) hx hb dX6_getsNow_227 (by decide) ?_
                      refine lv_isub hx hb dX6_getsNow_228 ?_
                      refine kc_i (va_runS (As := [.int (kBkt (500 + ((M.2 12) i)) (nI uu)), .int ((M.2 13) i), .int (((M.2 14) i) - 1)]) (rest := []) ⟨hx, hb, hml, hown, htT⟩ (m_isIn l D cA _ am r (mS (mS M 28 ρ) 28 8) (kBkt (500 + ((M.2 12) i)) (nI uu)) ((M.2 13) i) (((M.2 14) i) - 1)) (cwS 3 htT (kg_S m_ml_X6_87 m_st_X6_isIn m_in_X6 m_cd_X6_isIn) rfl rfl rfl (by decide +kernel) ⟨(show 0 + 1 ≤ 2 * d + 2 by omega), (show 8 + (3 + 11) + (0) ≤ 120 * d + 60 by omega)⟩) (kp_S hK hP hD hTB) rfl rfl hl.1 rfl (lv_room (Nat.le_of_ble_eq_true rfl)) dX6_getsNow_229 ⟨Nat.le_of_ble_eq_true rfl, Nat.le_of_ble_eq_true rfl⟩) hD hS hA (fun r_109 x_109 H locs hq_109 hP hD hS => ?_)
                      rw [hq_109.1]
                      rw [hq_109.2] at hP hD
                      refine lv_if_ne (tgt := 243) hx hb dX6_getsNow_232 (by decide) (fun c_110 => ?_) (fun c_110 => ?_)
                      · refine lv_aload_n hx hb dX6_getsNow_243 rfl (lv_at hl 8 rfl) ?_
                        refine km_getr hx hb htT hown hK hP 4 (by decide) rfl (htT _ m_fl_X6_9) dX6_getsNow_244 ?_
                        refine lv_iload_n hx hb dX6_getsNow_247 rfl (lv_at hl 7 rfl) ?_
                        refine km_ialdv (x := (M.2 4) i) hx hb hK hP 4 rfl rfl (show vp_in (nI (i)) 8 from ki_in (by omega) (by decide)) (congrArg _ (ki_cl (by omega))) dX6_getsNow_248 ?_
                        refine lv_iconst (v := 1) hx hb dX6_getsNow_249 (by decide) ?_
                        refine lv_iadd hx hb dX6_getsNow_250 ?_
                        refine lv_iload_n hx hb dX6_getsNow_251 rfl (lv_at hl 6 rfl) ?_
                        refine kc_i (va_runS (As := [.int (((M.2 4) i) + 1), .int (nI uu)]) (rest := []) ⟨hx, hb, hml, hown, htT⟩ (m_bucketOf l D cA _ am r (mS (mS M 28 ρ) 28 8) (((M.2 4) i) + 1) (nI uu)) (cwS 2 htT (kg_S m_ml_X6_148 m_st_X6_bucketOf m_in_X6 m_cd_X6_bucketOf) rfl rfl rfl (by decide +kernel) ⟨(show 0 + 1 ≤ 2 * d + 2 by omega), (show 8 + (3 + 11) + (0) ≤ 120 * d + 60 by omega)⟩) (kp_S hK hP hD hTB) rfl rfl hl.1 rfl (lv_room (Nat.le_of_ble_eq_true rfl)) dX6_getsNow_252 ⟨Nat.le_of_ble_eq_true rfl, Nat.le_of_ble_eq_true rfl⟩) hD hS hA (fun r_111 x_111 H locs hq_111 hP hD hS => ?_)
                        rw [hq_111.1]
                        rw [hq_111.2] at hP hD
                        refine lv_iload hx hb dX6_getsNow_255 (lv_at hl 3 rfl) ?_
                        refine lv_icmp_lt (tgt := 269) hx hb dX6_getsNow_257 (by decide) (fun c_112 => ?_) (fun c_112 => ?_)
                        · refine lv_aload_n hx hb dX6_getsNow_269 rfl (lv_at hl 8 rfl) ?_
                          refine km_getr hx hb htT hown hK hP 17 (by decide) rfl (htT _ m_fl_X6_50) dX6_getsNow_270 ?_
                          refine lv_iload_n hx hb dX6_getsNow_273 rfl (lv_at hl 7 rfl) ?_
                          refine km_ialdv (x := nI (ru i)) hx hb hK hP 17 rfl rfl (show vp_in (nI (i)) 8 from ki_in (by omega) (by decide)) ((congrArg _ (ki_cl (by omega))).trans (hsw i hi).2.1) dX6_getsNow_274 ?_
                          refine lv_if_le (tgt := 290) hx hb dX6_getsNow_275 (by decide) (fun c_113 => ?_) (fun c_113 => ?_)
                          · replace c_113 := (nI_leI (a := ru i) (b := 0) (by omega) (by omega)).mp c_113
                            refine lv_aload_n hx hb dX6_getsNow_290 rfl (lv_at hl 8 rfl) ?_
                            refine km_getiv (x := 8) hx hb htT hown hK hP 28 (by decide) rfl (htT _ m_fl_X6_165) rfl dX6_getsNow_291 ?_
                            refine lv_bipush (v := 8) hx hb dX6_getsNow_294 (by decide) ?_
                            refine lv_icmp_ne (tgt := 308) hx hb dX6_getsNow_296 (by decide) (fun c_114 => absurd c_114 (by decide)) (fun _ => ?_)
                            refine lv_aload_n hx hb dX6_getsNow_299 rfl (lv_at hl 8 rfl) ?_
                            refine lv_iload_n hx hb dX6_getsNow_300 rfl (lv_at hl 7 rfl) ?_
                            refine lv_iload_n hx hb dX6_getsNow_301 rfl (lv_at hl 6 rfl) ?_
                            obtain ⟨sa, hsa, h4⟩ := (hsw i hi).2.2.2.1
                            refine kc_i (va_runV (As := [.int (nI i), .int (nI uu)]) (rest := []) ⟨hx, hb, hml, hown, htT⟩ (m_split l D cA _ am r (mS (mS M 28 ρ) 28 8) i (by omega) sa uu hsa huu h4 (hsw i hi).2.2.2.2) (cwV 2 htT (kg_V m_ml_X6_168 m_im_X6_split m_sl_X6_split m_in_X6 m_cd_X6_split) rfl rfl rfl (by decide +kernel) ⟨(show 1 + 1 ≤ 2 * d + 2 by omega), (show 8 + (6 + 11) + (22) ≤ 120 * d + 60 by omega)⟩) (kp_V hK hP hD hTB (km_rc hK hP)) rfl rfl hl.1 rfl (lv_room (Nat.le_of_ble_eq_true rfl)) dX6_getsNow_302 ⟨Nat.le_of_ble_eq_true rfl, Nat.le_of_ble_eq_true rfl⟩) hD hS hA (fun r_115 x_115 H locs hq_115 hP hD hS => ?_)
                            rw [hq_115.1]
                            rw [hq_115.2] at hP hD
                            refine lv_goto (tgt := 309) hx hb dX6_getsNow_305 (by decide) ?_
                            have hlate2 : ¬ M.2 11 i = 0 → ¬ (¬ M.2 15 i = -1 ∧ ¬ (rG M.2 (M.1 2) (M.2 11) (fun k => rFar M.2 k (M.1 1)) (nI uu) f g na ru d (M.2 15 i).toNatClampNeg).1 = M.2 16 i) := hlate
                            have hG : rGx M.2 (M.1 2) (M.2 11) (nI uu) f g na (ru i) (fun j => (rG M.2 (M.1 2) (M.2 11) (fun k => rFar M.2 k (M.1 1)) (nI uu) f g na ru d j).1) i far = (rSplit M.2 i (kBkt (M.2 4 i) (nI uu)) 4 0 (M.2 6 (4 * i)), 8) := by
                              unfold rGx
                              by_cases h11 : M.2 11 i = 0
                              · first | (simp [h11]; done) | exact absurd h11 (by assumption)
                              · have hl9 := hlate h11
                                first | exact absurd (by assumption) h11 | (rw [if_neg h11, if_neg hl9]; simp [era, erh, c_62, c_64, c_95, c_97, c_98, c_110, c_112, c_113, nI_m1 (a := kh) (by omega), ki_cl (n := kh) (by omega)])
                            exact W.iret (v := rSplit M.2 i (kBkt (M.2 4 i) (nI uu)) 4 0 (M.2 6 (4 * i))) hx hb hr (fun t ht hW => ⟨⟨rSplit M.2 i (kBkt (M.2 4 i) (nI uu)) 4 0 (M.2 6 (4 * i)), mS (mS M 28 ρ) 28 8, rfl, ⟨by rw [hG], by rw [hG]; simp only [mS_s]⟩, by rw [ht]; exact hP, va_K.moved hW.alike hK, hD⟩, hS.F ht⟩) hS.2.2 dX6_getsNow_309
                          · replace c_113 : ¬ (ru i ≤ 0) := fun h9 => c_113 ((nI_leI (a := ru i) (b := 0) (by omega) (by omega)).mpr h9)
                            refine lv_iload hx hb dX6_getsNow_278 (lv_at hl 0 rfl) ?_
                            refine lv_iconst (v := (-1)) hx hb dX6_getsNow_280 (by decide) ?_
                            refine lv_icmp_ne (tgt := 290) hx hb dX6_getsNow_281 (by decide) (fun c_116 => ?_) (fun c_116 => ?_)
                            · refine lv_aload_n hx hb dX6_getsNow_290 rfl (lv_at hl 8 rfl) ?_
                              refine km_getiv (x := 8) hx hb htT hown hK hP 28 (by decide) rfl (htT _ m_fl_X6_165) rfl dX6_getsNow_291 ?_
                              refine lv_bipush (v := 8) hx hb dX6_getsNow_294 (by decide) ?_
                              refine lv_icmp_ne (tgt := 308) hx hb dX6_getsNow_296 (by decide) (fun c_117 => absurd c_117 (by decide)) (fun _ => ?_)
                              refine lv_aload_n hx hb dX6_getsNow_299 rfl (lv_at hl 8 rfl) ?_
                              refine lv_iload_n hx hb dX6_getsNow_300 rfl (lv_at hl 7 rfl) ?_
                              refine lv_iload_n hx hb dX6_getsNow_301 rfl (lv_at hl 6 rfl) ?_
                              obtain ⟨sa, hsa, h4⟩ := (hsw i hi).2.2.2.1
                              refine kc_i (va_runV (As := [.int (nI i), .int (nI uu)]) (rest := []) ⟨hx, hb, hml, hown, htT⟩ (m_split l D cA _ am r (mS (mS M 28 ρ) 28 8) i (by omega) sa uu hsa huu h4 (hsw i hi).2.2.2.2) (cwV 2 htT (kg_V m_ml_X6_168 m_im_X6_split m_sl_X6_split m_in_X6 m_cd_X6_split) rfl rfl rfl (by decide +kernel) ⟨(show 1 + 1 ≤ 2 * d + 2 by omega), (show 8 + (6 + 11) + (22) ≤ 120 * d + 60 by omega)⟩) (kp_V hK hP hD hTB (km_rc hK hP)) rfl rfl hl.1 rfl (lv_room (Nat.le_of_ble_eq_true rfl)) dX6_getsNow_302 ⟨Nat.le_of_ble_eq_true rfl, Nat.le_of_ble_eq_true rfl⟩) hD hS hA (fun r_118 x_118 H locs hq_118 hP hD hS => ?_)
                              rw [hq_118.1]
                              rw [hq_118.2] at hP hD
                              refine lv_goto (tgt := 309) hx hb dX6_getsNow_305 (by decide) ?_
                              have hlate2 : ¬ M.2 11 i = 0 → ¬ (¬ M.2 15 i = -1 ∧ ¬ (rG M.2 (M.1 2) (M.2 11) (fun k => rFar M.2 k (M.1 1)) (nI uu) f g na ru d (M.2 15 i).toNatClampNeg).1 = M.2 16 i) := hlate
                              have hG : rGx M.2 (M.1 2) (M.2 11) (nI uu) f g na (ru i) (fun j => (rG M.2 (M.1 2) (M.2 11) (fun k => rFar M.2 k (M.1 1)) (nI uu) f g na ru d j).1) i far = (rSplit M.2 i (kBkt (M.2 4 i) (nI uu)) 4 0 (M.2 6 (4 * i)), 8) := by
                                unfold rGx
                                by_cases h11 : M.2 11 i = 0
                                · first | (simp [h11]; done) | exact absurd h11 (by assumption)
                                · have hl9 := hlate h11
                                  first | exact absurd (by assumption) h11 | (rw [if_neg h11, if_neg hl9]; simp [era, erh, c_62, c_64, c_95, c_97, c_98, c_110, c_112, c_113, nI_m1 (a := kh) (by omega), ki_cl (n := kh) (by omega)])
                              exact W.iret (v := rSplit M.2 i (kBkt (M.2 4 i) (nI uu)) 4 0 (M.2 6 (4 * i))) hx hb hr (fun t ht hW => ⟨⟨rSplit M.2 i (kBkt (M.2 4 i) (nI uu)) 4 0 (M.2 6 (4 * i)), mS (mS M 28 ρ) 28 8, rfl, ⟨by rw [hG], by rw [hG]; simp only [mS_s]⟩, by rw [ht]; exact hP, va_K.moved hW.alike hK, hD⟩, hS.F ht⟩) hS.2.2 dX6_getsNow_309
                            · exact absurd c_116 (nI_m1 (by omega))
                        · refine lv_aload_n hx hb dX6_getsNow_260 rfl (lv_at hl 8 rfl) ?_
                          refine lv_bipush (v := 6) hx hb dX6_getsNow_261 (by decide) ?_
                          refine km_puti hx hb htT hown hK hP hD hS 28 (by decide) rfl (htT _ m_fl_X6_165) rfl (by decide +kernel) dX6_getsNow_263 (fun H locs hP hD hS => ?_)
                          refine lv_goto (tgt := 290) hx hb dX6_getsNow_266 (by decide) ?_
                          refine lv_aload_n hx hb dX6_getsNow_290 rfl (lv_at hl 8 rfl) ?_
                          refine km_getiv (x := 6) hx hb htT hown hK hP 28 (by decide) rfl (htT _ m_fl_X6_165) rfl dX6_getsNow_291 ?_
                          refine lv_bipush (v := 8) hx hb dX6_getsNow_294 (by decide) ?_
                          refine lv_icmp_ne (tgt := 308) hx hb dX6_getsNow_296 (by decide) (fun _ => ?_) (fun c_119 => absurd c_119 (by decide))
                          refine lv_iconst (v := 0) hx hb dX6_getsNow_308 (by decide) ?_
                          have hlate2 : ¬ M.2 11 i = 0 → ¬ (¬ M.2 15 i = -1 ∧ ¬ (rG M.2 (M.1 2) (M.2 11) (fun k => rFar M.2 k (M.1 1)) (nI uu) f g na ru d (M.2 15 i).toNatClampNeg).1 = M.2 16 i) := hlate
                          have hG : rGx M.2 (M.1 2) (M.2 11) (nI uu) f g na (ru i) (fun j => (rG M.2 (M.1 2) (M.2 11) (fun k => rFar M.2 k (M.1 1)) (nI uu) f g na ru d j).1) i far = (0, 6) := by
                            unfold rGx
                            by_cases h11 : M.2 11 i = 0
                            · first | (simp [h11]; done) | exact absurd h11 (by assumption)
                            · have hl9 := hlate h11
                              first | exact absurd (by assumption) h11 | (rw [if_neg h11, if_neg hl9]; simp [era, erh, c_62, c_64, c_95, c_97, c_98, c_110, c_112, nI_m1 (a := kh) (by omega), ki_cl (n := kh) (by omega)])
                          exact W.iret (v := 0) hx hb hr (fun t ht hW => ⟨⟨0, mS (mS (mS M 28 ρ) 28 8) 28 6, rfl, ⟨by rw [hG], by rw [hG]; simp only [mS_s]⟩, by rw [ht]; exact hP, va_K.moved hW.alike hK, hD⟩, hS.F ht⟩) hS.2.2 dX6_getsNow_309
                      · refine lv_aload_n hx hb dX6_getsNow_235 rfl (lv_at hl 8 rfl) ?_
                        refine lv_iconst (v := 5) hx hb dX6_getsNow_236 (by decide) ?_
                        refine km_puti hx hb htT hown hK hP hD hS 28 (by decide) rfl (htT _ m_fl_X6_165) rfl (by decide +kernel) dX6_getsNow_237 (fun H locs hP hD hS => ?_)
                        refine lv_goto (tgt := 290) hx hb dX6_getsNow_240 (by decide) ?_
                        refine lv_aload_n hx hb dX6_getsNow_290 rfl (lv_at hl 8 rfl) ?_
                        refine km_getiv (x := 5) hx hb htT hown hK hP 28 (by decide) rfl (htT _ m_fl_X6_165) rfl dX6_getsNow_291 ?_
                        refine lv_bipush (v := 8) hx hb dX6_getsNow_294 (by decide) ?_
                        refine lv_icmp_ne (tgt := 308) hx hb dX6_getsNow_296 (by decide) (fun _ => ?_) (fun c_120 => absurd c_120 (by decide))
                        refine lv_iconst (v := 0) hx hb dX6_getsNow_308 (by decide) ?_
                        have hlate2 : ¬ M.2 11 i = 0 → ¬ (¬ M.2 15 i = -1 ∧ ¬ (rG M.2 (M.1 2) (M.2 11) (fun k => rFar M.2 k (M.1 1)) (nI uu) f g na ru d (M.2 15 i).toNatClampNeg).1 = M.2 16 i) := hlate
                        have hG : rGx M.2 (M.1 2) (M.2 11) (nI uu) f g na (ru i) (fun j => (rG M.2 (M.1 2) (M.2 11) (fun k => rFar M.2 k (M.1 1)) (nI uu) f g na ru d j).1) i far = (0, 5) := by
                          unfold rGx
                          by_cases h11 : M.2 11 i = 0
                          · first | (simp [h11]; done) | exact absurd h11 (by assumption)
                          · have hl9 := hlate h11
                            first | exact absurd (by assumption) h11 | (rw [if_neg h11, if_neg hl9]; simp [era, erh, c_62, c_64, c_95, c_97, c_98, c_110, nI_m1 (a := kh) (by omega), ki_cl (n := kh) (by omega)])
                        exact W.iret (v := 0) hx hb hr (fun t ht hW => ⟨⟨0, mS (mS (mS M 28 ρ) 28 8) 28 5, rfl, ⟨by rw [hG], by rw [hG]; simp only [mS_s]⟩, by rw [ht]; exact hP, va_K.moved hW.alike hK, hD⟩, hS.F ht⟩) hS.2.2 dX6_getsNow_309
                  · replace c_97 := Int32.not_le.mp c_97
                    refine lv_aload_n hx hb dX6_getsNow_183 rfl (lv_at hl 8 rfl) ?_
                    refine lv_iconst (v := 4) hx hb dX6_getsNow_184 (by decide) ?_
                    refine km_puti hx hb htT hown hK hP hD hS 28 (by decide) rfl (htT _ m_fl_X6_165) rfl (by decide +kernel) dX6_getsNow_185 (fun H locs hP hD hS => ?_)
                    refine lv_goto (tgt := 290) hx hb dX6_getsNow_188 (by decide) ?_
                    refine lv_aload_n hx hb dX6_getsNow_290 rfl (lv_at hl 8 rfl) ?_
                    refine km_getiv (x := 4) hx hb htT hown hK hP 28 (by decide) rfl (htT _ m_fl_X6_165) rfl dX6_getsNow_291 ?_
                    refine lv_bipush (v := 8) hx hb dX6_getsNow_294 (by decide) ?_
                    refine lv_icmp_ne (tgt := 308) hx hb dX6_getsNow_296 (by decide) (fun _ => ?_) (fun c_121 => absurd c_121 (by decide))
                    refine lv_iconst (v := 0) hx hb dX6_getsNow_308 (by decide) ?_
                    have hlate2 : ¬ M.2 11 i = 0 → ¬ (¬ M.2 15 i = -1 ∧ ¬ (rG M.2 (M.1 2) (M.2 11) (fun k => rFar M.2 k (M.1 1)) (nI uu) f g na ru d (M.2 15 i).toNatClampNeg).1 = M.2 16 i) := hlate
                    have hG : rGx M.2 (M.1 2) (M.2 11) (nI uu) f g na (ru i) (fun j => (rG M.2 (M.1 2) (M.2 11) (fun k => rFar M.2 k (M.1 1)) (nI uu) f g na ru d j).1) i far = (0, 4) := by
                      unfold rGx
                      by_cases h11 : M.2 11 i = 0
                      · first | (simp [h11]; done) | exact absurd h11 (by assumption)
                      · have hl9 := hlate h11
                        first | exact absurd (by assumption) h11 | (rw [if_neg h11, if_neg hl9]; simp [era, erh, c_62, c_64, c_95, c_97, nI_m1 (a := kh) (by omega), ki_cl (n := kh) (by omega)])
                    exact W.iret (v := 0) hx hb hr (fun t ht hW => ⟨⟨0, mS (mS (mS M 28 ρ) 28 8) 28 4, rfl, ⟨by rw [hG], by rw [hG]; simp only [mS_s]⟩, by rw [ht]; exact hP, va_K.moved hW.alike hK, hD⟩, hS.F ht⟩) hS.2.2 dX6_getsNow_309
                · refine lv_aload_n hx hb dX6_getsNow_152 rfl (lv_at hl 8 rfl) ?_
                  refine lv_iconst (v := 3) hx hb dX6_getsNow_153 (by decide) ?_
                  refine km_puti hx hb htT hown hK hP hD hS 28 (by decide) rfl (htT _ m_fl_X6_165) rfl (by decide +kernel) dX6_getsNow_154 (fun H locs hP hD hS => ?_)
                  refine lv_aload_n hx hb dX6_getsNow_157 rfl (lv_at hl 8 rfl) ?_
                  refine km_getr hx hb htT hown hK hP 21 (by decide) rfl (htT _ m_fl_X6_62) dX6_getsNow_158 ?_
                  refine lv_iload_n hx hb dX6_getsNow_161 rfl (lv_at hl 7 rfl) ?_
                  refine lv_iconst (v := 5) hx hb dX6_getsNow_162 (by decide) ?_
                  refine lv_imul hx hb dX6_getsNow_163 ?_
                  rw [show ((nI i) * 5 : Int32) = nI (5 * i) from (pk_mul i 5).trans (congrArg nI (by omega))]
                  refine lv_iload hx hb dX6_getsNow_164 (lv_at hl 0 rfl) ?_
                  refine lv_iadd hx hb dX6_getsNow_166 ?_
                  rw [show ((nI (5 * i)) + (nI kh) : Int32) = nI (5 * i + kh) from (nI_add (5 * i) kh).trans (congrArg nI (by omega))]
                  refine km_ialdv (x := (M.2 21) (5 * i + kh)) hx hb hK hP 21 rfl rfl (show vp_in (nI (5 * i + kh)) 40 from ki_in (by omega) (by decide)) (congrArg _ (ki_cl (by omega))) dX6_getsNow_167 ?_
                  have hlate2 : ¬ M.2 11 i = 0 → ¬ (¬ M.2 15 i = -1 ∧ ¬ (rG M.2 (M.1 2) (M.2 11) (fun k => rFar M.2 k (M.1 1)) (nI uu) f g na ru d (M.2 15 i).toNatClampNeg).1 = M.2 16 i) := hlate
                  have hG : rGx M.2 (M.1 2) (M.2 11) (nI uu) f g na (ru i) (fun j => (rG M.2 (M.1 2) (M.2 11) (fun k => rFar M.2 k (M.1 1)) (nI uu) f g na ru d j).1) i far = ((M.2 21) (5 * i + kh), 3) := by
                    unfold rGx
                    by_cases h11 : M.2 11 i = 0
                    · first | (simp [h11]; done) | exact absurd h11 (by assumption)
                    · have hl9 := hlate h11
                      first | exact absurd (by assumption) h11 | (rw [if_neg h11, if_neg hl9]; simp [era, erh, c_62, c_64, c_95, nI_m1 (a := kh) (by omega), ki_cl (n := kh) (by omega)])
                  exact W.iret (v := (M.2 21) (5 * i + kh)) hx hb hr (fun t ht hW => ⟨⟨(M.2 21) (5 * i + kh), mS (mS (mS M 28 ρ) 28 8) 28 3, rfl, ⟨by rw [hG], by rw [hG]; simp only [mS_s]⟩, by rw [ht]; exact hP, va_K.moved hW.alike hK, hD⟩, hS.F ht⟩) hS.2.2 dX6_getsNow_168
          · refine lv_aload_n hx hb dX6_getsNow_82 rfl (lv_at hl 8 rfl) ?_
            refine lv_iconst (v := 0) hx hb dX6_getsNow_83 (by decide) ?_
            refine km_puti hx hb htT hown hK hP hD hS 28 (by decide) rfl (htT _ m_fl_X6_165) rfl (by decide +kernel) dX6_getsNow_84 (fun H locs hP hD hS => ?_)
            refine lv_goto (tgt := 290) hx hb dX6_getsNow_87 (by decide) ?_
            refine lv_aload_n hx hb dX6_getsNow_290 rfl (lv_at hl 8 rfl) ?_
            refine km_getiv (x := 0) hx hb htT hown hK hP 28 (by decide) rfl (htT _ m_fl_X6_165) rfl dX6_getsNow_291 ?_
            refine lv_bipush (v := 8) hx hb dX6_getsNow_294 (by decide) ?_
            refine lv_icmp_ne (tgt := 308) hx hb dX6_getsNow_296 (by decide) (fun _ => ?_) (fun c_122 => absurd c_122 (by decide))
            refine lv_iconst (v := 0) hx hb dX6_getsNow_308 (by decide) ?_
            have hlate2 : ¬ M.2 11 i = 0 → ¬ (¬ M.2 15 i = -1 ∧ ¬ (rG M.2 (M.1 2) (M.2 11) (fun k => rFar M.2 k (M.1 1)) (nI uu) f g na ru d (M.2 15 i).toNatClampNeg).1 = M.2 16 i) := hlate
            have hG : rGx M.2 (M.1 2) (M.2 11) (nI uu) f g na (ru i) (fun j => (rG M.2 (M.1 2) (M.2 11) (fun k => rFar M.2 k (M.1 1)) (nI uu) f g na ru d j).1) i far = (0, 0) := by
              unfold rGx
              by_cases h11 : M.2 11 i = 0
              · first | (simp [h11]; done) | exact absurd h11 (by assumption)
              · have hl9 := hlate h11
                first | exact absurd (by assumption) h11 | (rw [if_neg h11, if_neg hl9]; simp [era, erh, c_62, nI_m1 (a := kh) (by omega), ki_cl (n := kh) (by omega)])
            exact W.iret (v := 0) hx hb hr (fun t ht hW => ⟨⟨0, mS (mS (mS M 28 ρ) 28 8) 28 0, rfl, ⟨by rw [hG], by rw [hG]; simp only [mS_s]⟩, by rw [ht]; exact hP, va_K.moved hW.alike hK, hD⟩, hS.F ht⟩) hS.2.2 dX6_getsNow_309
      · rw [hq_5.1.trans era]
        refine lv_istore (lv' := [(7, .int (nI ka)), (6, .int 0), (5, .int far), (4, .int g), (3, .int f), (2, .int (nI uu)), (1, .int (nI i)), (0, .ref am)]) hx hb dX6_getsNow_55 hl (by decide) rfl (fun ls hl => ?_)
        refine lv_aload_n hx hb dX6_getsNow_57 rfl (lv_at hl 7 rfl) ?_
        refine lv_iload_n hx hb dX6_getsNow_58 rfl (lv_at hl 6 rfl) ?_
        refine lv_iload_n hx hb dX6_getsNow_59 rfl (lv_at hl 4 rfl) ?_
        refine lv_iload hx hb dX6_getsNow_60 (lv_at hl 3 rfl) ?_
        refine kc_i (va_runV (As := [.int (nI i), .int f, .int g]) (rest := []) ⟨hx, hb, hml, hown, htT⟩ (m_holdsNow l D cA _ am r (mS M 28 ρ) i (by omega) (ru i) (hsw i hi).1 (hsw i hi).2.1 f g) (cwV 3 htT (kg_V m_ml_X6_161 m_im_X6_holdsNow m_sl_X6_holdsNow m_in_X6 m_cd_X6_holdsNow) rfl rfl rfl (by decide +kernel) ⟨(show 0 + 1 ≤ 2 * d + 2 by omega), (show 8 + (6 + 11) + (0) ≤ 120 * d + 60 by omega)⟩) (kp_V hK hP hD hTB (km_rc hK hP)) rfl rfl hl.1 rfl (lv_room (Nat.le_of_ble_eq_true rfl)) dX6_getsNow_62 ⟨Nat.le_of_ble_eq_true rfl, Nat.le_of_ble_eq_true rfl⟩) hD hS hA (fun r_123 x_123 H locs hq_123 hP hD hS => ?_)
        rw [hq_123.2] at hP hD
        rcases rHold_of M.2 i f g (ru i) 0 with erh | ⟨kh, hkh0, hkh, erh, -⟩
        · rw [hq_123.1.trans erh]
          refine lv_istore (lv' := [(8, .int (-1)), (7, .int (nI ka)), (6, .int 0), (5, .int far), (4, .int g), (3, .int f), (2, .int (nI uu)), (1, .int (nI i)), (0, .ref am)]) hx hb dX6_getsNow_65 hl (by decide) rfl (fun ls hl => ?_)
          refine lv_aload_n hx hb dX6_getsNow_67 rfl (lv_at hl 8 rfl) ?_
          refine lv_bipush (v := 8) hx hb dX6_getsNow_68 (by decide) ?_
          refine km_puti hx hb htT hown hK hP hD hS 28 (by decide) rfl (htT _ m_fl_X6_165) rfl (by decide +kernel) dX6_getsNow_70 (fun H locs hP hD hS => ?_)
          refine lv_aload_n hx hb dX6_getsNow_73 rfl (lv_at hl 8 rfl) ?_
          refine km_getr hx hb htT hown hK hP 11 (by decide) rfl (htT _ m_fl_X6_32) dX6_getsNow_74 ?_
          refine lv_iload_n hx hb dX6_getsNow_77 rfl (lv_at hl 7 rfl) ?_
          refine km_zaldv (x := (M.2 11) i) hx hb hK hP 11 rfl rfl (show vp_in (nI (i)) 8 from ki_in (by omega) (by decide)) (congrArg _ (ki_cl (by omega))) dX6_getsNow_78 ?_
          refine lv_if_ne (tgt := 90) hx hb dX6_getsNow_79 (by decide) (fun c_124 => ?_) (fun c_124 => ?_)
          · refine lv_iload hx hb dX6_getsNow_90 (lv_at hl 2 rfl) ?_
            refine lv_if_eq (tgt := 103) hx hb dX6_getsNow_92 (by decide) (fun _ => ?_) (fun c_125 => absurd c_125 (by decide))
            refine lv_aload_n hx hb dX6_getsNow_103 rfl (lv_at hl 8 rfl) ?_
            refine km_getr hx hb htT hown hK hP 10 (by decide) rfl (htT _ m_fl_X6_28) dX6_getsNow_104 ?_
            refine lv_iload_n hx hb dX6_getsNow_107 rfl (lv_at hl 7 rfl) ?_
            refine km_zaldv (x := (M.2 10) i) hx hb hK hP 10 rfl rfl (show vp_in (nI (i)) 8 from ki_in (by omega) (by decide)) (congrArg _ (ki_cl (by omega))) dX6_getsNow_108 ?_
            refine lv_if_eq (tgt := 131) hx hb dX6_getsNow_109 (by decide) (fun c_126 => ?_) (fun c_126 => ?_)
            · refine lv_iload hx hb dX6_getsNow_131 (lv_at hl 0 rfl) ?_
              refine lv_iconst (v := (-1)) hx hb dX6_getsNow_133 (by decide) ?_
              refine lv_icmp_eq (tgt := 169) hx hb dX6_getsNow_134 (by decide) (fun _ => ?_) (fun c_127 => absurd c_127 (by decide))
              refine lv_sipush (v := 999) hx hb dX6_getsNow_169 (by decide) ?_
              refine lv_iload_n hx hb dX6_getsNow_172 rfl (lv_at hl 6 rfl) ?_
              refine kc_i (va_runS (As := [.int 999, .int (nI uu)]) (rest := []) ⟨hx, hb, hml, hown, htT⟩ (m_bucketOf l D cA _ am r (mS (mS M 28 ρ) 28 8) 999 (nI uu)) (cwS 2 htT (kg_S m_ml_X6_148 m_st_X6_bucketOf m_in_X6 m_cd_X6_bucketOf) rfl rfl rfl (by decide +kernel) ⟨(show 0 + 1 ≤ 2 * d + 2 by omega), (show 8 + (3 + 11) + (0) ≤ 120 * d + 60 by omega)⟩) (kp_S hK hP hD hTB) rfl rfl hl.1 rfl (lv_room (Nat.le_of_ble_eq_true rfl)) dX6_getsNow_173 ⟨Nat.le_of_ble_eq_true rfl, Nat.le_of_ble_eq_true rfl⟩) hD hS hA (fun r_128 x_128 H locs hq_128 hP hD hS => ?_)
              rw [hq_128.1]
              rw [hq_128.2] at hP hD
              refine lv_aload_n hx hb dX6_getsNow_176 rfl (lv_at hl 8 rfl) ?_
              refine km_getiv (x := M.1 2) hx hb htT hown hK hP 2 (by decide) rfl (htT _ m_fl_X6_136) rfl dX6_getsNow_177 ?_
              refine lv_icmp_ge (tgt := 191) hx hb dX6_getsNow_180 (by decide) (fun c_129 => ?_) (fun c_129 => ?_)
              · replace c_129 := Int32.not_lt.mpr c_129
                refine lv_aload_n hx hb dX6_getsNow_191 rfl (lv_at hl 8 rfl) ?_
                refine km_getr hx hb htT hown hK hP 12 (by decide) rfl (htT _ m_fl_X6_35) dX6_getsNow_192 ?_
                refine lv_iload_n hx hb dX6_getsNow_195 rfl (lv_at hl 7 rfl) ?_
                refine km_ialdv (x := (M.2 12) i) hx hb hK hP 12 rfl rfl (show vp_in (nI (i)) 8 from ki_in (by omega) (by decide)) (congrArg _ (ki_cl (by omega))) dX6_getsNow_196 ?_
                refine lv_iconst (v := (-1)) hx hb dX6_getsNow_197 (by decide) ?_
                refine lv_icmp_eq (tgt := 243) hx hb dX6_getsNow_198 (by decide) (fun c_130 => ?_) (fun c_130 => ?_)
                · refine lv_aload_n hx hb dX6_getsNow_243 rfl (lv_at hl 8 rfl) ?_
                  refine km_getr hx hb htT hown hK hP 4 (by decide) rfl (htT _ m_fl_X6_9) dX6_getsNow_244 ?_
                  refine lv_iload_n hx hb dX6_getsNow_247 rfl (lv_at hl 7 rfl) ?_
                  refine km_ialdv (x := (M.2 4) i) hx hb hK hP 4 rfl rfl (show vp_in (nI (i)) 8 from ki_in (by omega) (by decide)) (congrArg _ (ki_cl (by omega))) dX6_getsNow_248 ?_
                  refine lv_iconst (v := 1) hx hb dX6_getsNow_249 (by decide) ?_
                  refine lv_iadd hx hb dX6_getsNow_250 ?_
                  refine lv_iload_n hx hb dX6_getsNow_251 rfl (lv_at hl 6 rfl) ?_
                  refine kc_i (va_runS (As := [.int (((M.2 4) i) + 1), .int (nI uu)]) (rest := []) ⟨hx, hb, hml, hown, htT⟩ (m_bucketOf l D cA _ am r (mS (mS M 28 ρ) 28 8) (((M.2 4) i) + 1) (nI uu)) (cwS 2 htT (kg_S m_ml_X6_148 m_st_X6_bucketOf m_in_X6 m_cd_X6_bucketOf) rfl rfl rfl (by decide +kernel) ⟨(show 0 + 1 ≤ 2 * d + 2 by omega), (show 8 + (3 + 11) + (0) ≤ 120 * d + 60 by omega)⟩) (kp_S hK hP hD hTB) rfl rfl hl.1 rfl (lv_room (Nat.le_of_ble_eq_true rfl)) dX6_getsNow_252 ⟨Nat.le_of_ble_eq_true rfl, Nat.le_of_ble_eq_true rfl⟩) hD hS hA (fun r_131 x_131 H locs hq_131 hP hD hS => ?_)
                  rw [hq_131.1]
                  rw [hq_131.2] at hP hD
                  refine lv_iload hx hb dX6_getsNow_255 (lv_at hl 3 rfl) ?_
                  refine lv_icmp_lt (tgt := 269) hx hb dX6_getsNow_257 (by decide) (fun c_132 => ?_) (fun c_132 => ?_)
                  · refine lv_aload_n hx hb dX6_getsNow_269 rfl (lv_at hl 8 rfl) ?_
                    refine km_getr hx hb htT hown hK hP 17 (by decide) rfl (htT _ m_fl_X6_50) dX6_getsNow_270 ?_
                    refine lv_iload_n hx hb dX6_getsNow_273 rfl (lv_at hl 7 rfl) ?_
                    refine km_ialdv (x := nI (ru i)) hx hb hK hP 17 rfl rfl (show vp_in (nI (i)) 8 from ki_in (by omega) (by decide)) ((congrArg _ (ki_cl (by omega))).trans (hsw i hi).2.1) dX6_getsNow_274 ?_
                    refine lv_if_le (tgt := 290) hx hb dX6_getsNow_275 (by decide) (fun c_133 => ?_) (fun c_133 => ?_)
                    · replace c_133 := (nI_leI (a := ru i) (b := 0) (by omega) (by omega)).mp c_133
                      refine lv_aload_n hx hb dX6_getsNow_290 rfl (lv_at hl 8 rfl) ?_
                      refine km_getiv (x := 8) hx hb htT hown hK hP 28 (by decide) rfl (htT _ m_fl_X6_165) rfl dX6_getsNow_291 ?_
                      refine lv_bipush (v := 8) hx hb dX6_getsNow_294 (by decide) ?_
                      refine lv_icmp_ne (tgt := 308) hx hb dX6_getsNow_296 (by decide) (fun c_134 => absurd c_134 (by decide)) (fun _ => ?_)
                      refine lv_aload_n hx hb dX6_getsNow_299 rfl (lv_at hl 8 rfl) ?_
                      refine lv_iload_n hx hb dX6_getsNow_300 rfl (lv_at hl 7 rfl) ?_
                      refine lv_iload_n hx hb dX6_getsNow_301 rfl (lv_at hl 6 rfl) ?_
                      obtain ⟨sa, hsa, h4⟩ := (hsw i hi).2.2.2.1
                      refine kc_i (va_runV (As := [.int (nI i), .int (nI uu)]) (rest := []) ⟨hx, hb, hml, hown, htT⟩ (m_split l D cA _ am r (mS (mS M 28 ρ) 28 8) i (by omega) sa uu hsa huu h4 (hsw i hi).2.2.2.2) (cwV 2 htT (kg_V m_ml_X6_168 m_im_X6_split m_sl_X6_split m_in_X6 m_cd_X6_split) rfl rfl rfl (by decide +kernel) ⟨(show 1 + 1 ≤ 2 * d + 2 by omega), (show 8 + (6 + 11) + (22) ≤ 120 * d + 60 by omega)⟩) (kp_V hK hP hD hTB (km_rc hK hP)) rfl rfl hl.1 rfl (lv_room (Nat.le_of_ble_eq_true rfl)) dX6_getsNow_302 ⟨Nat.le_of_ble_eq_true rfl, Nat.le_of_ble_eq_true rfl⟩) hD hS hA (fun r_135 x_135 H locs hq_135 hP hD hS => ?_)
                      rw [hq_135.1]
                      rw [hq_135.2] at hP hD
                      refine lv_goto (tgt := 309) hx hb dX6_getsNow_305 (by decide) ?_
                      have hlate2 : ¬ M.2 11 i = 0 → ¬ (¬ M.2 15 i = -1 ∧ ¬ (rG M.2 (M.1 2) (M.2 11) (fun k => rFar M.2 k (M.1 1)) (nI uu) f g na ru d (M.2 15 i).toNatClampNeg).1 = M.2 16 i) := hlate
                      have hG : rGx M.2 (M.1 2) (M.2 11) (nI uu) f g na (ru i) (fun j => (rG M.2 (M.1 2) (M.2 11) (fun k => rFar M.2 k (M.1 1)) (nI uu) f g na ru d j).1) i far = (rSplit M.2 i (kBkt (M.2 4 i) (nI uu)) 4 0 (M.2 6 (4 * i)), 8) := by
                        unfold rGx
                        by_cases h11 : M.2 11 i = 0
                        · first | (simp [h11]; done) | exact absurd h11 (by assumption)
                        · have hl9 := hlate h11
                          first | exact absurd (by assumption) h11 | (rw [if_neg h11, if_neg hl9]; simp [era, erh, c_124, c_126, c_129, c_130, c_132, c_133, nI_m1 (a := ka) (by omega), ki_cl (n := ka) (by omega)])
                      exact W.iret (v := rSplit M.2 i (kBkt (M.2 4 i) (nI uu)) 4 0 (M.2 6 (4 * i))) hx hb hr (fun t ht hW => ⟨⟨rSplit M.2 i (kBkt (M.2 4 i) (nI uu)) 4 0 (M.2 6 (4 * i)), mS (mS M 28 ρ) 28 8, rfl, ⟨by rw [hG], by rw [hG]; simp only [mS_s]⟩, by rw [ht]; exact hP, va_K.moved hW.alike hK, hD⟩, hS.F ht⟩) hS.2.2 dX6_getsNow_309
                    · replace c_133 : ¬ (ru i ≤ 0) := fun h9 => c_133 ((nI_leI (a := ru i) (b := 0) (by omega) (by omega)).mpr h9)
                      refine lv_iload hx hb dX6_getsNow_278 (lv_at hl 0 rfl) ?_
                      refine lv_iconst (v := (-1)) hx hb dX6_getsNow_280 (by decide) ?_
                      refine lv_icmp_ne (tgt := 290) hx hb dX6_getsNow_281 (by decide) (fun c_136 => absurd c_136 (by decide)) (fun _ => ?_)
                      refine lv_aload_n hx hb dX6_getsNow_284 rfl (lv_at hl 8 rfl) ?_
                      refine lv_bipush (v := 7) hx hb dX6_getsNow_285 (by decide) ?_
                      refine km_puti hx hb htT hown hK hP hD hS 28 (by decide) rfl (htT _ m_fl_X6_165) rfl (by decide +kernel) dX6_getsNow_287 (fun H locs hP hD hS => ?_)
                      refine lv_aload_n hx hb dX6_getsNow_290 rfl (lv_at hl 8 rfl) ?_
                      refine km_getiv (x := 7) hx hb htT hown hK hP 28 (by decide) rfl (htT _ m_fl_X6_165) rfl dX6_getsNow_291 ?_
                      refine lv_bipush (v := 8) hx hb dX6_getsNow_294 (by decide) ?_
                      refine lv_icmp_ne (tgt := 308) hx hb dX6_getsNow_296 (by decide) (fun _ => ?_) (fun c_137 => absurd c_137 (by decide))
                      refine lv_iconst (v := 0) hx hb dX6_getsNow_308 (by decide) ?_
                      have hlate2 : ¬ M.2 11 i = 0 → ¬ (¬ M.2 15 i = -1 ∧ ¬ (rG M.2 (M.1 2) (M.2 11) (fun k => rFar M.2 k (M.1 1)) (nI uu) f g na ru d (M.2 15 i).toNatClampNeg).1 = M.2 16 i) := hlate
                      have hG : rGx M.2 (M.1 2) (M.2 11) (nI uu) f g na (ru i) (fun j => (rG M.2 (M.1 2) (M.2 11) (fun k => rFar M.2 k (M.1 1)) (nI uu) f g na ru d j).1) i far = (0, 7) := by
                        unfold rGx
                        by_cases h11 : M.2 11 i = 0
                        · first | (simp [h11]; done) | exact absurd h11 (by assumption)
                        · have hl9 := hlate h11
                          first | exact absurd (by assumption) h11 | (rw [if_neg h11, if_neg hl9]; simp [era, erh, c_124, c_126, c_129, c_130, c_132, c_133, nI_m1 (a := ka) (by omega), ki_cl (n := ka) (by omega)])
                      exact W.iret (v := 0) hx hb hr (fun t ht hW => ⟨⟨0, mS (mS (mS M 28 ρ) 28 8) 28 7, rfl, ⟨by rw [hG], by rw [hG]; simp only [mS_s]⟩, by rw [ht]; exact hP, va_K.moved hW.alike hK, hD⟩, hS.F ht⟩) hS.2.2 dX6_getsNow_309
                  · refine lv_aload_n hx hb dX6_getsNow_260 rfl (lv_at hl 8 rfl) ?_
                    refine lv_bipush (v := 6) hx hb dX6_getsNow_261 (by decide) ?_
                    refine km_puti hx hb htT hown hK hP hD hS 28 (by decide) rfl (htT _ m_fl_X6_165) rfl (by decide +kernel) dX6_getsNow_263 (fun H locs hP hD hS => ?_)
                    refine lv_goto (tgt := 290) hx hb dX6_getsNow_266 (by decide) ?_
                    refine lv_aload_n hx hb dX6_getsNow_290 rfl (lv_at hl 8 rfl) ?_
                    refine km_getiv (x := 6) hx hb htT hown hK hP 28 (by decide) rfl (htT _ m_fl_X6_165) rfl dX6_getsNow_291 ?_
                    refine lv_bipush (v := 8) hx hb dX6_getsNow_294 (by decide) ?_
                    refine lv_icmp_ne (tgt := 308) hx hb dX6_getsNow_296 (by decide) (fun _ => ?_) (fun c_138 => absurd c_138 (by decide))
                    refine lv_iconst (v := 0) hx hb dX6_getsNow_308 (by decide) ?_
                    have hlate2 : ¬ M.2 11 i = 0 → ¬ (¬ M.2 15 i = -1 ∧ ¬ (rG M.2 (M.1 2) (M.2 11) (fun k => rFar M.2 k (M.1 1)) (nI uu) f g na ru d (M.2 15 i).toNatClampNeg).1 = M.2 16 i) := hlate
                    have hG : rGx M.2 (M.1 2) (M.2 11) (nI uu) f g na (ru i) (fun j => (rG M.2 (M.1 2) (M.2 11) (fun k => rFar M.2 k (M.1 1)) (nI uu) f g na ru d j).1) i far = (0, 6) := by
                      unfold rGx
                      by_cases h11 : M.2 11 i = 0
                      · first | (simp [h11]; done) | exact absurd h11 (by assumption)
                      · have hl9 := hlate h11
                        first | exact absurd (by assumption) h11 | (rw [if_neg h11, if_neg hl9]; simp [era, erh, c_124, c_126, c_129, c_130, c_132, nI_m1 (a := ka) (by omega), ki_cl (n := ka) (by omega)])
                    exact W.iret (v := 0) hx hb hr (fun t ht hW => ⟨⟨0, mS (mS (mS M 28 ρ) 28 8) 28 6, rfl, ⟨by rw [hG], by rw [hG]; simp only [mS_s]⟩, by rw [ht]; exact hP, va_K.moved hW.alike hK, hD⟩, hS.F ht⟩) hS.2.2 dX6_getsNow_309
                · refine lv_sipush (v := 500) hx hb dX6_getsNow_201 (by decide) ?_
                  refine lv_aload_n hx hb dX6_getsNow_204 rfl (lv_at hl 8 rfl) ?_
                  refine km_getr hx hb htT hown hK hP 12 (by decide) rfl (htT _ m_fl_X6_35) dX6_getsNow_205 ?_
                  refine lv_iload_n hx hb dX6_getsNow_208 rfl (lv_at hl 7 rfl) ?_
                  refine km_ialdv (x := (M.2 12) i) hx hb hK hP 12 rfl rfl (show vp_in (nI (i)) 8 from ki_in (by omega) (by decide)) (congrArg _ (ki_cl (by omega))) dX6_getsNow_209 ?_
                  refine lv_iadd hx hb dX6_getsNow_210 ?_
                  refine lv_iload_n hx hb dX6_getsNow_211 rfl (lv_at hl 6 rfl) ?_
                  refine kc_i (va_runS (As := [.int (500 + ((M.2 12) i)), .int (nI uu)]) (rest := []) ⟨hx, hb, hml, hown, htT⟩ (m_bucketOf l D cA _ am r (mS (mS M 28 ρ) 28 8) (500 + ((M.2 12) i)) (nI uu)) (cwS 2 htT (kg_S m_ml_X6_148 m_st_X6_bucketOf m_in_X6 m_cd_X6_bucketOf) rfl rfl rfl (by decide +kernel) ⟨(show 0 + 1 ≤ 2 * d + 2 by omega), (show 8 + (3 + 11) + (0) ≤ 120 * d + 60 by omega)⟩) (kp_S hK hP hD hTB) rfl rfl hl.1 rfl (lv_room (Nat.le_of_ble_eq_true rfl)) dX6_getsNow_212 ⟨Nat.le_of_ble_eq_true rfl, Nat.le_of_ble_eq_true rfl⟩) hD hS hA (fun r_139 x_139 H locs hq_139 hP hD hS => ?_)
                  rw [hq_139.1]
                  rw [hq_139.2] at hP hD
                  refine lv_aload_n hx hb dX6_getsNow_215 rfl (lv_at hl 8 rfl) ?_
                  refine km_getr hx hb htT hown hK hP 13 (by decide) rfl (htT _ m_fl_X6_38) dX6_getsNow_216 ?_
                  refine lv_iload_n hx hb dX6_getsNow_219 rfl (lv_at hl 7 rfl) ?_
                  refine km_ialdv (x := (M.2 13) i) hx hb hK hP 13 rfl rfl (show vp_in (nI (i)) 8 from ki_in (by omega) (by decide)) (congrArg _ (ki_cl (by omega))) dX6_getsNow_220 ?_
                  refine lv_aload_n hx hb dX6_getsNow_221 rfl (lv_at hl 8 rfl) ?_
                  refine km_getr hx hb htT hown hK hP 14 (by decide) rfl (htT _ m_fl_X6_41) dX6_getsNow_222 ?_
                  refine lv_iload_n hx hb dX6_getsNow_225 rfl (lv_at hl 7 rfl) ?_
                  refine km_ialdv (x := (M.2 14) i) hx hb hK hP 14 rfl rfl (show vp_in (nI (i)) 8 from ki_in (by omega) (by decide)) (congrArg _ (ki_cl (by omega))) dX6_getsNow_226 ?_
                  refine lv_iconst (v := 1) hx hb dX6_getsNow_227 (by decide) ?_
                  refine lv_isub hx hb dX6_getsNow_228 ?_
                  refine kc_i (va_runS (As := [.int (kBkt (500 + ((M.2 12) i)) (nI uu)), .int ((M.2 13) i), .int (((M.2 14) i) - 1)]) (rest := []) ⟨hx, hb, hml, hown, htT⟩ (m_isIn l D cA _ am r (mS (mS M 28 ρ) 28 8) (kBkt (500 + ((M.2 12) i)) (nI uu)) ((M.2 13) i) (((M.2 14) i) - 1)) (cwS 3 htT (kg_S m_ml_X6_87 m_st_X6_isIn m_in_X6 m_cd_X6_isIn) rfl rfl rfl (by decide +kernel) ⟨(show 0 + 1 ≤ 2 * d + 2 by omega), (show 8 + (3 + 11) + (0) ≤ 120 * d + 60 by omega)⟩) (kp_S hK hP hD hTB) rfl rfl hl.1 rfl (lv_room (Nat.le_of_ble_eq_true rfl)) dX6_getsNow_229 ⟨Nat.le_of_ble_eq_true rfl, Nat.le_of_ble_eq_true rfl⟩) hD hS hA (fun r_140 x_140 H locs hq_140 hP hD hS => ?_)
                  rw [hq_140.1]
                  rw [hq_140.2] at hP hD
                  refine lv_if_ne (tgt := 243) hx hb dX6_getsNow_232 (by decide) (fun c_141 => ?_) (fun c_141 => ?_)
                  · refine lv_aload_n hx hb dX6_getsNow_243 rfl (lv_at hl 8 rfl) ?_
                    refine km_getr hx hb htT hown hK hP 4 (by decide) rfl (htT _ m_fl_X6_9) dX6_getsNow_244 ?_
                    refine lv_iload_n hx hb dX6_getsNow_247 rfl (lv_at hl 7 rfl) ?_
                    refine km_ialdv (x := (M.2 4) i) hx hb hK hP 4 rfl rfl (show vp_in (nI (i)) 8 from ki_in (by omega) (by decide)) (congrArg _ (ki_cl (by omega))) dX6_getsNow_248 ?_
                    refine lv_iconst (v := 1) hx hb dX6_getsNow_249 (by decide) ?_
                    refine lv_iadd hx hb dX6_getsNow_250 ?_
                    refine lv_iload_n hx hb dX6_getsNow_251 rfl (lv_at hl 6 rfl) ?_
                    refine kc_i (va_runS (As := [.int (((M.2 4) i) + 1), .int (nI uu)]) (rest := []) ⟨hx, hb, hml, hown, htT⟩ (m_bucketOf l D cA _ am r (mS (mS M 28 ρ) 28 8) (((M.2 4) i) + 1) (nI uu)) (cwS 2 htT (kg_S m_ml_X6_148 m_st_X6_bucketOf m_in_X6 m_cd_X6_bucketOf) rfl rfl rfl (by decide +kernel) ⟨(show 0 + 1 ≤ 2 * d + 2 by omega), (show 8 + (3 + 11) + (0) ≤ 120 * d + 60 by omega)⟩) (kp_S hK hP hD hTB) rfl rfl hl.1 rfl (lv_room (Nat.le_of_ble_eq_true rfl)) dX6_getsNow_252 ⟨Nat.le_of_ble_eq_true rfl, Nat.le_of_ble_eq_true rfl⟩) hD hS hA (fun r_142 x_142 H locs hq_142 hP hD hS => ?_)
                    rw [hq_142.1]
                    rw [hq_142.2] at hP hD
                    refine lv_iload hx hb dX6_getsNow_255 (lv_at hl 3 rfl) ?_
                    refine lv_icmp_lt (tgt := 269) hx hb dX6_getsNow_257 (by decide) (fun c_143 => ?_) (fun c_143 => ?_)
                    · refine lv_aload_n hx hb dX6_getsNow_269 rfl (lv_at hl 8 rfl) ?_
                      refine km_getr hx hb htT hown hK hP 17 (by decide) rfl (htT _ m_fl_X6_50) dX6_getsNow_270 ?_
                      refine lv_iload_n hx hb dX6_getsNow_273 rfl (lv_at hl 7 rfl) ?_
                      refine km_ialdv (x := nI (ru i)) hx hb hK hP 17 rfl rfl (show vp_in (nI (i)) 8 from ki_in (by omega) (by decide)) ((congrArg _ (ki_cl (by omega))).trans (hsw i hi).2.1) dX6_getsNow_274 ?_
                      refine lv_if_le (tgt := 290) hx hb dX6_getsNow_275 (by decide) (fun c_144 => ?_) (fun c_144 => ?_)
                      · replace c_144 := (nI_leI (a := ru i) (b := 0) (by omega) (by omega)).mp c_144
                        refine lv_aload_n hx hb dX6_getsNow_290 rfl (lv_at hl 8 rfl) ?_
                        refine km_getiv (x := 8) hx hb htT hown hK hP 28 (by decide) rfl (htT _ m_fl_X6_165) rfl dX6_getsNow_291 ?_
                        refine lv_bipush (v := 8) hx hb dX6_getsNow_294 (by decide) ?_
                        refine lv_icmp_ne (tgt := 308) hx hb dX6_getsNow_296 (by decide) (fun c_145 => absurd c_145 (by decide)) (fun _ => ?_)
                        refine lv_aload_n hx hb dX6_getsNow_299 rfl (lv_at hl 8 rfl) ?_
                        refine lv_iload_n hx hb dX6_getsNow_300 rfl (lv_at hl 7 rfl) ?_
                        refine lv_iload_n hx hb dX6_getsNow_301 rfl (lv_at hl 6 rfl) ?_
                        obtain ⟨sa, hsa, h4⟩ := (hsw i hi).2.2.2.1
                        refine kc_i (va_runV (As := [.int (nI i), .int (nI uu)]) (rest := []) ⟨hx, hb, hml, hown, htT⟩ (m_split l D cA _ am r (mS (mS M 28 ρ) 28 8) i (by omega) sa uu hsa huu h4 (hsw i hi).2.2.2.2) (cwV 2 htT (kg_V m_ml_X6_168 m_im_X6_split m_sl_X6_split m_in_X6 m_cd_X6_split) rfl rfl rfl (by decide +kernel) ⟨(show 1 + 1 ≤ 2 * d + 2 by omega), (show 8 + (6 + 11) + (22) ≤ 120 * d + 60 by omega)⟩) (kp_V hK hP hD hTB (km_rc hK hP)) rfl rfl hl.1 rfl (lv_room (Nat.le_of_ble_eq_true rfl)) dX6_getsNow_302 ⟨Nat.le_of_ble_eq_true rfl, Nat.le_of_ble_eq_true rfl⟩) hD hS hA (fun r_146 x_146 H locs hq_146 hP hD hS => ?_)
                        rw [hq_146.1]
                        rw [hq_146.2] at hP hD
                        refine lv_goto (tgt := 309) hx hb dX6_getsNow_305 (by decide) ?_
                        have hlate2 : ¬ M.2 11 i = 0 → ¬ (¬ M.2 15 i = -1 ∧ ¬ (rG M.2 (M.1 2) (M.2 11) (fun k => rFar M.2 k (M.1 1)) (nI uu) f g na ru d (M.2 15 i).toNatClampNeg).1 = M.2 16 i) := hlate
                        have hG : rGx M.2 (M.1 2) (M.2 11) (nI uu) f g na (ru i) (fun j => (rG M.2 (M.1 2) (M.2 11) (fun k => rFar M.2 k (M.1 1)) (nI uu) f g na ru d j).1) i far = (rSplit M.2 i (kBkt (M.2 4 i) (nI uu)) 4 0 (M.2 6 (4 * i)), 8) := by
                          unfold rGx
                          by_cases h11 : M.2 11 i = 0
                          · first | (simp [h11]; done) | exact absurd h11 (by assumption)
                          · have hl9 := hlate h11
                            first | exact absurd (by assumption) h11 | (rw [if_neg h11, if_neg hl9]; simp [era, erh, c_124, c_126, c_129, c_130, c_141, c_143, c_144, nI_m1 (a := ka) (by omega), ki_cl (n := ka) (by omega)])
                        exact W.iret (v := rSplit M.2 i (kBkt (M.2 4 i) (nI uu)) 4 0 (M.2 6 (4 * i))) hx hb hr (fun t ht hW => ⟨⟨rSplit M.2 i (kBkt (M.2 4 i) (nI uu)) 4 0 (M.2 6 (4 * i)), mS (mS M 28 ρ) 28 8, rfl, ⟨by rw [hG], by rw [hG]; simp only [mS_s]⟩, by rw [ht]; exact hP, va_K.moved hW.alike hK, hD⟩, hS.F ht⟩) hS.2.2 dX6_getsNow_309
                      · replace c_144 : ¬ (ru i ≤ 0) := fun h9 => c_144 ((nI_leI (a := ru i) (b := 0) (by omega) (by omega)).mpr h9)
                        refine lv_iload hx hb dX6_getsNow_278 (lv_at hl 0 rfl) ?_
                        refine lv_iconst (v := (-1)) hx hb dX6_getsNow_280 (by decide) ?_
                        refine lv_icmp_ne (tgt := 290) hx hb dX6_getsNow_281 (by decide) (fun c_147 => absurd c_147 (by decide)) (fun _ => ?_)
                        refine lv_aload_n hx hb dX6_getsNow_284 rfl (lv_at hl 8 rfl) ?_
                        refine lv_bipush (v := 7) hx hb dX6_getsNow_285 (by decide) ?_
                        refine km_puti hx hb htT hown hK hP hD hS 28 (by decide) rfl (htT _ m_fl_X6_165) rfl (by decide +kernel) dX6_getsNow_287 (fun H locs hP hD hS => ?_)
                        refine lv_aload_n hx hb dX6_getsNow_290 rfl (lv_at hl 8 rfl) ?_
                        refine km_getiv (x := 7) hx hb htT hown hK hP 28 (by decide) rfl (htT _ m_fl_X6_165) rfl dX6_getsNow_291 ?_
                        refine lv_bipush (v := 8) hx hb dX6_getsNow_294 (by decide) ?_
                        refine lv_icmp_ne (tgt := 308) hx hb dX6_getsNow_296 (by decide) (fun _ => ?_) (fun c_148 => absurd c_148 (by decide))
                        refine lv_iconst (v := 0) hx hb dX6_getsNow_308 (by decide) ?_
                        have hlate2 : ¬ M.2 11 i = 0 → ¬ (¬ M.2 15 i = -1 ∧ ¬ (rG M.2 (M.1 2) (M.2 11) (fun k => rFar M.2 k (M.1 1)) (nI uu) f g na ru d (M.2 15 i).toNatClampNeg).1 = M.2 16 i) := hlate
                        have hG : rGx M.2 (M.1 2) (M.2 11) (nI uu) f g na (ru i) (fun j => (rG M.2 (M.1 2) (M.2 11) (fun k => rFar M.2 k (M.1 1)) (nI uu) f g na ru d j).1) i far = (0, 7) := by
                          unfold rGx
                          by_cases h11 : M.2 11 i = 0
                          · first | (simp [h11]; done) | exact absurd h11 (by assumption)
                          · have hl9 := hlate h11
                            first | exact absurd (by assumption) h11 | (rw [if_neg h11, if_neg hl9]; simp [era, erh, c_124, c_126, c_129, c_130, c_141, c_143, c_144, nI_m1 (a := ka) (by omega), ki_cl (n := ka) (by omega)])
                        exact W.iret (v := 0) hx hb hr (fun t ht hW => ⟨⟨0, mS (mS (mS M 28 ρ) 28 8) 28 7, rfl, ⟨by rw [hG], by rw [hG]; simp only [mS_s]⟩, by rw [ht]; exact hP, va_K.moved hW.alike hK, hD⟩, hS.F ht⟩) hS.2.2 dX6_getsNow_309
                    · refine lv_aload_n hx hb dX6_getsNow_260 rfl (lv_at hl 8 rfl) ?_
                      refine lv_bipush (v := 6) hx hb dX6_getsNow_261 (by decide) ?_
                      refine km_puti hx hb htT hown hK hP hD hS 28 (by decide) rfl (htT _ m_fl_X6_165) rfl (by decide +kernel) dX6_getsNow_263 (fun H locs hP hD hS => ?_)
                      refine lv_goto (tgt := 290) hx hb dX6_getsNow_266 (by decide) ?_
                      refine lv_aload_n hx hb dX6_getsNow_290 rfl (lv_at hl 8 rfl) ?_
                      refine km_getiv (x := 6) hx hb htT hown hK hP 28 (by decide) rfl (htT _ m_fl_X6_165) rfl dX6_getsNow_291 ?_
                      refine lv_bipush (v := 8) hx hb dX6_getsNow_294 (by decide) ?_
                      refine lv_icmp_ne (tgt := 308) hx hb dX6_getsNow_296 (by decide) (fun _ => ?_) (fun c_149 => absurd c_149 (by decide))
                      refine lv_iconst (v := 0) hx hb dX6_getsNow_308 (by decide) ?_
                      have hlate2 : ¬ M.2 11 i = 0 → ¬ (¬ M.2 15 i = -1 ∧ ¬ (rG M.2 (M.1 2) (M.2 11) (fun k => rFar M.2 k (M.1 1)) (nI uu) f g na ru d (M.2 15 i).toNatClampNeg).1 = M.2 16 i) := hlate
                      have hG : rGx M.2 (M.1 2) (M.2 11) (nI uu) f g na (ru i) (fun j => (rG M.2 (M.1 2) (M.2 11) (fun k => rFar M.2 k (M.1 1)) (nI uu) f g na ru d j).1) i far = (0, 6) := by
                        unfold rGx
                        by_cases h11 : M.2 11 i = 0
                        · first | (simp [h11]; done) | exact absurd h11 (by assumption)
                        · have hl9 := hlate h11
                          first | exact absurd (by assumption) h11 | (rw [if_neg h11, if_neg hl9]; simp [era, erh, c_124, c_126, c_129, c_130, c_141, c_143, nI_m1 (a := ka) (by omega), ki_cl (n := ka) (by omega)])
                      exact W.iret (v := 0) hx hb hr (fun t ht hW => ⟨⟨0, mS (mS (mS M 28 ρ) 28 8) 28 6, rfl, ⟨by rw [hG], by rw [hG]; simp only [mS_s]⟩, by rw [ht]; exact hP, va_K.moved hW.alike hK, hD⟩, hS.F ht⟩) hS.2.2 dX6_getsNow_309
                  · refine lv_aload_n hx hb dX6_getsNow_235 rfl (lv_at hl 8 rfl) ?_
                    refine lv_iconst (v := 5) hx hb dX6_getsNow_236 (by decide) ?_
                    refine km_puti hx hb htT hown hK hP hD hS 28 (by decide) rfl (htT _ m_fl_X6_165) rfl (by decide +kernel) dX6_getsNow_237 (fun H locs hP hD hS => ?_)
                    refine lv_goto (tgt := 290) hx hb dX6_getsNow_240 (by decide) ?_
                    refine lv_aload_n hx hb dX6_getsNow_290 rfl (lv_at hl 8 rfl) ?_
                    refine km_getiv (x := 5) hx hb htT hown hK hP 28 (by decide) rfl (htT _ m_fl_X6_165) rfl dX6_getsNow_291 ?_
                    refine lv_bipush (v := 8) hx hb dX6_getsNow_294 (by decide) ?_
                    refine lv_icmp_ne (tgt := 308) hx hb dX6_getsNow_296 (by decide) (fun _ => ?_) (fun c_150 => absurd c_150 (by decide))
                    refine lv_iconst (v := 0) hx hb dX6_getsNow_308 (by decide) ?_
                    have hlate2 : ¬ M.2 11 i = 0 → ¬ (¬ M.2 15 i = -1 ∧ ¬ (rG M.2 (M.1 2) (M.2 11) (fun k => rFar M.2 k (M.1 1)) (nI uu) f g na ru d (M.2 15 i).toNatClampNeg).1 = M.2 16 i) := hlate
                    have hG : rGx M.2 (M.1 2) (M.2 11) (nI uu) f g na (ru i) (fun j => (rG M.2 (M.1 2) (M.2 11) (fun k => rFar M.2 k (M.1 1)) (nI uu) f g na ru d j).1) i far = (0, 5) := by
                      unfold rGx
                      by_cases h11 : M.2 11 i = 0
                      · first | (simp [h11]; done) | exact absurd h11 (by assumption)
                      · have hl9 := hlate h11
                        first | exact absurd (by assumption) h11 | (rw [if_neg h11, if_neg hl9]; simp [era, erh, c_124, c_126, c_129, c_130, c_141, nI_m1 (a := ka) (by omega), ki_cl (n := ka) (by omega)])
                    exact W.iret (v := 0) hx hb hr (fun t ht hW => ⟨⟨0, mS (mS (mS M 28 ρ) 28 8) 28 5, rfl, ⟨by rw [hG], by rw [hG]; simp only [mS_s]⟩, by rw [ht]; exact hP, va_K.moved hW.alike hK, hD⟩, hS.F ht⟩) hS.2.2 dX6_getsNow_309
              · replace c_129 := Int32.not_le.mp c_129
                refine lv_aload_n hx hb dX6_getsNow_183 rfl (lv_at hl 8 rfl) ?_
                refine lv_iconst (v := 4) hx hb dX6_getsNow_184 (by decide) ?_
                refine km_puti hx hb htT hown hK hP hD hS 28 (by decide) rfl (htT _ m_fl_X6_165) rfl (by decide +kernel) dX6_getsNow_185 (fun H locs hP hD hS => ?_)
                refine lv_goto (tgt := 290) hx hb dX6_getsNow_188 (by decide) ?_
                refine lv_aload_n hx hb dX6_getsNow_290 rfl (lv_at hl 8 rfl) ?_
                refine km_getiv (x := 4) hx hb htT hown hK hP 28 (by decide) rfl (htT _ m_fl_X6_165) rfl dX6_getsNow_291 ?_
                refine lv_bipush (v := 8) hx hb dX6_getsNow_294 (by decide) ?_
                refine lv_icmp_ne (tgt := 308) hx hb dX6_getsNow_296 (by decide) (fun _ => ?_) (fun c_151 => absurd c_151 (by decide))
                refine lv_iconst (v := 0) hx hb dX6_getsNow_308 (by decide) ?_
                have hlate2 : ¬ M.2 11 i = 0 → ¬ (¬ M.2 15 i = -1 ∧ ¬ (rG M.2 (M.1 2) (M.2 11) (fun k => rFar M.2 k (M.1 1)) (nI uu) f g na ru d (M.2 15 i).toNatClampNeg).1 = M.2 16 i) := hlate
                have hG : rGx M.2 (M.1 2) (M.2 11) (nI uu) f g na (ru i) (fun j => (rG M.2 (M.1 2) (M.2 11) (fun k => rFar M.2 k (M.1 1)) (nI uu) f g na ru d j).1) i far = (0, 4) := by
                  unfold rGx
                  by_cases h11 : M.2 11 i = 0
                  · first | (simp [h11]; done) | exact absurd h11 (by assumption)
                  · have hl9 := hlate h11
                    first | exact absurd (by assumption) h11 | (rw [if_neg h11, if_neg hl9]; simp [era, erh, c_124, c_126, c_129, nI_m1 (a := ka) (by omega), ki_cl (n := ka) (by omega)])
                exact W.iret (v := 0) hx hb hr (fun t ht hW => ⟨⟨0, mS (mS (mS M 28 ρ) 28 8) 28 4, rfl, ⟨by rw [hG], by rw [hG]; simp only [mS_s]⟩, by rw [ht]; exact hP, va_K.moved hW.alike hK, hD⟩, hS.F ht⟩) hS.2.2 dX6_getsNow_309
            · refine lv_iload hx hb dX6_getsNow_112 (lv_at hl 1 rfl) ?_
              refine lv_iconst (v := (-1)) hx hb dX6_getsNow_114 (by decide) ?_
              refine lv_icmp_eq (tgt := 131) hx hb dX6_getsNow_115 (by decide) (fun c_152 => ?_) (fun c_152 => ?_)
              · exact absurd c_152 (nI_m1 (by omega))
              · refine lv_aload_n hx hb dX6_getsNow_118 rfl (lv_at hl 8 rfl) ?_
                refine lv_iconst (v := 2) hx hb dX6_getsNow_119 (by decide) ?_
                refine km_puti hx hb htT hown hK hP hD hS 28 (by decide) rfl (htT _ m_fl_X6_165) rfl (by decide +kernel) dX6_getsNow_120 (fun H locs hP hD hS => ?_)
                refine lv_aload_n hx hb dX6_getsNow_123 rfl (lv_at hl 8 rfl) ?_
                refine km_getr hx hb htT hown hK hP 25 (by decide) rfl (htT _ m_fl_X6_71) dX6_getsNow_124 ?_
                refine lv_iload hx hb dX6_getsNow_127 (lv_at hl 1 rfl) ?_
                refine km_ialdv (x := (M.2 25) ka) hx hb hK hP 25 rfl rfl (show vp_in (nI (ka)) 100 from ki_in (by omega) (by decide)) (congrArg _ (ki_cl (by omega))) dX6_getsNow_129 ?_
                have hlate2 : ¬ M.2 11 i = 0 → ¬ (¬ M.2 15 i = -1 ∧ ¬ (rG M.2 (M.1 2) (M.2 11) (fun k => rFar M.2 k (M.1 1)) (nI uu) f g na ru d (M.2 15 i).toNatClampNeg).1 = M.2 16 i) := hlate
                have hG : rGx M.2 (M.1 2) (M.2 11) (nI uu) f g na (ru i) (fun j => (rG M.2 (M.1 2) (M.2 11) (fun k => rFar M.2 k (M.1 1)) (nI uu) f g na ru d j).1) i far = ((M.2 25) ka, 2) := by
                  unfold rGx
                  by_cases h11 : M.2 11 i = 0
                  · first | (simp [h11]; done) | exact absurd h11 (by assumption)
                  · have hl9 := hlate h11
                    first | exact absurd (by assumption) h11 | (rw [if_neg h11, if_neg hl9]; simp [era, erh, c_124, c_126, nI_m1 (a := ka) (by omega), ki_cl (n := ka) (by omega)])
                exact W.iret (v := (M.2 25) ka) hx hb hr (fun t ht hW => ⟨⟨(M.2 25) ka, mS (mS (mS M 28 ρ) 28 8) 28 2, rfl, ⟨by rw [hG], by rw [hG]; simp only [mS_s]⟩, by rw [ht]; exact hP, va_K.moved hW.alike hK, hD⟩, hS.F ht⟩) hS.2.2 dX6_getsNow_130
          · refine lv_aload_n hx hb dX6_getsNow_82 rfl (lv_at hl 8 rfl) ?_
            refine lv_iconst (v := 0) hx hb dX6_getsNow_83 (by decide) ?_
            refine km_puti hx hb htT hown hK hP hD hS 28 (by decide) rfl (htT _ m_fl_X6_165) rfl (by decide +kernel) dX6_getsNow_84 (fun H locs hP hD hS => ?_)
            refine lv_goto (tgt := 290) hx hb dX6_getsNow_87 (by decide) ?_
            refine lv_aload_n hx hb dX6_getsNow_290 rfl (lv_at hl 8 rfl) ?_
            refine km_getiv (x := 0) hx hb htT hown hK hP 28 (by decide) rfl (htT _ m_fl_X6_165) rfl dX6_getsNow_291 ?_
            refine lv_bipush (v := 8) hx hb dX6_getsNow_294 (by decide) ?_
            refine lv_icmp_ne (tgt := 308) hx hb dX6_getsNow_296 (by decide) (fun _ => ?_) (fun c_153 => absurd c_153 (by decide))
            refine lv_iconst (v := 0) hx hb dX6_getsNow_308 (by decide) ?_
            have hlate2 : ¬ M.2 11 i = 0 → ¬ (¬ M.2 15 i = -1 ∧ ¬ (rG M.2 (M.1 2) (M.2 11) (fun k => rFar M.2 k (M.1 1)) (nI uu) f g na ru d (M.2 15 i).toNatClampNeg).1 = M.2 16 i) := hlate
            have hG : rGx M.2 (M.1 2) (M.2 11) (nI uu) f g na (ru i) (fun j => (rG M.2 (M.1 2) (M.2 11) (fun k => rFar M.2 k (M.1 1)) (nI uu) f g na ru d j).1) i far = (0, 0) := by
              unfold rGx
              by_cases h11 : M.2 11 i = 0
              · first | (simp [h11]; done) | exact absurd h11 (by assumption)
              · have hl9 := hlate h11
                first | exact absurd (by assumption) h11 | (rw [if_neg h11, if_neg hl9]; simp [era, erh, c_124, nI_m1 (a := ka) (by omega), ki_cl (n := ka) (by omega)])
            exact W.iret (v := 0) hx hb hr (fun t ht hW => ⟨⟨0, mS (mS (mS M 28 ρ) 28 8) 28 0, rfl, ⟨by rw [hG], by rw [hG]; simp only [mS_s]⟩, by rw [ht]; exact hP, va_K.moved hW.alike hK, hD⟩, hS.F ht⟩) hS.2.2 dX6_getsNow_309
        · rw [hq_123.1.trans erh]
          have hru5 := (hsw i hi).1
          refine lv_istore (lv' := [(8, .int (nI kh)), (7, .int (nI ka)), (6, .int 0), (5, .int far), (4, .int g), (3, .int f), (2, .int (nI uu)), (1, .int (nI i)), (0, .ref am)]) hx hb dX6_getsNow_65 hl (by decide) rfl (fun ls hl => ?_)
          refine lv_aload_n hx hb dX6_getsNow_67 rfl (lv_at hl 8 rfl) ?_
          refine lv_bipush (v := 8) hx hb dX6_getsNow_68 (by decide) ?_
          refine km_puti hx hb htT hown hK hP hD hS 28 (by decide) rfl (htT _ m_fl_X6_165) rfl (by decide +kernel) dX6_getsNow_70 (fun H locs hP hD hS => ?_)
          refine lv_aload_n hx hb dX6_getsNow_73 rfl (lv_at hl 8 rfl) ?_
          refine km_getr hx hb htT hown hK hP 11 (by decide) rfl (htT _ m_fl_X6_32) dX6_getsNow_74 ?_
          refine lv_iload_n hx hb dX6_getsNow_77 rfl (lv_at hl 7 rfl) ?_
          refine km_zaldv (x := (M.2 11) i) hx hb hK hP 11 rfl rfl (show vp_in (nI (i)) 8 from ki_in (by omega) (by decide)) (congrArg _ (ki_cl (by omega))) dX6_getsNow_78 ?_
          refine lv_if_ne (tgt := 90) hx hb dX6_getsNow_79 (by decide) (fun c_154 => ?_) (fun c_154 => ?_)
          · refine lv_iload hx hb dX6_getsNow_90 (lv_at hl 2 rfl) ?_
            refine lv_if_eq (tgt := 103) hx hb dX6_getsNow_92 (by decide) (fun _ => ?_) (fun c_155 => absurd c_155 (by decide))
            refine lv_aload_n hx hb dX6_getsNow_103 rfl (lv_at hl 8 rfl) ?_
            refine km_getr hx hb htT hown hK hP 10 (by decide) rfl (htT _ m_fl_X6_28) dX6_getsNow_104 ?_
            refine lv_iload_n hx hb dX6_getsNow_107 rfl (lv_at hl 7 rfl) ?_
            refine km_zaldv (x := (M.2 10) i) hx hb hK hP 10 rfl rfl (show vp_in (nI (i)) 8 from ki_in (by omega) (by decide)) (congrArg _ (ki_cl (by omega))) dX6_getsNow_108 ?_
            refine lv_if_eq (tgt := 131) hx hb dX6_getsNow_109 (by decide) (fun c_156 => ?_) (fun c_156 => ?_)
            · refine lv_iload hx hb dX6_getsNow_131 (lv_at hl 0 rfl) ?_
              refine lv_iconst (v := (-1)) hx hb dX6_getsNow_133 (by decide) ?_
              refine lv_icmp_eq (tgt := 169) hx hb dX6_getsNow_134 (by decide) (fun c_157 => ?_) (fun c_157 => ?_)
              · exact absurd c_157 (nI_m1 (by omega))
              · refine lv_aload_n hx hb dX6_getsNow_137 rfl (lv_at hl 8 rfl) ?_
                refine km_getr hx hb htT hown hK hP 21 (by decide) rfl (htT _ m_fl_X6_62) dX6_getsNow_138 ?_
                refine lv_iload_n hx hb dX6_getsNow_141 rfl (lv_at hl 7 rfl) ?_
                refine lv_iconst (v := 5) hx hb dX6_getsNow_142 (by decide) ?_
                refine lv_imul hx hb dX6_getsNow_143 ?_
                rw [show ((nI i) * 5 : Int32) = nI (5 * i) from (pk_mul i 5).trans (congrArg nI (by omega))]
                refine lv_iload hx hb dX6_getsNow_144 (lv_at hl 0 rfl) ?_
                refine lv_iadd hx hb dX6_getsNow_146 ?_
                rw [show ((nI (5 * i)) + (nI kh) : Int32) = nI (5 * i + kh) from (nI_add (5 * i) kh).trans (congrArg nI (by omega))]
                refine km_ialdv (x := (M.2 21) (5 * i + kh)) hx hb hK hP 21 rfl rfl (show vp_in (nI (5 * i + kh)) 40 from ki_in (by omega) (by decide)) (congrArg _ (ki_cl (by omega))) dX6_getsNow_147 ?_
                refine lv_iconst (v := (-1)) hx hb dX6_getsNow_148 (by decide) ?_
                refine lv_icmp_eq (tgt := 169) hx hb dX6_getsNow_149 (by decide) (fun c_158 => ?_) (fun c_158 => ?_)
                · refine lv_sipush (v := 999) hx hb dX6_getsNow_169 (by decide) ?_
                  refine lv_iload_n hx hb dX6_getsNow_172 rfl (lv_at hl 6 rfl) ?_
                  refine kc_i (va_runS (As := [.int 999, .int (nI uu)]) (rest := []) ⟨hx, hb, hml, hown, htT⟩ (m_bucketOf l D cA _ am r (mS (mS M 28 ρ) 28 8) 999 (nI uu)) (cwS 2 htT (kg_S m_ml_X6_148 m_st_X6_bucketOf m_in_X6 m_cd_X6_bucketOf) rfl rfl rfl (by decide +kernel) ⟨(show 0 + 1 ≤ 2 * d + 2 by omega), (show 8 + (3 + 11) + (0) ≤ 120 * d + 60 by omega)⟩) (kp_S hK hP hD hTB) rfl rfl hl.1 rfl (lv_room (Nat.le_of_ble_eq_true rfl)) dX6_getsNow_173 ⟨Nat.le_of_ble_eq_true rfl, Nat.le_of_ble_eq_true rfl⟩) hD hS hA (fun r_159 x_159 H locs hq_159 hP hD hS => ?_)
                  rw [hq_159.1]
                  rw [hq_159.2] at hP hD
                  refine lv_aload_n hx hb dX6_getsNow_176 rfl (lv_at hl 8 rfl) ?_
                  refine km_getiv (x := M.1 2) hx hb htT hown hK hP 2 (by decide) rfl (htT _ m_fl_X6_136) rfl dX6_getsNow_177 ?_
                  refine lv_icmp_ge (tgt := 191) hx hb dX6_getsNow_180 (by decide) (fun c_160 => ?_) (fun c_160 => ?_)
                  · replace c_160 := Int32.not_lt.mpr c_160
                    refine lv_aload_n hx hb dX6_getsNow_191 rfl (lv_at hl 8 rfl) ?_
                    refine km_getr hx hb htT hown hK hP 12 (by decide) rfl (htT _ m_fl_X6_35) dX6_getsNow_192 ?_
                    refine lv_iload_n hx hb dX6_getsNow_195 rfl (lv_at hl 7 rfl) ?_
                    refine km_ialdv (x := (M.2 12) i) hx hb hK hP 12 rfl rfl (show vp_in (nI (i)) 8 from ki_in (by omega) (by decide)) (congrArg _ (ki_cl (by omega))) dX6_getsNow_196 ?_
                    refine lv_iconst (v := (-1)) hx hb dX6_getsNow_197 (by decide) ?_
                    refine lv_icmp_eq (tgt := 243) hx hb dX6_getsNow_198 (by decide) (fun c_161 => ?_) (fun c_161 => ?_)
                    · refine lv_aload_n hx hb dX6_getsNow_243 rfl (lv_at hl 8 rfl) ?_
                      refine km_getr hx hb htT hown hK hP 4 (by decide) rfl (htT _ m_fl_X6_9) dX6_getsNow_244 ?_
                      refine lv_iload_n hx hb dX6_getsNow_247 rfl (lv_at hl 7 rfl) ?_
                      refine km_ialdv (x := (M.2 4) i) hx hb hK hP 4 rfl rfl (show vp_in (nI (i)) 8 from ki_in (by omega) (by decide)) (congrArg _ (ki_cl (by omega))) dX6_getsNow_248 ?_
                      refine lv_iconst (v := 1) hx hb dX6_getsNow_249 (by decide) ?_
                      refine lv_iadd hx hb dX6_getsNow_250 ?_
                      refine lv_iload_n hx hb dX6_getsNow_251 rfl (lv_at hl 6 rfl) ?_
                      refine kc_i (va_runS (As := [.int (((M.2 4) i) + 1), .int (nI uu)]) (rest := []) ⟨hx, hb, hml, hown, htT⟩ (m_bucketOf l D cA _ am r (mS (mS M 28 ρ) 28 8) (((M.2 4) i) + 1) (nI uu)) (cwS 2 htT (kg_S m_ml_X6_148 m_st_X6_bucketOf m_in_X6 m_cd_X6_bucketOf) rfl rfl rfl (by decide +kernel) ⟨(show 0 + 1 ≤ 2 * d + 2 by omega), (show 8 + (3 + 11) + (0) ≤ 120 * d + 60 by omega)⟩) (kp_S hK hP hD hTB) rfl rfl hl.1 rfl (lv_room (Nat.le_of_ble_eq_true rfl)) dX6_getsNow_252 ⟨Nat.le_of_ble_eq_true rfl, Nat.le_of_ble_eq_true rfl⟩) hD hS hA (fun r_162 x_162 H locs hq_162 hP hD hS => ?_)
                      rw [hq_162.1]
                      rw [hq_162.2] at hP hD
                      refine lv_iload hx hb dX6_getsNow_255 (lv_at hl 3 rfl) ?_
                      refine lv_icmp_lt (tgt := 269) hx hb dX6_getsNow_257 (by decide) (fun c_163 => ?_) (fun c_163 => ?_)
                      · refine lv_aload_n hx hb dX6_getsNow_269 rfl (lv_at hl 8 rfl) ?_
                        refine km_getr hx hb htT hown hK hP 17 (by decide) rfl (htT _ m_fl_X6_50) dX6_getsNow_270 ?_
                        refine lv_iload_n hx hb dX6_getsNow_273 rfl (lv_at hl 7 rfl) ?_
                        refine km_ialdv (x := nI (ru i)) hx hb hK hP 17 rfl rfl (show vp_in (nI (i)) 8 from ki_in (by omega) (by decide)) ((congrArg _ (ki_cl (by omega))).trans (hsw i hi).2.1) dX6_getsNow_274 ?_
                        refine lv_if_le (tgt := 290) hx hb dX6_getsNow_275 (by decide) (fun c_164 => ?_) (fun c_164 => ?_)
                        · replace c_164 := (nI_leI (a := ru i) (b := 0) (by omega) (by omega)).mp c_164
                          refine lv_aload_n hx hb dX6_getsNow_290 rfl (lv_at hl 8 rfl) ?_
                          refine km_getiv (x := 8) hx hb htT hown hK hP 28 (by decide) rfl (htT _ m_fl_X6_165) rfl dX6_getsNow_291 ?_
                          refine lv_bipush (v := 8) hx hb dX6_getsNow_294 (by decide) ?_
                          refine lv_icmp_ne (tgt := 308) hx hb dX6_getsNow_296 (by decide) (fun c_165 => absurd c_165 (by decide)) (fun _ => ?_)
                          refine lv_aload_n hx hb dX6_getsNow_299 rfl (lv_at hl 8 rfl) ?_
                          refine lv_iload_n hx hb dX6_getsNow_300 rfl (lv_at hl 7 rfl) ?_
                          refine lv_iload_n hx hb dX6_getsNow_301 rfl (lv_at hl 6 rfl) ?_
                          obtain ⟨sa, hsa, h4⟩ := (hsw i hi).2.2.2.1
                          refine kc_i (va_runV (As := [.int (nI i), .int (nI uu)]) (rest := []) ⟨hx, hb, hml, hown, htT⟩ (m_split l D cA _ am r (mS (mS M 28 ρ) 28 8) i (by omega) sa uu hsa huu h4 (hsw i hi).2.2.2.2) (cwV 2 htT (kg_V m_ml_X6_168 m_im_X6_split m_sl_X6_split m_in_X6 m_cd_X6_split) rfl rfl rfl (by decide +kernel) ⟨(show 1 + 1 ≤ 2 * d + 2 by omega), (show 8 + (6 + 11) + (22) ≤ 120 * d + 60 by omega)⟩) (kp_V hK hP hD hTB (km_rc hK hP)) rfl rfl hl.1 rfl (lv_room (Nat.le_of_ble_eq_true rfl)) dX6_getsNow_302 ⟨Nat.le_of_ble_eq_true rfl, Nat.le_of_ble_eq_true rfl⟩) hD hS hA (fun r_166 x_166 H locs hq_166 hP hD hS => ?_)
                          rw [hq_166.1]
                          rw [hq_166.2] at hP hD
                          refine lv_goto (tgt := 309) hx hb dX6_getsNow_305 (by decide) ?_
                          have hlate2 : ¬ M.2 11 i = 0 → ¬ (¬ M.2 15 i = -1 ∧ ¬ (rG M.2 (M.1 2) (M.2 11) (fun k => rFar M.2 k (M.1 1)) (nI uu) f g na ru d (M.2 15 i).toNatClampNeg).1 = M.2 16 i) := hlate
                          have hG : rGx M.2 (M.1 2) (M.2 11) (nI uu) f g na (ru i) (fun j => (rG M.2 (M.1 2) (M.2 11) (fun k => rFar M.2 k (M.1 1)) (nI uu) f g na ru d j).1) i far = (rSplit M.2 i (kBkt (M.2 4 i) (nI uu)) 4 0 (M.2 6 (4 * i)), 8) := by
                            unfold rGx
                            by_cases h11 : M.2 11 i = 0
                            · first | (simp [h11]; done) | exact absurd h11 (by assumption)
                            · have hl9 := hlate h11
                              first | exact absurd (by assumption) h11 | (rw [if_neg h11, if_neg hl9]; simp [era, erh, c_154, c_156, c_158, c_160, c_161, c_163, c_164, nI_m1 (a := ka) (by omega), ki_cl (n := ka) (by omega), nI_m1 (a := kh) (by omega), ki_cl (n := kh) (by omega)])
                          exact W.iret (v := rSplit M.2 i (kBkt (M.2 4 i) (nI uu)) 4 0 (M.2 6 (4 * i))) hx hb hr (fun t ht hW => ⟨⟨rSplit M.2 i (kBkt (M.2 4 i) (nI uu)) 4 0 (M.2 6 (4 * i)), mS (mS M 28 ρ) 28 8, rfl, ⟨by rw [hG], by rw [hG]; simp only [mS_s]⟩, by rw [ht]; exact hP, va_K.moved hW.alike hK, hD⟩, hS.F ht⟩) hS.2.2 dX6_getsNow_309
                        · replace c_164 : ¬ (ru i ≤ 0) := fun h9 => c_164 ((nI_leI (a := ru i) (b := 0) (by omega) (by omega)).mpr h9)
                          refine lv_iload hx hb dX6_getsNow_278 (lv_at hl 0 rfl) ?_
                          refine lv_iconst (v := (-1)) hx hb dX6_getsNow_280 (by decide) ?_
                          refine lv_icmp_ne (tgt := 290) hx hb dX6_getsNow_281 (by decide) (fun c_167 => ?_) (fun c_167 => ?_)
                          · refine lv_aload_n hx hb dX6_getsNow_290 rfl (lv_at hl 8 rfl) ?_
                            refine km_getiv (x := 8) hx hb htT hown hK hP 28 (by decide) rfl (htT _ m_fl_X6_165) rfl dX6_getsNow_291 ?_
                            refine lv_bipush (v := 8) hx hb dX6_getsNow_294 (by decide) ?_
                            refine lv_icmp_ne (tgt := 308) hx hb dX6_getsNow_296 (by decide) (fun c_168 => absurd c_168 (by decide)) (fun _ => ?_)
                            refine lv_aload_n hx hb dX6_getsNow_299 rfl (lv_at hl 8 rfl) ?_
                            refine lv_iload_n hx hb dX6_getsNow_300 rfl (lv_at hl 7 rfl) ?_
                            refine lv_iload_n hx hb dX6_getsNow_301 rfl (lv_at hl 6 rfl) ?_
                            obtain ⟨sa, hsa, h4⟩ := (hsw i hi).2.2.2.1
                            refine kc_i (va_runV (As := [.int (nI i), .int (nI uu)]) (rest := []) ⟨hx, hb, hml, hown, htT⟩ (m_split l D cA _ am r (mS (mS M 28 ρ) 28 8) i (by omega) sa uu hsa huu h4 (hsw i hi).2.2.2.2) (cwV 2 htT (kg_V m_ml_X6_168 m_im_X6_split m_sl_X6_split m_in_X6 m_cd_X6_split) rfl rfl rfl (by decide +kernel) ⟨(show 1 + 1 ≤ 2 * d + 2 by omega), (show 8 + (6 + 11) + (22) ≤ 120 * d + 60 by omega)⟩) (kp_V hK hP hD hTB (km_rc hK hP)) rfl rfl hl.1 rfl (lv_room (Nat.le_of_ble_eq_true rfl)) dX6_getsNow_302 ⟨Nat.le_of_ble_eq_true rfl, Nat.le_of_ble_eq_true rfl⟩) hD hS hA (fun r_169 x_169 H locs hq_169 hP hD hS => ?_)
                            rw [hq_169.1]
                            rw [hq_169.2] at hP hD
                            refine lv_goto (tgt := 309) hx hb dX6_getsNow_305 (by decide) ?_
                            have hlate2 : ¬ M.2 11 i = 0 → ¬ (¬ M.2 15 i = -1 ∧ ¬ (rG M.2 (M.1 2) (M.2 11) (fun k => rFar M.2 k (M.1 1)) (nI uu) f g na ru d (M.2 15 i).toNatClampNeg).1 = M.2 16 i) := hlate
                            have hG : rGx M.2 (M.1 2) (M.2 11) (nI uu) f g na (ru i) (fun j => (rG M.2 (M.1 2) (M.2 11) (fun k => rFar M.2 k (M.1 1)) (nI uu) f g na ru d j).1) i far = (rSplit M.2 i (kBkt (M.2 4 i) (nI uu)) 4 0 (M.2 6 (4 * i)), 8) := by
                              unfold rGx
                              by_cases h11 : M.2 11 i = 0
                              · first | (simp [h11]; done) | exact absurd h11 (by assumption)
                              · have hl9 := hlate h11
                                first | exact absurd (by assumption) h11 | (rw [if_neg h11, if_neg hl9]; simp [era, erh, c_154, c_156, c_158, c_160, c_161, c_163, c_164, nI_m1 (a := ka) (by omega), ki_cl (n := ka) (by omega), nI_m1 (a := kh) (by omega), ki_cl (n := kh) (by omega)])
                            exact W.iret (v := rSplit M.2 i (kBkt (M.2 4 i) (nI uu)) 4 0 (M.2 6 (4 * i))) hx hb hr (fun t ht hW => ⟨⟨rSplit M.2 i (kBkt (M.2 4 i) (nI uu)) 4 0 (M.2 6 (4 * i)), mS (mS M 28 ρ) 28 8, rfl, ⟨by rw [hG], by rw [hG]; simp only [mS_s]⟩, by rw [ht]; exact hP, va_K.moved hW.alike hK, hD⟩, hS.F ht⟩) hS.2.2 dX6_getsNow_309
                          · exact absurd c_167 (nI_m1 (by omega))
                      · refine lv_aload_n hx hb dX6_getsNow_260 rfl (lv_at hl 8 rfl) ?_
                        refine lv_bipush (v := 6) hx hb dX6_getsNow_261 (by decide) ?_
                        refine km_puti hx hb htT hown hK hP hD hS 28 (by decide) rfl (htT _ m_fl_X6_165) rfl (by decide +kernel) dX6_getsNow_263 (fun H locs hP hD hS => ?_)
                        refine lv_goto (tgt := 290) hx hb dX6_getsNow_266 (by decide) ?_
                        refine lv_aload_n hx hb dX6_getsNow_290 rfl (lv_at hl 8 rfl) ?_
                        refine km_getiv (x := 6) hx hb htT hown hK hP 28 (by decide) rfl (htT _ m_fl_X6_165) rfl dX6_getsNow_291 ?_
                        refine lv_bipush (v := 8) hx hb dX6_getsNow_294 (by decide) ?_
                        refine lv_icmp_ne (tgt := 308) hx hb dX6_getsNow_296 (by decide) (fun _ => ?_) (fun c_170 => absurd c_170 (by decide))
                        refine lv_iconst (v := 0) hx hb dX6_getsNow_308 (by decide) ?_
                        have hlate2 : ¬ M.2 11 i = 0 → ¬ (¬ M.2 15 i = -1 ∧ ¬ (rG M.2 (M.1 2) (M.2 11) (fun k => rFar M.2 k (M.1 1)) (nI uu) f g na ru d (M.2 15 i).toNatClampNeg).1 = M.2 16 i) := hlate
                        have hG : rGx M.2 (M.1 2) (M.2 11) (nI uu) f g na (ru i) (fun j => (rG M.2 (M.1 2) (M.2 11) (fun k => rFar M.2 k (M.1 1)) (nI uu) f g na ru d j).1) i far = (0, 6) := by
                          unfold rGx
                          by_cases h11 : M.2 11 i = 0
                          · first | (simp [h11]; done) | exact absurd h11 (by assumption)
                          · have hl9 := hlate h11
                            first | exact absurd (by assumption) h11 | (rw [if_neg h11, if_neg hl9]; simp [era, erh, c_154, c_156, c_158, c_160, c_161, c_163, nI_m1 (a := ka) (by omega), ki_cl (n := ka) (by omega), nI_m1 (a := kh) (by omega), ki_cl (n := kh) (by omega)])
                        exact W.iret (v := 0) hx hb hr (fun t ht hW => ⟨⟨0, mS (mS (mS M 28 ρ) 28 8) 28 6, rfl, ⟨by rw [hG], by rw [hG]; simp only [mS_s]⟩, by rw [ht]; exact hP, va_K.moved hW.alike hK, hD⟩, hS.F ht⟩) hS.2.2 dX6_getsNow_309
                    · refine lv_sipush (v := 500) hx hb dX6_getsNow_201 (by decide) ?_
                      refine lv_aload_n hx hb dX6_getsNow_204 rfl (lv_at hl 8 rfl) ?_
                      refine km_getr hx hb htT hown hK hP 12 (by decide) rfl (htT _ m_fl_X6_35) dX6_getsNow_205 ?_
                      refine lv_iload_n hx hb dX6_getsNow_208 rfl (lv_at hl 7 rfl) ?_
                      refine km_ialdv (x := (M.2 12) i) hx hb hK hP 12 rfl rfl (show vp_in (nI (i)) 8 from ki_in (by omega) (by decide)) (congrArg _ (ki_cl (by omega))) dX6_getsNow_209 ?_
                      refine lv_iadd hx hb dX6_getsNow_210 ?_
                      refine lv_iload_n hx hb dX6_getsNow_211 rfl (lv_at hl 6 rfl) ?_
                      refine kc_i (va_runS (As := [.int (500 + ((M.2 12) i)), .int (nI uu)]) (rest := []) ⟨hx, hb, hml, hown, htT⟩ (m_bucketOf l D cA _ am r (mS (mS M 28 ρ) 28 8) (500 + ((M.2 12) i)) (nI uu)) (cwS 2 htT (kg_S m_ml_X6_148 m_st_X6_bucketOf m_in_X6 m_cd_X6_bucketOf) rfl rfl rfl (by decide +kernel) ⟨(show 0 + 1 ≤ 2 * d + 2 by omega), (show 8 + (3 + 11) + (0) ≤ 120 * d + 60 by omega)⟩) (kp_S hK hP hD hTB) rfl rfl hl.1 rfl (lv_room (Nat.le_of_ble_eq_true rfl)) dX6_getsNow_212 ⟨Nat.le_of_ble_eq_true rfl, Nat.le_of_ble_eq_true rfl⟩) hD hS hA (fun r_171 x_171 H locs hq_171 hP hD hS => ?_)
                      rw [hq_171.1]
                      rw [hq_171.2] at hP hD
                      refine lv_aload_n hx hb dX6_getsNow_215 rfl (lv_at hl 8 rfl) ?_
                      refine km_getr hx hb htT hown hK hP 13 (by decide) rfl (htT _ m_fl_X6_38) dX6_getsNow_216 ?_
                      refine lv_iload_n hx hb dX6_getsNow_219 rfl (lv_at hl 7 rfl) ?_
                      refine km_ialdv (x := (M.2 13) i) hx hb hK hP 13 rfl rfl (show vp_in (nI (i)) 8 from ki_in (by omega) (by decide)) (congrArg _ (ki_cl (by omega))) dX6_getsNow_220 ?_
                      refine lv_aload_n hx hb dX6_getsNow_221 rfl (lv_at hl 8 rfl) ?_
                      refine km_getr hx hb htT hown hK hP 14 (by decide) rfl (htT _ m_fl_X6_41) dX6_getsNow_222 ?_
                      refine lv_iload_n hx hb dX6_getsNow_225 rfl (lv_at hl 7 rfl) ?_
                      refine km_ialdv (x := (M.2 14) i) hx hb hK hP 14 rfl rfl (show vp_in (nI (i)) 8 from ki_in (by omega) (by decide)) (congrArg _ (ki_cl (by omega))) dX6_getsNow_226 ?_
                      refine lv_iconst (v := 1) hx hb dX6_getsNow_227 (by decide) ?_
                      refine lv_isub hx hb dX6_getsNow_228 ?_
                      refine kc_i (va_runS (As := [.int (kBkt (500 + ((M.2 12) i)) (nI uu)), .int ((M.2 13) i), .int (((M.2 14) i) - 1)]) (rest := []) ⟨hx, hb, hml, hown, htT⟩ (m_isIn l D cA _ am r (mS (mS M 28 ρ) 28 8) (kBkt (500 + ((M.2 12) i)) (nI uu)) ((M.2 13) i) (((M.2 14) i) - 1)) (cwS 3 htT (kg_S m_ml_X6_87 m_st_X6_isIn m_in_X6 m_cd_X6_isIn) rfl rfl rfl (by decide +kernel) ⟨(show 0 + 1 ≤ 2 * d + 2 by omega), (show 8 + (3 + 11) + (0) ≤ 120 * d + 60 by omega)⟩) (kp_S hK hP hD hTB) rfl rfl hl.1 rfl (lv_room (Nat.le_of_ble_eq_true rfl)) dX6_getsNow_229 ⟨Nat.le_of_ble_eq_true rfl, Nat.le_of_ble_eq_true rfl⟩) hD hS hA (fun r_172 x_172 H locs hq_172 hP hD hS => ?_)
                      rw [hq_172.1]
                      rw [hq_172.2] at hP hD
                      refine lv_if_ne (tgt := 243) hx hb dX6_getsNow_232 (by decide) (fun c_173 => ?_) (fun c_173 => ?_)
                      · refine lv_aload_n hx hb dX6_getsNow_243 rfl (lv_at hl 8 rfl) ?_
                        refine km_getr hx hb htT hown hK hP 4 (by decide) rfl (htT _ m_fl_X6_9) dX6_getsNow_244 ?_
                        refine lv_iload_n hx hb dX6_getsNow_247 rfl (lv_at hl 7 rfl) ?_
                        refine km_ialdv (x := (M.2 4) i) hx hb hK hP 4 rfl rfl (show vp_in (nI (i)) 8 from ki_in (by omega) (by decide)) (congrArg _ (ki_cl (by omega))) dX6_getsNow_248 ?_
                        refine lv_iconst (v := 1) hx hb dX6_getsNow_249 (by decide) ?_
                        refine lv_iadd hx hb dX6_getsNow_250 ?_
                        refine lv_iload_n hx hb dX6_getsNow_251 rfl (lv_at hl 6 rfl) ?_
                        refine kc_i (va_runS (As := [.int (((M.2 4) i) + 1), .int (nI uu)]) (rest := []) ⟨hx, hb, hml, hown, htT⟩ (m_bucketOf l D cA _ am r (mS (mS M 28 ρ) 28 8) (((M.2 4) i) + 1) (nI uu)) (cwS 2 htT (kg_S m_ml_X6_148 m_st_X6_bucketOf m_in_X6 m_cd_X6_bucketOf) rfl rfl rfl (by decide +kernel) ⟨(show 0 + 1 ≤ 2 * d + 2 by omega), (show 8 + (3 + 11) + (0) ≤ 120 * d + 60 by omega)⟩) (kp_S hK hP hD hTB) rfl rfl hl.1 rfl (lv_room (Nat.le_of_ble_eq_true rfl)) dX6_getsNow_252 ⟨Nat.le_of_ble_eq_true rfl, Nat.le_of_ble_eq_true rfl⟩) hD hS hA (fun r_174 x_174 H locs hq_174 hP hD hS => ?_)
                        rw [hq_174.1]
                        rw [hq_174.2] at hP hD
                        refine lv_iload hx hb dX6_getsNow_255 (lv_at hl 3 rfl) ?_
                        refine lv_icmp_lt (tgt := 269) hx hb dX6_getsNow_257 (by decide) (fun c_175 => ?_) (fun c_175 => ?_)
                        · refine lv_aload_n hx hb dX6_getsNow_269 rfl (lv_at hl 8 rfl) ?_
                          refine km_getr hx hb htT hown hK hP 17 (by decide) rfl (htT _ m_fl_X6_50) dX6_getsNow_270 ?_
                          refine lv_iload_n hx hb dX6_getsNow_273 rfl (lv_at hl 7 rfl) ?_
                          refine km_ialdv (x := nI (ru i)) hx hb hK hP 17 rfl rfl (show vp_in (nI (i)) 8 from ki_in (by omega) (by decide)) ((congrArg _ (ki_cl (by omega))).trans (hsw i hi).2.1) dX6_getsNow_274 ?_
                          refine lv_if_le (tgt := 290) hx hb dX6_getsNow_275 (by decide) (fun c_176 => ?_) (fun c_176 => ?_)
                          · replace c_176 := (nI_leI (a := ru i) (b := 0) (by omega) (by omega)).mp c_176
                            refine lv_aload_n hx hb dX6_getsNow_290 rfl (lv_at hl 8 rfl) ?_
                            refine km_getiv (x := 8) hx hb htT hown hK hP 28 (by decide) rfl (htT _ m_fl_X6_165) rfl dX6_getsNow_291 ?_
                            refine lv_bipush (v := 8) hx hb dX6_getsNow_294 (by decide) ?_
                            refine lv_icmp_ne (tgt := 308) hx hb dX6_getsNow_296 (by decide) (fun c_177 => absurd c_177 (by decide)) (fun _ => ?_)
                            refine lv_aload_n hx hb dX6_getsNow_299 rfl (lv_at hl 8 rfl) ?_
                            refine lv_iload_n hx hb dX6_getsNow_300 rfl (lv_at hl 7 rfl) ?_
                            refine lv_iload_n hx hb dX6_getsNow_301 rfl (lv_at hl 6 rfl) ?_
                            obtain ⟨sa, hsa, h4⟩ := (hsw i hi).2.2.2.1
                            refine kc_i (va_runV (As := [.int (nI i), .int (nI uu)]) (rest := []) ⟨hx, hb, hml, hown, htT⟩ (m_split l D cA _ am r (mS (mS M 28 ρ) 28 8) i (by omega) sa uu hsa huu h4 (hsw i hi).2.2.2.2) (cwV 2 htT (kg_V m_ml_X6_168 m_im_X6_split m_sl_X6_split m_in_X6 m_cd_X6_split) rfl rfl rfl (by decide +kernel) ⟨(show 1 + 1 ≤ 2 * d + 2 by omega), (show 8 + (6 + 11) + (22) ≤ 120 * d + 60 by omega)⟩) (kp_V hK hP hD hTB (km_rc hK hP)) rfl rfl hl.1 rfl (lv_room (Nat.le_of_ble_eq_true rfl)) dX6_getsNow_302 ⟨Nat.le_of_ble_eq_true rfl, Nat.le_of_ble_eq_true rfl⟩) hD hS hA (fun r_178 x_178 H locs hq_178 hP hD hS => ?_)
                            rw [hq_178.1]
                            rw [hq_178.2] at hP hD
                            refine lv_goto (tgt := 309) hx hb dX6_getsNow_305 (by decide) ?_
                            have hlate2 : ¬ M.2 11 i = 0 → ¬ (¬ M.2 15 i = -1 ∧ ¬ (rG M.2 (M.1 2) (M.2 11) (fun k => rFar M.2 k (M.1 1)) (nI uu) f g na ru d (M.2 15 i).toNatClampNeg).1 = M.2 16 i) := hlate
                            have hG : rGx M.2 (M.1 2) (M.2 11) (nI uu) f g na (ru i) (fun j => (rG M.2 (M.1 2) (M.2 11) (fun k => rFar M.2 k (M.1 1)) (nI uu) f g na ru d j).1) i far = (rSplit M.2 i (kBkt (M.2 4 i) (nI uu)) 4 0 (M.2 6 (4 * i)), 8) := by
                              unfold rGx
                              by_cases h11 : M.2 11 i = 0
                              · first | (simp [h11]; done) | exact absurd h11 (by assumption)
                              · have hl9 := hlate h11
                                first | exact absurd (by assumption) h11 | (rw [if_neg h11, if_neg hl9]; simp [era, erh, c_154, c_156, c_158, c_160, c_161, c_173, c_175, c_176, nI_m1 (a := ka) (by omega), ki_cl (n := ka) (by omega), nI_m1 (a := kh) (by omega), ki_cl (n := kh) (by omega)])
                            exact W.iret (v := rSplit M.2 i (kBkt (M.2 4 i) (nI uu)) 4 0 (M.2 6 (4 * i))) hx hb hr (fun t ht hW => ⟨⟨rSplit M.2 i (kBkt (M.2 4 i) (nI uu)) 4 0 (M.2 6 (4 * i)), mS (mS M 28 ρ) 28 8, rfl, ⟨by rw [hG], by rw [hG]; simp only [mS_s]⟩, by rw [ht]; exact hP, va_K.moved hW.alike hK, hD⟩, hS.F ht⟩) hS.2.2 dX6_getsNow_309
                          · replace c_176 : ¬ (ru i ≤ 0) := fun h9 => c_176 ((nI_leI (a := ru i) (b := 0) (by omega) (by omega)).mpr h9)
                            refine lv_iload hx hb dX6_getsNow_278 (lv_at hl 0 rfl) ?_
                            refine lv_iconst (v := (-1)) hx hb dX6_getsNow_280 (by decide) ?_
                            refine lv_icmp_ne (tgt := 290) hx hb dX6_getsNow_281 (by decide) (fun c_179 => ?_) (fun c_179 => ?_)
                            · refine lv_aload_n hx hb dX6_getsNow_290 rfl (lv_at hl 8 rfl) ?_
                              refine km_getiv (x := 8) hx hb htT hown hK hP 28 (by decide) rfl (htT _ m_fl_X6_165) rfl dX6_getsNow_291 ?_
                              refine lv_bipush (v := 8) hx hb dX6_getsNow_294 (by decide) ?_
                              refine lv_icmp_ne (tgt := 308) hx hb dX6_getsNow_296 (by decide) (fun c_180 => absurd c_180 (by decide)) (fun _ => ?_)
                              refine lv_aload_n hx hb dX6_getsNow_299 rfl (lv_at hl 8 rfl) ?_
                              refine lv_iload_n hx hb dX6_getsNow_300 rfl (lv_at hl 7 rfl) ?_
                              refine lv_iload_n hx hb dX6_getsNow_301 rfl (lv_at hl 6 rfl) ?_
                              obtain ⟨sa, hsa, h4⟩ := (hsw i hi).2.2.2.1
                              refine kc_i (va_runV (As := [.int (nI i), .int (nI uu)]) (rest := []) ⟨hx, hb, hml, hown, htT⟩ (m_split l D cA _ am r (mS (mS M 28 ρ) 28 8) i (by omega) sa uu hsa huu h4 (hsw i hi).2.2.2.2) (cwV 2 htT (kg_V m_ml_X6_168 m_im_X6_split m_sl_X6_split m_in_X6 m_cd_X6_split) rfl rfl rfl (by decide +kernel) ⟨(show 1 + 1 ≤ 2 * d + 2 by omega), (show 8 + (6 + 11) + (22) ≤ 120 * d + 60 by omega)⟩) (kp_V hK hP hD hTB (km_rc hK hP)) rfl rfl hl.1 rfl (lv_room (Nat.le_of_ble_eq_true rfl)) dX6_getsNow_302 ⟨Nat.le_of_ble_eq_true rfl, Nat.le_of_ble_eq_true rfl⟩) hD hS hA (fun r_181 x_181 H locs hq_181 hP hD hS => ?_)
                              rw [hq_181.1]
                              rw [hq_181.2] at hP hD
                              refine lv_goto (tgt := 309) hx hb dX6_getsNow_305 (by decide) ?_
                              have hlate2 : ¬ M.2 11 i = 0 → ¬ (¬ M.2 15 i = -1 ∧ ¬ (rG M.2 (M.1 2) (M.2 11) (fun k => rFar M.2 k (M.1 1)) (nI uu) f g na ru d (M.2 15 i).toNatClampNeg).1 = M.2 16 i) := hlate
                              have hG : rGx M.2 (M.1 2) (M.2 11) (nI uu) f g na (ru i) (fun j => (rG M.2 (M.1 2) (M.2 11) (fun k => rFar M.2 k (M.1 1)) (nI uu) f g na ru d j).1) i far = (rSplit M.2 i (kBkt (M.2 4 i) (nI uu)) 4 0 (M.2 6 (4 * i)), 8) := by
                                unfold rGx
                                by_cases h11 : M.2 11 i = 0
                                · first | (simp [h11]; done) | exact absurd h11 (by assumption)
                                · have hl9 := hlate h11
                                  first | exact absurd (by assumption) h11 | (rw [if_neg h11, if_neg hl9]; simp [era, erh, c_154, c_156, c_158, c_160, c_161, c_173, c_175, c_176, nI_m1 (a := ka) (by omega), ki_cl (n := ka) (by omega), nI_m1 (a := kh) (by omega), ki_cl (n := kh) (by omega)])
                              exact W.iret (v := rSplit M.2 i (kBkt (M.2 4 i) (nI uu)) 4 0 (M.2 6 (4 * i))) hx hb hr (fun t ht hW => ⟨⟨rSplit M.2 i (kBkt (M.2 4 i) (nI uu)) 4 0 (M.2 6 (4 * i)), mS (mS M 28 ρ) 28 8, rfl, ⟨by rw [hG], by rw [hG]; simp only [mS_s]⟩, by rw [ht]; exact hP, va_K.moved hW.alike hK, hD⟩, hS.F ht⟩) hS.2.2 dX6_getsNow_309
                            · exact absurd c_179 (nI_m1 (by omega))
                        · refine lv_aload_n hx hb dX6_getsNow_260 rfl (lv_at hl 8 rfl) ?_
                          refine lv_bipush (v := 6) hx hb dX6_getsNow_261 (by decide) ?_
                          refine km_puti hx hb htT hown hK hP hD hS 28 (by decide) rfl (htT _ m_fl_X6_165) rfl (by decide +kernel) dX6_getsNow_263 (fun H locs hP hD hS => ?_)
                          refine lv_goto (tgt := 290) hx hb dX6_getsNow_266 (by decide) ?_
                          refine lv_aload_n hx hb dX6_getsNow_290 rfl (lv_at hl 8 rfl) ?_
                          refine km_getiv (x := 6) hx hb htT hown hK hP 28 (by decide) rfl (htT _ m_fl_X6_165) rfl dX6_getsNow_291 ?_
                          refine lv_bipush (v := 8) hx hb dX6_getsNow_294 (by decide) ?_
                          refine lv_icmp_ne (tgt := 308) hx hb dX6_getsNow_296 (by decide) (fun _ => ?_) (fun c_182 => absurd c_182 (by decide))
                          refine lv_iconst (v := 0) hx hb dX6_getsNow_308 (by decide) ?_
                          have hlate2 : ¬ M.2 11 i = 0 → ¬ (¬ M.2 15 i = -1 ∧ ¬ (rG M.2 (M.1 2) (M.2 11) (fun k => rFar M.2 k (M.1 1)) (nI uu) f g na ru d (M.2 15 i).toNatClampNeg).1 = M.2 16 i) := hlate
                          have hG : rGx M.2 (M.1 2) (M.2 11) (nI uu) f g na (ru i) (fun j => (rG M.2 (M.1 2) (M.2 11) (fun k => rFar M.2 k (M.1 1)) (nI uu) f g na ru d j).1) i far = (0, 6) := by
                            unfold rGx
                            by_cases h11 : M.2 11 i = 0
                            · first | (simp [h11]; done) | exact absurd h11 (by assumption)
                            · have hl9 := hlate h11
                              first | exact absurd (by assumption) h11 | (rw [if_neg h11, if_neg hl9]; simp [era, erh, c_154, c_156, c_158, c_160, c_161, c_173, c_175, nI_m1 (a := ka) (by omega), ki_cl (n := ka) (by omega), nI_m1 (a := kh) (by omega), ki_cl (n := kh) (by omega)])
                          exact W.iret (v := 0) hx hb hr (fun t ht hW => ⟨⟨0, mS (mS (mS M 28 ρ) 28 8) 28 6, rfl, ⟨by rw [hG], by rw [hG]; simp only [mS_s]⟩, by rw [ht]; exact hP, va_K.moved hW.alike hK, hD⟩, hS.F ht⟩) hS.2.2 dX6_getsNow_309
                      · refine lv_aload_n hx hb dX6_getsNow_235 rfl (lv_at hl 8 rfl) ?_
                        refine lv_iconst (v := 5) hx hb dX6_getsNow_236 (by decide) ?_
                        refine km_puti hx hb htT hown hK hP hD hS 28 (by decide) rfl (htT _ m_fl_X6_165) rfl (by decide +kernel) dX6_getsNow_237 (fun H locs hP hD hS => ?_)
                        refine lv_goto (tgt := 290) hx hb dX6_getsNow_240 (by decide) ?_
                        refine lv_aload_n hx hb dX6_getsNow_290 rfl (lv_at hl 8 rfl) ?_
                        refine km_getiv (x := 5) hx hb htT hown hK hP 28 (by decide) rfl (htT _ m_fl_X6_165) rfl dX6_getsNow_291 ?_
                        refine lv_bipush (v := 8) hx hb dX6_getsNow_294 (by decide) ?_
                        refine lv_icmp_ne (tgt := 308) hx hb dX6_getsNow_296 (by decide) (fun _ => ?_) (fun c_183 => absurd c_183 (by decide))
                        refine lv_iconst (v := 0) hx hb dX6_getsNow_308 (by decide) ?_
                        have hlate2 : ¬ M.2 11 i = 0 → ¬ (¬ M.2 15 i = -1 ∧ ¬ (rG M.2 (M.1 2) (M.2 11) (fun k => rFar M.2 k (M.1 1)) (nI uu) f g na ru d (M.2 15 i).toNatClampNeg).1 = M.2 16 i) := hlate
                        have hG : rGx M.2 (M.1 2) (M.2 11) (nI uu) f g na (ru i) (fun j => (rG M.2 (M.1 2) (M.2 11) (fun k => rFar M.2 k (M.1 1)) (nI uu) f g na ru d j).1) i far = (0, 5) := by
                          unfold rGx
                          by_cases h11 : M.2 11 i = 0
                          · first | (simp [h11]; done) | exact absurd h11 (by assumption)
                          · have hl9 := hlate h11
                            first | exact absurd (by assumption) h11 | (rw [if_neg h11, if_neg hl9]; simp [era, erh, c_154, c_156, c_158, c_160, c_161, c_173, nI_m1 (a := ka) (by omega), ki_cl (n := ka) (by omega), nI_m1 (a := kh) (by omega), ki_cl (n := kh) (by omega)])
                        exact W.iret (v := 0) hx hb hr (fun t ht hW => ⟨⟨0, mS (mS (mS M 28 ρ) 28 8) 28 5, rfl, ⟨by rw [hG], by rw [hG]; simp only [mS_s]⟩, by rw [ht]; exact hP, va_K.moved hW.alike hK, hD⟩, hS.F ht⟩) hS.2.2 dX6_getsNow_309
                  · replace c_160 := Int32.not_le.mp c_160
                    refine lv_aload_n hx hb dX6_getsNow_183 rfl (lv_at hl 8 rfl) ?_
                    refine lv_iconst (v := 4) hx hb dX6_getsNow_184 (by decide) ?_
                    refine km_puti hx hb htT hown hK hP hD hS 28 (by decide) rfl (htT _ m_fl_X6_165) rfl (by decide +kernel) dX6_getsNow_185 (fun H locs hP hD hS => ?_)
                    refine lv_goto (tgt := 290) hx hb dX6_getsNow_188 (by decide) ?_
                    refine lv_aload_n hx hb dX6_getsNow_290 rfl (lv_at hl 8 rfl) ?_
                    refine km_getiv (x := 4) hx hb htT hown hK hP 28 (by decide) rfl (htT _ m_fl_X6_165) rfl dX6_getsNow_291 ?_
                    refine lv_bipush (v := 8) hx hb dX6_getsNow_294 (by decide) ?_
                    refine lv_icmp_ne (tgt := 308) hx hb dX6_getsNow_296 (by decide) (fun _ => ?_) (fun c_184 => absurd c_184 (by decide))
                    refine lv_iconst (v := 0) hx hb dX6_getsNow_308 (by decide) ?_
                    have hlate2 : ¬ M.2 11 i = 0 → ¬ (¬ M.2 15 i = -1 ∧ ¬ (rG M.2 (M.1 2) (M.2 11) (fun k => rFar M.2 k (M.1 1)) (nI uu) f g na ru d (M.2 15 i).toNatClampNeg).1 = M.2 16 i) := hlate
                    have hG : rGx M.2 (M.1 2) (M.2 11) (nI uu) f g na (ru i) (fun j => (rG M.2 (M.1 2) (M.2 11) (fun k => rFar M.2 k (M.1 1)) (nI uu) f g na ru d j).1) i far = (0, 4) := by
                      unfold rGx
                      by_cases h11 : M.2 11 i = 0
                      · first | (simp [h11]; done) | exact absurd h11 (by assumption)
                      · have hl9 := hlate h11
                        first | exact absurd (by assumption) h11 | (rw [if_neg h11, if_neg hl9]; simp [era, erh, c_154, c_156, c_158, c_160, nI_m1 (a := ka) (by omega), ki_cl (n := ka) (by omega), nI_m1 (a := kh) (by omega), ki_cl (n := kh) (by omega)])
                    exact W.iret (v := 0) hx hb hr (fun t ht hW => ⟨⟨0, mS (mS (mS M 28 ρ) 28 8) 28 4, rfl, ⟨by rw [hG], by rw [hG]; simp only [mS_s]⟩, by rw [ht]; exact hP, va_K.moved hW.alike hK, hD⟩, hS.F ht⟩) hS.2.2 dX6_getsNow_309
                · refine lv_aload_n hx hb dX6_getsNow_152 rfl (lv_at hl 8 rfl) ?_
                  refine lv_iconst (v := 3) hx hb dX6_getsNow_153 (by decide) ?_
                  refine km_puti hx hb htT hown hK hP hD hS 28 (by decide) rfl (htT _ m_fl_X6_165) rfl (by decide +kernel) dX6_getsNow_154 (fun H locs hP hD hS => ?_)
                  refine lv_aload_n hx hb dX6_getsNow_157 rfl (lv_at hl 8 rfl) ?_
                  refine km_getr hx hb htT hown hK hP 21 (by decide) rfl (htT _ m_fl_X6_62) dX6_getsNow_158 ?_
                  refine lv_iload_n hx hb dX6_getsNow_161 rfl (lv_at hl 7 rfl) ?_
                  refine lv_iconst (v := 5) hx hb dX6_getsNow_162 (by decide) ?_
                  refine lv_imul hx hb dX6_getsNow_163 ?_
                  rw [show ((nI i) * 5 : Int32) = nI (5 * i) from (pk_mul i 5).trans (congrArg nI (by omega))]
                  refine lv_iload hx hb dX6_getsNow_164 (lv_at hl 0 rfl) ?_
                  refine lv_iadd hx hb dX6_getsNow_166 ?_
                  rw [show ((nI (5 * i)) + (nI kh) : Int32) = nI (5 * i + kh) from (nI_add (5 * i) kh).trans (congrArg nI (by omega))]
                  refine km_ialdv (x := (M.2 21) (5 * i + kh)) hx hb hK hP 21 rfl rfl (show vp_in (nI (5 * i + kh)) 40 from ki_in (by omega) (by decide)) (congrArg _ (ki_cl (by omega))) dX6_getsNow_167 ?_
                  have hlate2 : ¬ M.2 11 i = 0 → ¬ (¬ M.2 15 i = -1 ∧ ¬ (rG M.2 (M.1 2) (M.2 11) (fun k => rFar M.2 k (M.1 1)) (nI uu) f g na ru d (M.2 15 i).toNatClampNeg).1 = M.2 16 i) := hlate
                  have hG : rGx M.2 (M.1 2) (M.2 11) (nI uu) f g na (ru i) (fun j => (rG M.2 (M.1 2) (M.2 11) (fun k => rFar M.2 k (M.1 1)) (nI uu) f g na ru d j).1) i far = ((M.2 21) (5 * i + kh), 3) := by
                    unfold rGx
                    by_cases h11 : M.2 11 i = 0
                    · first | (simp [h11]; done) | exact absurd h11 (by assumption)
                    · have hl9 := hlate h11
                      first | exact absurd (by assumption) h11 | (rw [if_neg h11, if_neg hl9]; simp [era, erh, c_154, c_156, c_158, nI_m1 (a := ka) (by omega), ki_cl (n := ka) (by omega), nI_m1 (a := kh) (by omega), ki_cl (n := kh) (by omega)])
                  exact W.iret (v := (M.2 21) (5 * i + kh)) hx hb hr (fun t ht hW => ⟨⟨(M.2 21) (5 * i + kh), mS (mS (mS M 28 ρ) 28 8) 28 3, rfl, ⟨by rw [hG], by rw [hG]; simp only [mS_s]⟩, by rw [ht]; exact hP, va_K.moved hW.alike hK, hD⟩, hS.F ht⟩) hS.2.2 dX6_getsNow_168
            · refine lv_iload hx hb dX6_getsNow_112 (lv_at hl 1 rfl) ?_
              refine lv_iconst (v := (-1)) hx hb dX6_getsNow_114 (by decide) ?_
              refine lv_icmp_eq (tgt := 131) hx hb dX6_getsNow_115 (by decide) (fun c_185 => ?_) (fun c_185 => ?_)
              · exact absurd c_185 (nI_m1 (by omega))
              · refine lv_aload_n hx hb dX6_getsNow_118 rfl (lv_at hl 8 rfl) ?_
                refine lv_iconst (v := 2) hx hb dX6_getsNow_119 (by decide) ?_
                refine km_puti hx hb htT hown hK hP hD hS 28 (by decide) rfl (htT _ m_fl_X6_165) rfl (by decide +kernel) dX6_getsNow_120 (fun H locs hP hD hS => ?_)
                refine lv_aload_n hx hb dX6_getsNow_123 rfl (lv_at hl 8 rfl) ?_
                refine km_getr hx hb htT hown hK hP 25 (by decide) rfl (htT _ m_fl_X6_71) dX6_getsNow_124 ?_
                refine lv_iload hx hb dX6_getsNow_127 (lv_at hl 1 rfl) ?_
                refine km_ialdv (x := (M.2 25) ka) hx hb hK hP 25 rfl rfl (show vp_in (nI (ka)) 100 from ki_in (by omega) (by decide)) (congrArg _ (ki_cl (by omega))) dX6_getsNow_129 ?_
                have hlate2 : ¬ M.2 11 i = 0 → ¬ (¬ M.2 15 i = -1 ∧ ¬ (rG M.2 (M.1 2) (M.2 11) (fun k => rFar M.2 k (M.1 1)) (nI uu) f g na ru d (M.2 15 i).toNatClampNeg).1 = M.2 16 i) := hlate
                have hG : rGx M.2 (M.1 2) (M.2 11) (nI uu) f g na (ru i) (fun j => (rG M.2 (M.1 2) (M.2 11) (fun k => rFar M.2 k (M.1 1)) (nI uu) f g na ru d j).1) i far = ((M.2 25) ka, 2) := by
                  unfold rGx
                  by_cases h11 : M.2 11 i = 0
                  · first | (simp [h11]; done) | exact absurd h11 (by assumption)
                  · have hl9 := hlate h11
                    first | exact absurd (by assumption) h11 | (rw [if_neg h11, if_neg hl9]; simp [era, erh, c_154, c_156, nI_m1 (a := ka) (by omega), ki_cl (n := ka) (by omega), nI_m1 (a := kh) (by omega), ki_cl (n := kh) (by omega)])
                exact W.iret (v := (M.2 25) ka) hx hb hr (fun t ht hW => ⟨⟨(M.2 25) ka, mS (mS (mS M 28 ρ) 28 8) 28 2, rfl, ⟨by rw [hG], by rw [hG]; simp only [mS_s]⟩, by rw [ht]; exact hP, va_K.moved hW.alike hK, hD⟩, hS.F ht⟩) hS.2.2 dX6_getsNow_130
          · refine lv_aload_n hx hb dX6_getsNow_82 rfl (lv_at hl 8 rfl) ?_
            refine lv_iconst (v := 0) hx hb dX6_getsNow_83 (by decide) ?_
            refine km_puti hx hb htT hown hK hP hD hS 28 (by decide) rfl (htT _ m_fl_X6_165) rfl (by decide +kernel) dX6_getsNow_84 (fun H locs hP hD hS => ?_)
            refine lv_goto (tgt := 290) hx hb dX6_getsNow_87 (by decide) ?_
            refine lv_aload_n hx hb dX6_getsNow_290 rfl (lv_at hl 8 rfl) ?_
            refine km_getiv (x := 0) hx hb htT hown hK hP 28 (by decide) rfl (htT _ m_fl_X6_165) rfl dX6_getsNow_291 ?_
            refine lv_bipush (v := 8) hx hb dX6_getsNow_294 (by decide) ?_
            refine lv_icmp_ne (tgt := 308) hx hb dX6_getsNow_296 (by decide) (fun _ => ?_) (fun c_186 => absurd c_186 (by decide))
            refine lv_iconst (v := 0) hx hb dX6_getsNow_308 (by decide) ?_
            have hlate2 : ¬ M.2 11 i = 0 → ¬ (¬ M.2 15 i = -1 ∧ ¬ (rG M.2 (M.1 2) (M.2 11) (fun k => rFar M.2 k (M.1 1)) (nI uu) f g na ru d (M.2 15 i).toNatClampNeg).1 = M.2 16 i) := hlate
            have hG : rGx M.2 (M.1 2) (M.2 11) (nI uu) f g na (ru i) (fun j => (rG M.2 (M.1 2) (M.2 11) (fun k => rFar M.2 k (M.1 1)) (nI uu) f g na ru d j).1) i far = (0, 0) := by
              unfold rGx
              by_cases h11 : M.2 11 i = 0
              · first | (simp [h11]; done) | exact absurd h11 (by assumption)
              · have hl9 := hlate h11
                first | exact absurd (by assumption) h11 | (rw [if_neg h11, if_neg hl9]; simp [era, erh, c_154, nI_m1 (a := ka) (by omega), ki_cl (n := ka) (by omega), nI_m1 (a := kh) (by omega), ki_cl (n := kh) (by omega)])
            exact W.iret (v := 0) hx hb hr (fun t ht hW => ⟨⟨0, mS (mS (mS M 28 ρ) 28 8) 28 0, rfl, ⟨by rw [hG], by rw [hG]; simp only [mS_s]⟩, by rw [ht]; exact hP, va_K.moved hW.alike hK, hD⟩, hS.F ht⟩) hS.2.2 dX6_getsNow_309
    · refine lv_istore (lv' := [(6, .int 1), (5, .int far), (4, .int g), (3, .int f), (2, .int (nI uu)), (1, .int (nI i)), (0, .ref am)]) hx hb dX6_getsNow_47 hl (by decide) rfl (fun ls hl => ?_)
      refine lv_aload_n hx hb dX6_getsNow_49 rfl (lv_at hl 6 rfl) ?_
      refine lv_iload_n hx hb dX6_getsNow_50 rfl (lv_at hl 5 rfl) ?_
      refine lv_iload_n hx hb dX6_getsNow_51 rfl (lv_at hl 4 rfl) ?_
      refine kc_i (va_runV (As := [.int (nI i), .int (nI uu)]) (rest := []) ⟨hx, hb, hml, hown, htT⟩ (m_armAt l D cA _ am r (mS M 28 ρ) na hna h22 (nI i) (nI uu)) (cwV 2 htT (kg_V m_ml_X6_158 m_im_X6_armAt m_sl_X6_armAt m_in_X6 m_cd_X6_armAt) rfl rfl rfl (by decide +kernel) ⟨(show 0 + 1 ≤ 2 * d + 2 by omega), (show 8 + (4 + 11) + (0) ≤ 120 * d + 60 by omega)⟩) (kp_V hK hP hD hTB (km_rc hK hP)) rfl rfl hl.1 rfl (lv_room (Nat.le_of_ble_eq_true rfl)) dX6_getsNow_52 ⟨Nat.le_of_ble_eq_true rfl, Nat.le_of_ble_eq_true rfl⟩) hD hS hA (fun r_187 x_187 H locs hq_187 hP hD hS => ?_)
      rw [hq_187.2] at hP hD
      rcases rArm_of M.2 (nI i) (nI uu) na 0 with era | ⟨ka, hka0, hka, era, -, -⟩
      · rw [hq_187.1.trans era]
        refine lv_istore (lv' := [(7, .int (-1)), (6, .int 1), (5, .int far), (4, .int g), (3, .int f), (2, .int (nI uu)), (1, .int (nI i)), (0, .ref am)]) hx hb dX6_getsNow_55 hl (by decide) rfl (fun ls hl => ?_)
        refine lv_aload_n hx hb dX6_getsNow_57 rfl (lv_at hl 7 rfl) ?_
        refine lv_iload_n hx hb dX6_getsNow_58 rfl (lv_at hl 6 rfl) ?_
        refine lv_iload_n hx hb dX6_getsNow_59 rfl (lv_at hl 4 rfl) ?_
        refine lv_iload hx hb dX6_getsNow_60 (lv_at hl 3 rfl) ?_
        refine kc_i (va_runV (As := [.int (nI i), .int f, .int g]) (rest := []) ⟨hx, hb, hml, hown, htT⟩ (m_holdsNow l D cA _ am r (mS M 28 ρ) i (by omega) (ru i) (hsw i hi).1 (hsw i hi).2.1 f g) (cwV 3 htT (kg_V m_ml_X6_161 m_im_X6_holdsNow m_sl_X6_holdsNow m_in_X6 m_cd_X6_holdsNow) rfl rfl rfl (by decide +kernel) ⟨(show 0 + 1 ≤ 2 * d + 2 by omega), (show 8 + (6 + 11) + (0) ≤ 120 * d + 60 by omega)⟩) (kp_V hK hP hD hTB (km_rc hK hP)) rfl rfl hl.1 rfl (lv_room (Nat.le_of_ble_eq_true rfl)) dX6_getsNow_62 ⟨Nat.le_of_ble_eq_true rfl, Nat.le_of_ble_eq_true rfl⟩) hD hS hA (fun r_188 x_188 H locs hq_188 hP hD hS => ?_)
        rw [hq_188.2] at hP hD
        rcases rHold_of M.2 i f g (ru i) 0 with erh | ⟨kh, hkh0, hkh, erh, -⟩
        · rw [hq_188.1.trans erh]
          refine lv_istore (lv' := [(8, .int (-1)), (7, .int (-1)), (6, .int 1), (5, .int far), (4, .int g), (3, .int f), (2, .int (nI uu)), (1, .int (nI i)), (0, .ref am)]) hx hb dX6_getsNow_65 hl (by decide) rfl (fun ls hl => ?_)
          refine lv_aload_n hx hb dX6_getsNow_67 rfl (lv_at hl 8 rfl) ?_
          refine lv_bipush (v := 8) hx hb dX6_getsNow_68 (by decide) ?_
          refine km_puti hx hb htT hown hK hP hD hS 28 (by decide) rfl (htT _ m_fl_X6_165) rfl (by decide +kernel) dX6_getsNow_70 (fun H locs hP hD hS => ?_)
          refine lv_aload_n hx hb dX6_getsNow_73 rfl (lv_at hl 8 rfl) ?_
          refine km_getr hx hb htT hown hK hP 11 (by decide) rfl (htT _ m_fl_X6_32) dX6_getsNow_74 ?_
          refine lv_iload_n hx hb dX6_getsNow_77 rfl (lv_at hl 7 rfl) ?_
          refine km_zaldv (x := (M.2 11) i) hx hb hK hP 11 rfl rfl (show vp_in (nI (i)) 8 from ki_in (by omega) (by decide)) (congrArg _ (ki_cl (by omega))) dX6_getsNow_78 ?_
          refine lv_if_ne (tgt := 90) hx hb dX6_getsNow_79 (by decide) (fun c_189 => ?_) (fun c_189 => ?_)
          · refine lv_iload hx hb dX6_getsNow_90 (lv_at hl 2 rfl) ?_
            refine lv_if_eq (tgt := 103) hx hb dX6_getsNow_92 (by decide) (fun c_190 => absurd c_190 (by decide)) (fun _ => ?_)
            refine lv_aload_n hx hb dX6_getsNow_95 rfl (lv_at hl 8 rfl) ?_
            refine lv_iconst (v := 1) hx hb dX6_getsNow_96 (by decide) ?_
            refine km_puti hx hb htT hown hK hP hD hS 28 (by decide) rfl (htT _ m_fl_X6_165) rfl (by decide +kernel) dX6_getsNow_97 (fun H locs hP hD hS => ?_)
            refine lv_goto (tgt := 290) hx hb dX6_getsNow_100 (by decide) ?_
            refine lv_aload_n hx hb dX6_getsNow_290 rfl (lv_at hl 8 rfl) ?_
            refine km_getiv (x := 1) hx hb htT hown hK hP 28 (by decide) rfl (htT _ m_fl_X6_165) rfl dX6_getsNow_291 ?_
            refine lv_bipush (v := 8) hx hb dX6_getsNow_294 (by decide) ?_
            refine lv_icmp_ne (tgt := 308) hx hb dX6_getsNow_296 (by decide) (fun _ => ?_) (fun c_191 => absurd c_191 (by decide))
            refine lv_iconst (v := 0) hx hb dX6_getsNow_308 (by decide) ?_
            have hG : rGx M.2 (M.1 2) (M.2 11) (nI uu) f g na (ru i) (fun j => (rG M.2 (M.1 2) (M.2 11) (fun k => rFar M.2 k (M.1 1)) (nI uu) f g na ru d j).1) i far = (0, 1) := by
              unfold rGx
              first | exact absurd (by assumption) hon | (rw [if_neg hon, if_pos hlate])
            exact W.iret (v := 0) hx hb hr (fun t ht hW => ⟨⟨0, mS (mS (mS M 28 ρ) 28 8) 28 1, rfl, ⟨by rw [hG], by rw [hG]; simp only [mS_s]⟩, by rw [ht]; exact hP, va_K.moved hW.alike hK, hD⟩, hS.F ht⟩) hS.2.2 dX6_getsNow_309
          · refine lv_aload_n hx hb dX6_getsNow_82 rfl (lv_at hl 8 rfl) ?_
            refine lv_iconst (v := 0) hx hb dX6_getsNow_83 (by decide) ?_
            refine km_puti hx hb htT hown hK hP hD hS 28 (by decide) rfl (htT _ m_fl_X6_165) rfl (by decide +kernel) dX6_getsNow_84 (fun H locs hP hD hS => ?_)
            refine lv_goto (tgt := 290) hx hb dX6_getsNow_87 (by decide) ?_
            refine lv_aload_n hx hb dX6_getsNow_290 rfl (lv_at hl 8 rfl) ?_
            refine km_getiv (x := 0) hx hb htT hown hK hP 28 (by decide) rfl (htT _ m_fl_X6_165) rfl dX6_getsNow_291 ?_
            refine lv_bipush (v := 8) hx hb dX6_getsNow_294 (by decide) ?_
            refine lv_icmp_ne (tgt := 308) hx hb dX6_getsNow_296 (by decide) (fun _ => ?_) (fun c_192 => absurd c_192 (by decide))
            refine lv_iconst (v := 0) hx hb dX6_getsNow_308 (by decide) ?_
            have hG : rGx M.2 (M.1 2) (M.2 11) (nI uu) f g na (ru i) (fun j => (rG M.2 (M.1 2) (M.2 11) (fun k => rFar M.2 k (M.1 1)) (nI uu) f g na ru d j).1) i far = (0, 0) := by
              unfold rGx
              first | exact absurd (by assumption) hon | (rw [if_neg hon, if_pos hlate])
            exact W.iret (v := 0) hx hb hr (fun t ht hW => ⟨⟨0, mS (mS (mS M 28 ρ) 28 8) 28 0, rfl, ⟨by rw [hG], by rw [hG]; simp only [mS_s]⟩, by rw [ht]; exact hP, va_K.moved hW.alike hK, hD⟩, hS.F ht⟩) hS.2.2 dX6_getsNow_309
        · rw [hq_188.1.trans erh]
          have hru5 := (hsw i hi).1
          refine lv_istore (lv' := [(8, .int (nI kh)), (7, .int (-1)), (6, .int 1), (5, .int far), (4, .int g), (3, .int f), (2, .int (nI uu)), (1, .int (nI i)), (0, .ref am)]) hx hb dX6_getsNow_65 hl (by decide) rfl (fun ls hl => ?_)
          refine lv_aload_n hx hb dX6_getsNow_67 rfl (lv_at hl 8 rfl) ?_
          refine lv_bipush (v := 8) hx hb dX6_getsNow_68 (by decide) ?_
          refine km_puti hx hb htT hown hK hP hD hS 28 (by decide) rfl (htT _ m_fl_X6_165) rfl (by decide +kernel) dX6_getsNow_70 (fun H locs hP hD hS => ?_)
          refine lv_aload_n hx hb dX6_getsNow_73 rfl (lv_at hl 8 rfl) ?_
          refine km_getr hx hb htT hown hK hP 11 (by decide) rfl (htT _ m_fl_X6_32) dX6_getsNow_74 ?_
          refine lv_iload_n hx hb dX6_getsNow_77 rfl (lv_at hl 7 rfl) ?_
          refine km_zaldv (x := (M.2 11) i) hx hb hK hP 11 rfl rfl (show vp_in (nI (i)) 8 from ki_in (by omega) (by decide)) (congrArg _ (ki_cl (by omega))) dX6_getsNow_78 ?_
          refine lv_if_ne (tgt := 90) hx hb dX6_getsNow_79 (by decide) (fun c_193 => ?_) (fun c_193 => ?_)
          · refine lv_iload hx hb dX6_getsNow_90 (lv_at hl 2 rfl) ?_
            refine lv_if_eq (tgt := 103) hx hb dX6_getsNow_92 (by decide) (fun c_194 => absurd c_194 (by decide)) (fun _ => ?_)
            refine lv_aload_n hx hb dX6_getsNow_95 rfl (lv_at hl 8 rfl) ?_
            refine lv_iconst (v := 1) hx hb dX6_getsNow_96 (by decide) ?_
            refine km_puti hx hb htT hown hK hP hD hS 28 (by decide) rfl (htT _ m_fl_X6_165) rfl (by decide +kernel) dX6_getsNow_97 (fun H locs hP hD hS => ?_)
            refine lv_goto (tgt := 290) hx hb dX6_getsNow_100 (by decide) ?_
            refine lv_aload_n hx hb dX6_getsNow_290 rfl (lv_at hl 8 rfl) ?_
            refine km_getiv (x := 1) hx hb htT hown hK hP 28 (by decide) rfl (htT _ m_fl_X6_165) rfl dX6_getsNow_291 ?_
            refine lv_bipush (v := 8) hx hb dX6_getsNow_294 (by decide) ?_
            refine lv_icmp_ne (tgt := 308) hx hb dX6_getsNow_296 (by decide) (fun _ => ?_) (fun c_195 => absurd c_195 (by decide))
            refine lv_iconst (v := 0) hx hb dX6_getsNow_308 (by decide) ?_
            have hG : rGx M.2 (M.1 2) (M.2 11) (nI uu) f g na (ru i) (fun j => (rG M.2 (M.1 2) (M.2 11) (fun k => rFar M.2 k (M.1 1)) (nI uu) f g na ru d j).1) i far = (0, 1) := by
              unfold rGx
              first | exact absurd (by assumption) hon | (rw [if_neg hon, if_pos hlate])
            exact W.iret (v := 0) hx hb hr (fun t ht hW => ⟨⟨0, mS (mS (mS M 28 ρ) 28 8) 28 1, rfl, ⟨by rw [hG], by rw [hG]; simp only [mS_s]⟩, by rw [ht]; exact hP, va_K.moved hW.alike hK, hD⟩, hS.F ht⟩) hS.2.2 dX6_getsNow_309
          · refine lv_aload_n hx hb dX6_getsNow_82 rfl (lv_at hl 8 rfl) ?_
            refine lv_iconst (v := 0) hx hb dX6_getsNow_83 (by decide) ?_
            refine km_puti hx hb htT hown hK hP hD hS 28 (by decide) rfl (htT _ m_fl_X6_165) rfl (by decide +kernel) dX6_getsNow_84 (fun H locs hP hD hS => ?_)
            refine lv_goto (tgt := 290) hx hb dX6_getsNow_87 (by decide) ?_
            refine lv_aload_n hx hb dX6_getsNow_290 rfl (lv_at hl 8 rfl) ?_
            refine km_getiv (x := 0) hx hb htT hown hK hP 28 (by decide) rfl (htT _ m_fl_X6_165) rfl dX6_getsNow_291 ?_
            refine lv_bipush (v := 8) hx hb dX6_getsNow_294 (by decide) ?_
            refine lv_icmp_ne (tgt := 308) hx hb dX6_getsNow_296 (by decide) (fun _ => ?_) (fun c_196 => absurd c_196 (by decide))
            refine lv_iconst (v := 0) hx hb dX6_getsNow_308 (by decide) ?_
            have hG : rGx M.2 (M.1 2) (M.2 11) (nI uu) f g na (ru i) (fun j => (rG M.2 (M.1 2) (M.2 11) (fun k => rFar M.2 k (M.1 1)) (nI uu) f g na ru d j).1) i far = (0, 0) := by
              unfold rGx
              first | exact absurd (by assumption) hon | (rw [if_neg hon, if_pos hlate])
            exact W.iret (v := 0) hx hb hr (fun t ht hW => ⟨⟨0, mS (mS (mS M 28 ρ) 28 8) 28 0, rfl, ⟨by rw [hG], by rw [hG]; simp only [mS_s]⟩, by rw [ht]; exact hP, va_K.moved hW.alike hK, hD⟩, hS.F ht⟩) hS.2.2 dX6_getsNow_309
      · rw [hq_187.1.trans era]
        refine lv_istore (lv' := [(7, .int (nI ka)), (6, .int 1), (5, .int far), (4, .int g), (3, .int f), (2, .int (nI uu)), (1, .int (nI i)), (0, .ref am)]) hx hb dX6_getsNow_55 hl (by decide) rfl (fun ls hl => ?_)
        refine lv_aload_n hx hb dX6_getsNow_57 rfl (lv_at hl 7 rfl) ?_
        refine lv_iload_n hx hb dX6_getsNow_58 rfl (lv_at hl 6 rfl) ?_
        refine lv_iload_n hx hb dX6_getsNow_59 rfl (lv_at hl 4 rfl) ?_
        refine lv_iload hx hb dX6_getsNow_60 (lv_at hl 3 rfl) ?_
        refine kc_i (va_runV (As := [.int (nI i), .int f, .int g]) (rest := []) ⟨hx, hb, hml, hown, htT⟩ (m_holdsNow l D cA _ am r (mS M 28 ρ) i (by omega) (ru i) (hsw i hi).1 (hsw i hi).2.1 f g) (cwV 3 htT (kg_V m_ml_X6_161 m_im_X6_holdsNow m_sl_X6_holdsNow m_in_X6 m_cd_X6_holdsNow) rfl rfl rfl (by decide +kernel) ⟨(show 0 + 1 ≤ 2 * d + 2 by omega), (show 8 + (6 + 11) + (0) ≤ 120 * d + 60 by omega)⟩) (kp_V hK hP hD hTB (km_rc hK hP)) rfl rfl hl.1 rfl (lv_room (Nat.le_of_ble_eq_true rfl)) dX6_getsNow_62 ⟨Nat.le_of_ble_eq_true rfl, Nat.le_of_ble_eq_true rfl⟩) hD hS hA (fun r_197 x_197 H locs hq_197 hP hD hS => ?_)
        rw [hq_197.2] at hP hD
        rcases rHold_of M.2 i f g (ru i) 0 with erh | ⟨kh, hkh0, hkh, erh, -⟩
        · rw [hq_197.1.trans erh]
          refine lv_istore (lv' := [(8, .int (-1)), (7, .int (nI ka)), (6, .int 1), (5, .int far), (4, .int g), (3, .int f), (2, .int (nI uu)), (1, .int (nI i)), (0, .ref am)]) hx hb dX6_getsNow_65 hl (by decide) rfl (fun ls hl => ?_)
          refine lv_aload_n hx hb dX6_getsNow_67 rfl (lv_at hl 8 rfl) ?_
          refine lv_bipush (v := 8) hx hb dX6_getsNow_68 (by decide) ?_
          refine km_puti hx hb htT hown hK hP hD hS 28 (by decide) rfl (htT _ m_fl_X6_165) rfl (by decide +kernel) dX6_getsNow_70 (fun H locs hP hD hS => ?_)
          refine lv_aload_n hx hb dX6_getsNow_73 rfl (lv_at hl 8 rfl) ?_
          refine km_getr hx hb htT hown hK hP 11 (by decide) rfl (htT _ m_fl_X6_32) dX6_getsNow_74 ?_
          refine lv_iload_n hx hb dX6_getsNow_77 rfl (lv_at hl 7 rfl) ?_
          refine km_zaldv (x := (M.2 11) i) hx hb hK hP 11 rfl rfl (show vp_in (nI (i)) 8 from ki_in (by omega) (by decide)) (congrArg _ (ki_cl (by omega))) dX6_getsNow_78 ?_
          refine lv_if_ne (tgt := 90) hx hb dX6_getsNow_79 (by decide) (fun c_198 => ?_) (fun c_198 => ?_)
          · refine lv_iload hx hb dX6_getsNow_90 (lv_at hl 2 rfl) ?_
            refine lv_if_eq (tgt := 103) hx hb dX6_getsNow_92 (by decide) (fun c_199 => absurd c_199 (by decide)) (fun _ => ?_)
            refine lv_aload_n hx hb dX6_getsNow_95 rfl (lv_at hl 8 rfl) ?_
            refine lv_iconst (v := 1) hx hb dX6_getsNow_96 (by decide) ?_
            refine km_puti hx hb htT hown hK hP hD hS 28 (by decide) rfl (htT _ m_fl_X6_165) rfl (by decide +kernel) dX6_getsNow_97 (fun H locs hP hD hS => ?_)
            refine lv_goto (tgt := 290) hx hb dX6_getsNow_100 (by decide) ?_
            refine lv_aload_n hx hb dX6_getsNow_290 rfl (lv_at hl 8 rfl) ?_
            refine km_getiv (x := 1) hx hb htT hown hK hP 28 (by decide) rfl (htT _ m_fl_X6_165) rfl dX6_getsNow_291 ?_
            refine lv_bipush (v := 8) hx hb dX6_getsNow_294 (by decide) ?_
            refine lv_icmp_ne (tgt := 308) hx hb dX6_getsNow_296 (by decide) (fun _ => ?_) (fun c_200 => absurd c_200 (by decide))
            refine lv_iconst (v := 0) hx hb dX6_getsNow_308 (by decide) ?_
            have hG : rGx M.2 (M.1 2) (M.2 11) (nI uu) f g na (ru i) (fun j => (rG M.2 (M.1 2) (M.2 11) (fun k => rFar M.2 k (M.1 1)) (nI uu) f g na ru d j).1) i far = (0, 1) := by
              unfold rGx
              first | exact absurd (by assumption) hon | (rw [if_neg hon, if_pos hlate])
            exact W.iret (v := 0) hx hb hr (fun t ht hW => ⟨⟨0, mS (mS (mS M 28 ρ) 28 8) 28 1, rfl, ⟨by rw [hG], by rw [hG]; simp only [mS_s]⟩, by rw [ht]; exact hP, va_K.moved hW.alike hK, hD⟩, hS.F ht⟩) hS.2.2 dX6_getsNow_309
          · refine lv_aload_n hx hb dX6_getsNow_82 rfl (lv_at hl 8 rfl) ?_
            refine lv_iconst (v := 0) hx hb dX6_getsNow_83 (by decide) ?_
            refine km_puti hx hb htT hown hK hP hD hS 28 (by decide) rfl (htT _ m_fl_X6_165) rfl (by decide +kernel) dX6_getsNow_84 (fun H locs hP hD hS => ?_)
            refine lv_goto (tgt := 290) hx hb dX6_getsNow_87 (by decide) ?_
            refine lv_aload_n hx hb dX6_getsNow_290 rfl (lv_at hl 8 rfl) ?_
            refine km_getiv (x := 0) hx hb htT hown hK hP 28 (by decide) rfl (htT _ m_fl_X6_165) rfl dX6_getsNow_291 ?_
            refine lv_bipush (v := 8) hx hb dX6_getsNow_294 (by decide) ?_
            refine lv_icmp_ne (tgt := 308) hx hb dX6_getsNow_296 (by decide) (fun _ => ?_) (fun c_201 => absurd c_201 (by decide))
            refine lv_iconst (v := 0) hx hb dX6_getsNow_308 (by decide) ?_
            have hG : rGx M.2 (M.1 2) (M.2 11) (nI uu) f g na (ru i) (fun j => (rG M.2 (M.1 2) (M.2 11) (fun k => rFar M.2 k (M.1 1)) (nI uu) f g na ru d j).1) i far = (0, 0) := by
              unfold rGx
              first | exact absurd (by assumption) hon | (rw [if_neg hon, if_pos hlate])
            exact W.iret (v := 0) hx hb hr (fun t ht hW => ⟨⟨0, mS (mS (mS M 28 ρ) 28 8) 28 0, rfl, ⟨by rw [hG], by rw [hG]; simp only [mS_s]⟩, by rw [ht]; exact hP, va_K.moved hW.alike hK, hD⟩, hS.F ht⟩) hS.2.2 dX6_getsNow_309
        · rw [hq_197.1.trans erh]
          have hru5 := (hsw i hi).1
          refine lv_istore (lv' := [(8, .int (nI kh)), (7, .int (nI ka)), (6, .int 1), (5, .int far), (4, .int g), (3, .int f), (2, .int (nI uu)), (1, .int (nI i)), (0, .ref am)]) hx hb dX6_getsNow_65 hl (by decide) rfl (fun ls hl => ?_)
          refine lv_aload_n hx hb dX6_getsNow_67 rfl (lv_at hl 8 rfl) ?_
          refine lv_bipush (v := 8) hx hb dX6_getsNow_68 (by decide) ?_
          refine km_puti hx hb htT hown hK hP hD hS 28 (by decide) rfl (htT _ m_fl_X6_165) rfl (by decide +kernel) dX6_getsNow_70 (fun H locs hP hD hS => ?_)
          refine lv_aload_n hx hb dX6_getsNow_73 rfl (lv_at hl 8 rfl) ?_
          refine km_getr hx hb htT hown hK hP 11 (by decide) rfl (htT _ m_fl_X6_32) dX6_getsNow_74 ?_
          refine lv_iload_n hx hb dX6_getsNow_77 rfl (lv_at hl 7 rfl) ?_
          refine km_zaldv (x := (M.2 11) i) hx hb hK hP 11 rfl rfl (show vp_in (nI (i)) 8 from ki_in (by omega) (by decide)) (congrArg _ (ki_cl (by omega))) dX6_getsNow_78 ?_
          refine lv_if_ne (tgt := 90) hx hb dX6_getsNow_79 (by decide) (fun c_202 => ?_) (fun c_202 => ?_)
          · refine lv_iload hx hb dX6_getsNow_90 (lv_at hl 2 rfl) ?_
            refine lv_if_eq (tgt := 103) hx hb dX6_getsNow_92 (by decide) (fun c_203 => absurd c_203 (by decide)) (fun _ => ?_)
            refine lv_aload_n hx hb dX6_getsNow_95 rfl (lv_at hl 8 rfl) ?_
            refine lv_iconst (v := 1) hx hb dX6_getsNow_96 (by decide) ?_
            refine km_puti hx hb htT hown hK hP hD hS 28 (by decide) rfl (htT _ m_fl_X6_165) rfl (by decide +kernel) dX6_getsNow_97 (fun H locs hP hD hS => ?_)
            refine lv_goto (tgt := 290) hx hb dX6_getsNow_100 (by decide) ?_
            refine lv_aload_n hx hb dX6_getsNow_290 rfl (lv_at hl 8 rfl) ?_
            refine km_getiv (x := 1) hx hb htT hown hK hP 28 (by decide) rfl (htT _ m_fl_X6_165) rfl dX6_getsNow_291 ?_
            refine lv_bipush (v := 8) hx hb dX6_getsNow_294 (by decide) ?_
            refine lv_icmp_ne (tgt := 308) hx hb dX6_getsNow_296 (by decide) (fun _ => ?_) (fun c_204 => absurd c_204 (by decide))
            refine lv_iconst (v := 0) hx hb dX6_getsNow_308 (by decide) ?_
            have hG : rGx M.2 (M.1 2) (M.2 11) (nI uu) f g na (ru i) (fun j => (rG M.2 (M.1 2) (M.2 11) (fun k => rFar M.2 k (M.1 1)) (nI uu) f g na ru d j).1) i far = (0, 1) := by
              unfold rGx
              first | exact absurd (by assumption) hon | (rw [if_neg hon, if_pos hlate])
            exact W.iret (v := 0) hx hb hr (fun t ht hW => ⟨⟨0, mS (mS (mS M 28 ρ) 28 8) 28 1, rfl, ⟨by rw [hG], by rw [hG]; simp only [mS_s]⟩, by rw [ht]; exact hP, va_K.moved hW.alike hK, hD⟩, hS.F ht⟩) hS.2.2 dX6_getsNow_309
          · refine lv_aload_n hx hb dX6_getsNow_82 rfl (lv_at hl 8 rfl) ?_
            refine lv_iconst (v := 0) hx hb dX6_getsNow_83 (by decide) ?_
            refine km_puti hx hb htT hown hK hP hD hS 28 (by decide) rfl (htT _ m_fl_X6_165) rfl (by decide +kernel) dX6_getsNow_84 (fun H locs hP hD hS => ?_)
            refine lv_goto (tgt := 290) hx hb dX6_getsNow_87 (by decide) ?_
            refine lv_aload_n hx hb dX6_getsNow_290 rfl (lv_at hl 8 rfl) ?_
            refine km_getiv (x := 0) hx hb htT hown hK hP 28 (by decide) rfl (htT _ m_fl_X6_165) rfl dX6_getsNow_291 ?_
            refine lv_bipush (v := 8) hx hb dX6_getsNow_294 (by decide) ?_
            refine lv_icmp_ne (tgt := 308) hx hb dX6_getsNow_296 (by decide) (fun _ => ?_) (fun c_205 => absurd c_205 (by decide))
            refine lv_iconst (v := 0) hx hb dX6_getsNow_308 (by decide) ?_
            have hG : rGx M.2 (M.1 2) (M.2 11) (nI uu) f g na (ru i) (fun j => (rG M.2 (M.1 2) (M.2 11) (fun k => rFar M.2 k (M.1 1)) (nI uu) f g na ru d j).1) i far = (0, 0) := by
              unfold rGx
              first | exact absurd (by assumption) hon | (rw [if_neg hon, if_pos hlate])
            exact W.iret (v := 0) hx hb hr (fun t ht hW => ⟨⟨0, mS (mS (mS M 28 ρ) 28 8) 28 0, rfl, ⟨by rw [hG], by rw [hG]; simp only [mS_s]⟩, by rw [ht]; exact hP, va_K.moved hW.alike hK, hD⟩, hS.F ht⟩) hS.2.2 dX6_getsNow_309

