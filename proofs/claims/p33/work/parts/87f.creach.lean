/-! the class: counted users, exact -/
set_option maxRecDepth 100000 in
set_option maxHeartbeats 4000000 in
/-- reach, exact -/
theorem c_reachX (l : Launch) (D : va_G) (cA : Nat → ClassId) (sz : Nat) (S : Pool) (x : Nat) (hx5 : isO S x 5) (ar : Nat) (hq0 : gQ S x 0 = some ar) (ak : Nat) (hq1 : gQ S x 1 = some ak) (hak : isO S ak 1) (hR : okR S ar) (j : Nat) (hj : j < 8) (a : Nat) (hja : gP S ar j = some a) (p0 : Int32) (hsw : kSw S ar p0 = some a) (p1 : Int32) (hv : kOut p1 0 (gI S a 2 - 1) = 0) (mm : Nat) (hm1 : 1 ≤ mm) (hmm : mm ≤ 200) (h1 : kOut (nI mm) 1 200 = 0) (F : Nat → Int32) (hF : ∀ U, eqA S U ak → ∀ u, u < 200 → cV (cBec U ak (nI u) (nI u - nI u / 10 * 10) (nI u / 10 - nI u / 10 / 10 * 10)) x ar ak 8 a = F u)  : Met l yX5_reach (Cond.code yX5_reach cX5_reach 7 (some .int) :: TT) ({ frames := 26, cells := 0, slots := 0, locals := 620 }) (va_Pc [.ref x, .int p0, .int p1, .int (nI mm)] (kPre D cA (PW cA S) sz)) (va_Qi (fun (r_ : Int32) (x_ : Pool) => r_ = rCnt (fun u => if F u = p1 then 1 else 0) mm 0 0 ∧ eqA S x_ ak) (fun x_ => kB D cA (va_A (PW cA S) sz) (PW cA x_)) (va_A (PW cA S) sz)) 0 0 (va_A (PW cA S) sz) := by
  refine Met.ofW (cc := cX5_reach) (maxL := 7) (ret := (some .int)) (by decide) rfl ?_
  intro p e s m args below meth c s₁ B hml hv
  obtain ⟨rfl, hsz, hP, hK, hD0, hTB⟩ := hv
  have hx := B.exec
  have hb := B.bytes
  have hr := B.returns
  have hts := atoms_spec (ws := Cond.code yX5_reach cX5_reach 7 (some .int) :: TT) B.pre
  have htT : ∀ w ∈ TT, w.before _ s = true := fun w h => hts w (List.mem_cons_of_mem _ h)
  have hown : s.vm.findClass RX5 = some m.cls := findClass_of_methodNamed B.named
  have hlocks := B.notSynchronized
  subst hsz
  have hD := hD0.self (sz := s.heap.size)
  generalize hAe : va_A (PW cA S) s.heap.size = A at hD ⊢
  have hA : ∀ q : Nat, s.heap.size ≤ q → A q := fun q h => by rw [← hAe]; exact Or.inr h
  have hS : va_S A s.heap s.heap [] := va_S.rf
  have hl := lv_entry ([.ref x, .int p0, .int p1, .int (nI mm)]) (n := 7) (Nat.le_of_ble_eq_true rfl)
  rw [lg_entry_eq]
  generalize (lg_sl ([.ref x, .int p0, .int p1, .int (nI mm)]) ++ List.replicate (7 - (lg_sl ([.ref x, .int p0, .int p1, .int (nI mm)])).length) Slot.unset).toArray = ls at hl ⊢
  have hl : lv_has ls 7 [(0, .ref x), (1, .int p0), (2, .int p1), (3, .int (nI mm))] := hl
  refine lv_aload_n hx hb dX5_reach_0 rfl (lv_at hl 0 rfl) ?_
  refine lv_iload_n hx hb dX5_reach_1 rfl (lv_at hl 1 rfl) ?_
  refine kc_q (va_runV (As := [.int p0]) (rest := []) ⟨hx, hb, hml, hown, htT⟩ (c_known l D cA _ S x hx5 ar hq0 hR.1 p0 a hsw) (cwV 1 htT (kg_V m_ml_X5_45 m_im_X5_known m_sl_X5_known m_in_X5 m_cd_X5_known) rfl rfl rfl (by decide +kernel) ⟨Nat.le_of_ble_eq_true rfl, Nat.le_of_ble_eq_true rfl⟩) (kp_V hK hP hD hTB (kp_rc hK hP hx5 (Nat.le_of_ble_eq_true rfl) rfl)) rfl rfl hl.1 rfl (lv_room (Nat.le_of_ble_eq_true rfl)) dX5_reach_2 ⟨Nat.le_of_ble_eq_true rfl, Nat.le_of_ble_eq_true rfl⟩) hD hS hA (fun r_1 x_1 H locs hq_1 hP hD hS => ?_)
  rw [hq_1.1]
  rw [hq_1.2] at hP hD
  refine lv_astore (lv' := [(4, .ref a), (0, .ref x), (1, .int p0), (2, .int p1), (3, .int (nI mm))]) hx hb dX5_reach_5 hl (by decide) rfl (fun ls hl => ?_)
  refine lv_aload hx hb dX5_reach_7 (lv_at hl 0 rfl) ?_
  refine lv_iload_n hx hb dX5_reach_9 rfl (lv_at hl 3 rfl) ?_
  refine kc_v (va_runS (As := [.ref a, .int p1]) (rest := []) ⟨hx, hb, hml, hown, htT⟩ (c_checkVariant l D cA _ S a (hR.2 j hj a hja).1.1 p1 hv) (cwS 2 htT (kg_S m_ml_X5_49 m_st_X5_checkVariant m_in_X5 m_cd_X5_checkVariant) rfl rfl rfl (by decide +kernel) ⟨Nat.le_of_ble_eq_true rfl, Nat.le_of_ble_eq_true rfl⟩) (kp_S hK hP hD hTB) rfl rfl hl.1 rfl (lv_room (Nat.le_of_ble_eq_true rfl)) dX5_reach_10 ⟨Nat.le_of_ble_eq_true rfl, Nat.le_of_ble_eq_true rfl⟩) hD hS hA (fun x_2 H locs hq_2 hP hD hS => ?_)
  rw [hq_2] at hP hD
  refine lv_iload_n hx hb dX5_reach_13 rfl (lv_at hl 4 rfl) ?_
  refine kc_v (va_runS (As := [.int (nI mm)]) (rest := []) ⟨hx, hb, hml, hown, htT⟩ (c_checkMany l D cA _ S (nI mm) h1) (cwS 1 htT (kg_S m_ml_X5_230 m_st_X5_checkMany m_in_X5 m_cd_X5_checkMany) rfl rfl rfl (by decide +kernel) ⟨Nat.le_of_ble_eq_true rfl, Nat.le_of_ble_eq_true rfl⟩) (kp_S hK hP hD hTB) rfl rfl hl.1 rfl (lv_room (Nat.le_of_ble_eq_true rfl)) dX5_reach_14 ⟨Nat.le_of_ble_eq_true rfl, Nat.le_of_ble_eq_true rfl⟩) hD hS hA (fun x_3 H locs hq_3 hP hD hS => ?_)
  rw [hq_3] at hP hD
  refine lv_iconst (v := 0) hx hb dX5_reach_17 (by decide) ?_
  refine lv_istore (lv' := [(5, .int 0), (4, .ref a), (0, .ref x), (1, .int p0), (2, .int p1), (3, .int (nI mm))]) hx hb dX5_reach_18 hl (by decide) rfl (fun ls hl => ?_)
  refine lv_iconst (v := 0) hx hb dX5_reach_20 (by decide) ?_
  refine lv_istore (lv' := [(6, .int 0), (5, .int 0), (4, .ref a), (0, .ref x), (1, .int p0), (2, .int p1), (3, .int (nI mm))]) hx hb dX5_reach_21 hl (by decide) rfl (fun ls hl => ?_)
  refine kz_loop 23 (fun N9 H locs ls => ∃ (u : Nat) (acc : Int32) (T : Pool), N9 = mm - u ∧ u ≤ mm ∧ rCnt (fun u => if F u = p1 then 1 else 0) mm 0 0 = rCnt (fun u => if F u = p1 then 1 else 0) (mm - u) u acc ∧ eqA S T ak ∧ va_P D vwCl (PW cA T) H ∧ va_D A (PW cA T) ∧ va_S A s.heap H locs ∧ lv_has ls 7 [(6, .int (nI u)), (5, .int acc), (4, .ref a), (3, .int (nI mm)), (2, .int p1), (1, .int p0), (0, .ref x)]) (fun N9 ih_23 H locs ls hI => ?_) ⟨0, 0, S, rfl, by omega, rfl, eqA.rf, hP, hD, hS, lv_sub hl [0, 1, 2, 6, 5, 4, 3] rfl⟩
  obtain ⟨u, acc, T, hn9, hu, hC9, hE, hP, hD, hS, hl⟩ := hI
  have hx5_4 := hE.o hx5
  have hak_4 := hE.o hak
  have hR_4 := hE.okR hak hR
  have hq0_4 := (hE.q x 0).trans hq0
  have hq1_4 := (hE.q x 1).trans hq1
  have hja_4 := (hE.p ar j).trans hja
  refine lv_iload hx hb dX5_reach_23 (lv_at hl 0 rfl) ?_
  refine lv_iload_n hx hb dX5_reach_25 rfl (lv_at hl 3 rfl) ?_
  refine lv_icmp_ge (tgt := 57) hx hb dX5_reach_26 (by decide) (fun c_5 => ?_) (fun c_5 => ?_)
  · replace c_5 := (nI_leI (a := mm) (b := u) (by omega) (by omega)).mp c_5
    refine lv_iload hx hb dX5_reach_57 (lv_at hl 1 rfl) ?_
    exact W.iret (v := acc) hx hb hr (fun t ht hW => ⟨⟨acc, T, rfl, ⟨by rw [hC9, show mm - u = 0 by omega]; rfl, hE⟩, by rw [ht]; exact hP, va_K.moved hW.alike hK, hD⟩, hS.F ht⟩) hS.2.2 dX5_reach_59
  · replace c_5 : ¬ (mm ≤ u) := fun h9 => c_5 ((nI_leI (a := mm) (b := u) (by omega) (by omega)).mpr h9)
    refine lv_aload_n hx hb dX5_reach_29 rfl (lv_at hl 6 rfl) ?_
    refine kx_gets hx hb htT m_u_X5 hown hK hP hx5_4 (Nat.le_of_ble_eq_true rfl) rfl 1 (by decide) (by decide) rfl hq1_4 (htT _ m_fl_X5_18) dX5_reach_30 ?_
    refine lv_iload hx hb dX5_reach_33 (lv_at hl 0 rfl) ?_
    refine kc_v (va_runV (As := [.int (nI u)]) (rest := []) ⟨hx, hb, hml, hown, htT⟩ (c_becomeCounted l D cA _ T ak hak_4 (nI u)) (cwV 1 htT (kg_V m_ml_X5_233 m_im_X1_becomeCounted m_sl_X1_becomeCounted m_in_X1 m_cd_X1_becomeCounted) rfl rfl rfl (by decide +kernel) ⟨Nat.le_of_ble_eq_true rfl, Nat.le_of_ble_eq_true rfl⟩) (kp_V hK hP hD hTB (kp_rc hK hP hak_4 (Nat.le_of_ble_eq_true rfl) rfl)) rfl rfl hl.1 rfl (lv_room (Nat.le_of_ble_eq_true rfl)) dX5_reach_35 ⟨Nat.le_of_ble_eq_true rfl, Nat.le_of_ble_eq_true rfl⟩) hD hS hA (fun x_6 H locs hq_6 hP hD hS => ?_)
    have hE_6 : eqA S x_6 ak := by rw [hq_6]; exact hE.tr eqA.bec
    have hx5_7 := hE_6.o hx5
    have hak_7 := hE_6.o hak
    have hR_7 := hE_6.okR hak hR
    have hq0_7 := (hE_6.q x 0).trans hq0
    have hq1_7 := (hE_6.q x 1).trans hq1
    have hja_7 := (hE_6.p ar j).trans hja
    refine lv_aload_n hx hb dX5_reach_38 rfl (lv_at hl 6 rfl) ?_
    refine lv_aload hx hb dX5_reach_39 (lv_at hl 2 rfl) ?_
    refine kc_i (va_runV (As := [.ref a]) (rest := []) ⟨hx, hb, hml, hown, htT⟩ (c_PV l D cA x_6 x hx5_7 ar hq0_7 ak hq1_7 hak_7 hR_7 7 _ j a hj (by omega) hja_7) (cwV 1 htT (kg_V m_ml_X5_151 m_im_X5_variantOf m_sl_X5_variantOf m_in_X5 m_cd_X5_variantOf) rfl rfl rfl (by decide +kernel) ⟨Nat.le_of_ble_eq_true rfl, Nat.le_of_ble_eq_true rfl⟩) (kp_V hK hP hD hTB (kp_rc hK hP hx5_7 (Nat.le_of_ble_eq_true rfl) rfl)) rfl rfl hl.1 rfl (lv_room (Nat.le_of_ble_eq_true rfl)) dX5_reach_41 ⟨Nat.le_of_ble_eq_true rfl, Nat.le_of_ble_eq_true rfl⟩) hD hS hA (fun r_8 x_8 H locs hq_8 hP hD hS => ?_)
    rw [hq_8.2] at hP hD
    rw [show r_8 = F u from hq_8.1.trans (by rw [hq_6]; exact hF _ hE u (by omega))]
    refine lv_iload_n hx hb dX5_reach_44 rfl (lv_at hl 4 rfl) ?_
    refine lv_icmp_ne (tgt := 51) hx hb dX5_reach_45 (by decide) (fun c_9 => ?_) (fun c_9 => ?_)
    · refine lv_iinc (v := nI (u + 1)) (lv' := [(6, .int (nI (u + 1))), (5, .int acc), (4, .ref a), (3, .int (nI mm)), (2, .int p1), (1, .int p0), (0, .ref x)]) hx hb dX5_reach_51 hl (k := 0) rfl (nI_1 _) (by decide) rfl (fun ls hl => ?_)
      refine lv_goto (tgt := 23) hx hb dX5_reach_54 (by decide) ?_
      have hl := lv_sub hl [0, 1, 2, 3, 4, 5, 6] rfl
      exact ih_23 _ (by omega) H locs ls ⟨u + 1, _, x_6, rfl, by omega, by rw [hC9, show mm - u = (mm - (u + 1)) + 1 by omega]; simp [rCnt, c_9], hE_6, hP, hD, hS, hl⟩
    · obtain ⟨i_10, ei_10⟩ : ∃ y : Int32, y = acc + 1 := ⟨_, rfl⟩
      refine lv_iinc (v := i_10) (lv' := [(5, .int i_10), (6, .int (nI u)), (4, .ref a), (3, .int (nI mm)), (2, .int p1), (1, .int p0), (0, .ref x)]) hx hb dX5_reach_48 hl (k := 1) rfl (by rw [ei_10]; rfl) (by decide) rfl (fun ls hl => ?_)
      refine lv_iinc (v := nI (u + 1)) (lv' := [(6, .int (nI (u + 1))), (5, .int i_10), (4, .ref a), (3, .int (nI mm)), (2, .int p1), (1, .int p0), (0, .ref x)]) hx hb dX5_reach_51 hl (k := 1) rfl (nI_1 _) (by decide) rfl (fun ls hl => ?_)
      refine lv_goto (tgt := 23) hx hb dX5_reach_54 (by decide) ?_
      have hl := lv_sub hl [0, 1, 2, 3, 4, 5, 6] rfl
      exact ih_23 _ (by omega) H locs ls ⟨u + 1, _, x_6, rfl, by omega, by rw [hC9, show mm - u = (mm - (u + 1)) + 1 by omega]; simp [rCnt, c_9, ei_10], hE_6, hP, hD, hS, hl⟩

set_option maxRecDepth 100000 in
set_option maxHeartbeats 4000000 in
/-- both, exact -/
theorem c_bothX (l : Launch) (D : va_G) (cA : Nat → ClassId) (sz : Nat) (S : Pool) (x : Nat) (hx5 : isO S x 5) (ar : Nat) (hq0 : gQ S x 0 = some ar) (ak : Nat) (hq1 : gQ S x 1 = some ak) (hak : isO S ak 1) (hR : okR S ar) (j : Nat) (hj : j < 8) (a : Nat) (hja : gP S ar j = some a) (p0 : Int32) (hsw : kSw S ar p0 = some a) (j2 : Nat) (hj2 : j2 < 8) (b2 : Nat) (hjb : gP S ar j2 = some b2) (p1 : Int32) (hs2 : kSw S ar p1 = some b2) (mm : Nat) (hm1 : 1 ≤ mm) (hmm : mm ≤ 200) (h1 : kOut (nI mm) 1 200 = 0) (F G : Nat → Int32) (hF : ∀ U, eqA S U ak → ∀ u, u < 200 → cRsn (cBec U ak (nI u) (nI u - nI u / 10 * 10) (nI u / 10 - nI u / 10 / 10 * 10)) x ak (cHas (cBec U ak (nI u) (nI u - nI u / 10 * 10) (nI u / 10 - nI u / 10 / 10 * 10)) ar (cV (cBec U ak (nI u) (nI u - nI u / 10 * 10) (nI u / 10 - nI u / 10 / 10 * 10)) x ar ak 7) a) a = F u) (hG : ∀ U, eqA S U ak → ∀ u, u < 200 → cRsn (cBec U ak (nI u) (nI u - nI u / 10 * 10) (nI u / 10 - nI u / 10 / 10 * 10)) x ak (cHas (cBec U ak (nI u) (nI u - nI u / 10 * 10) (nI u / 10 - nI u / 10 / 10 * 10)) ar (cV (cBec U ak (nI u) (nI u - nI u / 10 * 10) (nI u / 10 - nI u / 10 / 10 * 10)) x ar ak 7) b2) b2 = G u)  : Met l yX5_both (Cond.code yX5_both cX5_both 8 (some .int) :: TT) ({ frames := 25, cells := 0, slots := 0, locals := 599 }) (va_Pc [.ref x, .int p0, .int p1, .int (nI mm)] (kPre D cA (PW cA S) sz)) (va_Qi (fun (r_ : Int32) (x_ : Pool) => r_ = rCnt (fun u => if F u = 8 then (if G u = 8 then 1 else 0) else 0) mm 0 0 ∧ eqA S x_ ak) (fun x_ => kB D cA (va_A (PW cA S) sz) (PW cA x_)) (va_A (PW cA S) sz)) 0 0 (va_A (PW cA S) sz) := by
  refine Met.ofW (cc := cX5_both) (maxL := 8) (ret := (some .int)) (by decide) rfl ?_
  intro p e s m args below meth c s₁ B hml hv
  obtain ⟨rfl, hsz, hP, hK, hD0, hTB⟩ := hv
  have hx := B.exec
  have hb := B.bytes
  have hr := B.returns
  have hts := atoms_spec (ws := Cond.code yX5_both cX5_both 8 (some .int) :: TT) B.pre
  have htT : ∀ w ∈ TT, w.before _ s = true := fun w h => hts w (List.mem_cons_of_mem _ h)
  have hown : s.vm.findClass RX5 = some m.cls := findClass_of_methodNamed B.named
  have hlocks := B.notSynchronized
  subst hsz
  have hD := hD0.self (sz := s.heap.size)
  generalize hAe : va_A (PW cA S) s.heap.size = A at hD ⊢
  have hA : ∀ q : Nat, s.heap.size ≤ q → A q := fun q h => by rw [← hAe]; exact Or.inr h
  have hS : va_S A s.heap s.heap [] := va_S.rf
  have hl := lv_entry ([.ref x, .int p0, .int p1, .int (nI mm)]) (n := 8) (Nat.le_of_ble_eq_true rfl)
  rw [lg_entry_eq]
  generalize (lg_sl ([.ref x, .int p0, .int p1, .int (nI mm)]) ++ List.replicate (8 - (lg_sl ([.ref x, .int p0, .int p1, .int (nI mm)])).length) Slot.unset).toArray = ls at hl ⊢
  have hl : lv_has ls 8 [(0, .ref x), (1, .int p0), (2, .int p1), (3, .int (nI mm))] := hl
  refine lv_aload_n hx hb dX5_both_0 rfl (lv_at hl 0 rfl) ?_
  refine lv_iload_n hx hb dX5_both_1 rfl (lv_at hl 1 rfl) ?_
  refine kc_q (va_runV (As := [.int p0]) (rest := []) ⟨hx, hb, hml, hown, htT⟩ (c_known l D cA _ S x hx5 ar hq0 hR.1 p0 a hsw) (cwV 1 htT (kg_V m_ml_X5_45 m_im_X5_known m_sl_X5_known m_in_X5 m_cd_X5_known) rfl rfl rfl (by decide +kernel) ⟨Nat.le_of_ble_eq_true rfl, Nat.le_of_ble_eq_true rfl⟩) (kp_V hK hP hD hTB (kp_rc hK hP hx5 (Nat.le_of_ble_eq_true rfl) rfl)) rfl rfl hl.1 rfl (lv_room (Nat.le_of_ble_eq_true rfl)) dX5_both_2 ⟨Nat.le_of_ble_eq_true rfl, Nat.le_of_ble_eq_true rfl⟩) hD hS hA (fun r_1 x_1 H locs hq_1 hP hD hS => ?_)
  rw [hq_1.1]
  rw [hq_1.2] at hP hD
  refine lv_astore (lv' := [(4, .ref a), (0, .ref x), (1, .int p0), (2, .int p1), (3, .int (nI mm))]) hx hb dX5_both_5 hl (by decide) rfl (fun ls hl => ?_)
  refine lv_aload_n hx hb dX5_both_7 rfl (lv_at hl 1 rfl) ?_
  refine lv_iload_n hx hb dX5_both_8 rfl (lv_at hl 3 rfl) ?_
  refine kc_q (va_runV (As := [.int p1]) (rest := []) ⟨hx, hb, hml, hown, htT⟩ (c_known l D cA _ S x hx5 ar hq0 hR.1 p1 b2 hs2) (cwV 1 htT (kg_V m_ml_X5_45 m_im_X5_known m_sl_X5_known m_in_X5 m_cd_X5_known) rfl rfl rfl (by decide +kernel) ⟨Nat.le_of_ble_eq_true rfl, Nat.le_of_ble_eq_true rfl⟩) (kp_V hK hP hD hTB (kp_rc hK hP hx5 (Nat.le_of_ble_eq_true rfl) rfl)) rfl rfl hl.1 rfl (lv_room (Nat.le_of_ble_eq_true rfl)) dX5_both_9 ⟨Nat.le_of_ble_eq_true rfl, Nat.le_of_ble_eq_true rfl⟩) hD hS hA (fun r_2 x_2 H locs hq_2 hP hD hS => ?_)
  rw [hq_2.1]
  rw [hq_2.2] at hP hD
  refine lv_astore (lv' := [(5, .ref b2), (4, .ref a), (0, .ref x), (1, .int p0), (2, .int p1), (3, .int (nI mm))]) hx hb dX5_both_12 hl (by decide) rfl (fun ls hl => ?_)
  refine lv_iload_n hx hb dX5_both_14 rfl (lv_at hl 5 rfl) ?_
  refine kc_v (va_runS (As := [.int (nI mm)]) (rest := []) ⟨hx, hb, hml, hown, htT⟩ (c_checkMany l D cA _ S (nI mm) h1) (cwS 1 htT (kg_S m_ml_X5_230 m_st_X5_checkMany m_in_X5 m_cd_X5_checkMany) rfl rfl rfl (by decide +kernel) ⟨Nat.le_of_ble_eq_true rfl, Nat.le_of_ble_eq_true rfl⟩) (kp_S hK hP hD hTB) rfl rfl hl.1 rfl (lv_room (Nat.le_of_ble_eq_true rfl)) dX5_both_15 ⟨Nat.le_of_ble_eq_true rfl, Nat.le_of_ble_eq_true rfl⟩) hD hS hA (fun x_3 H locs hq_3 hP hD hS => ?_)
  rw [hq_3] at hP hD
  refine lv_iconst (v := 0) hx hb dX5_both_18 (by decide) ?_
  refine lv_istore (lv' := [(6, .int 0), (5, .ref b2), (4, .ref a), (0, .ref x), (1, .int p0), (2, .int p1), (3, .int (nI mm))]) hx hb dX5_both_19 hl (by decide) rfl (fun ls hl => ?_)
  refine lv_iconst (v := 0) hx hb dX5_both_21 (by decide) ?_
  refine lv_istore (lv' := [(7, .int 0), (6, .int 0), (5, .ref b2), (4, .ref a), (0, .ref x), (1, .int p0), (2, .int p1), (3, .int (nI mm))]) hx hb dX5_both_22 hl (by decide) rfl (fun ls hl => ?_)
  refine kz_loop 24 (fun N9 H locs ls => ∃ (u : Nat) (acc : Int32) (T : Pool), N9 = mm - u ∧ u ≤ mm ∧ rCnt (fun u => if F u = 8 then (if G u = 8 then 1 else 0) else 0) mm 0 0 = rCnt (fun u => if F u = 8 then (if G u = 8 then 1 else 0) else 0) (mm - u) u acc ∧ eqA S T ak ∧ va_P D vwCl (PW cA T) H ∧ va_D A (PW cA T) ∧ va_S A s.heap H locs ∧ lv_has ls 8 [(7, .int (nI u)), (6, .int acc), (5, .ref b2), (4, .ref a), (3, .int (nI mm)), (2, .int p1), (1, .int p0), (0, .ref x)]) (fun N9 ih_24 H locs ls hI => ?_) ⟨0, 0, S, rfl, by omega, rfl, eqA.rf, hP, hD, hS, lv_sub hl [0, 1, 2, 3, 7, 6, 5, 4] rfl⟩
  obtain ⟨u, acc, T, hn9, hu, hC9, hE, hP, hD, hS, hl⟩ := hI
  have hx5_4 := hE.o hx5
  have hak_4 := hE.o hak
  have hR_4 := hE.okR hak hR
  have hq0_4 := (hE.q x 0).trans hq0
  have hq1_4 := (hE.q x 1).trans hq1
  have hja_4 := (hE.p ar j).trans hja
  have hjb_4 := (hE.p ar j2).trans hjb
  refine lv_iload hx hb dX5_both_24 (lv_at hl 0 rfl) ?_
  refine lv_iload_n hx hb dX5_both_26 rfl (lv_at hl 4 rfl) ?_
  refine lv_icmp_ge (tgt := 70) hx hb dX5_both_27 (by decide) (fun c_5 => ?_) (fun c_5 => ?_)
  · replace c_5 := (nI_leI (a := mm) (b := u) (by omega) (by omega)).mp c_5
    refine lv_iload hx hb dX5_both_70 (lv_at hl 1 rfl) ?_
    exact W.iret (v := acc) hx hb hr (fun t ht hW => ⟨⟨acc, T, rfl, ⟨by rw [hC9, show mm - u = 0 by omega]; rfl, hE⟩, by rw [ht]; exact hP, va_K.moved hW.alike hK, hD⟩, hS.F ht⟩) hS.2.2 dX5_both_72
  · replace c_5 : ¬ (mm ≤ u) := fun h9 => c_5 ((nI_leI (a := mm) (b := u) (by omega) (by omega)).mpr h9)
    refine lv_aload_n hx hb dX5_both_30 rfl (lv_at hl 7 rfl) ?_
    refine kx_gets hx hb htT m_u_X5 hown hK hP hx5_4 (Nat.le_of_ble_eq_true rfl) rfl 1 (by decide) (by decide) rfl hq1_4 (htT _ m_fl_X5_18) dX5_both_31 ?_
    refine lv_iload hx hb dX5_both_34 (lv_at hl 0 rfl) ?_
    refine kc_v (va_runV (As := [.int (nI u)]) (rest := []) ⟨hx, hb, hml, hown, htT⟩ (c_becomeCounted l D cA _ T ak hak_4 (nI u)) (cwV 1 htT (kg_V m_ml_X5_233 m_im_X1_becomeCounted m_sl_X1_becomeCounted m_in_X1 m_cd_X1_becomeCounted) rfl rfl rfl (by decide +kernel) ⟨Nat.le_of_ble_eq_true rfl, Nat.le_of_ble_eq_true rfl⟩) (kp_V hK hP hD hTB (kp_rc hK hP hak_4 (Nat.le_of_ble_eq_true rfl) rfl)) rfl rfl hl.1 rfl (lv_room (Nat.le_of_ble_eq_true rfl)) dX5_both_36 ⟨Nat.le_of_ble_eq_true rfl, Nat.le_of_ble_eq_true rfl⟩) hD hS hA (fun x_6 H locs hq_6 hP hD hS => ?_)
    have hE_6 : eqA S x_6 ak := by rw [hq_6]; exact hE.tr eqA.bec
    have hx5_7 := hE_6.o hx5
    have hak_7 := hE_6.o hak
    have hR_7 := hE_6.okR hak hR
    have hq0_7 := (hE_6.q x 0).trans hq0
    have hq1_7 := (hE_6.q x 1).trans hq1
    have hja_7 := (hE_6.p ar j).trans hja
    have hjb_7 := (hE_6.p ar j2).trans hjb
    refine lv_aload_n hx hb dX5_both_39 rfl (lv_at hl 7 rfl) ?_
    refine lv_aload hx hb dX5_both_40 (lv_at hl 3 rfl) ?_
    refine kc_i (va_runV (As := [.ref a]) (rest := []) ⟨hx, hb, hml, hown, htT⟩ (c_reasonOf l D cA _ x_6 x hx5_7 ar hq0_7 ak hq1_7 hak_7 hR_7 7 (fun d9 h => by cases h; exact c_PV l D cA x_6 x hx5_7 ar hq0_7 ak hq1_7 hak_7 hR_7 6) a j hj hja_7 (by omega)) (cwV 1 htT (kg_V m_ml_X5_155 m_im_X5_reasonOf m_sl_X5_reasonOf m_in_X5 m_cd_X5_reasonOf) rfl rfl rfl (by decide +kernel) ⟨Nat.le_of_ble_eq_true rfl, Nat.le_of_ble_eq_true rfl⟩) (kp_V hK hP hD hTB (kp_rc hK hP hx5_7 (Nat.le_of_ble_eq_true rfl) rfl)) rfl rfl hl.1 rfl (lv_room (Nat.le_of_ble_eq_true rfl)) dX5_both_42 ⟨Nat.le_of_ble_eq_true rfl, Nat.le_of_ble_eq_true rfl⟩) hD hS hA (fun r_8 x_8 H locs hq_8 hP hD hS => ?_)
    rw [hq_8.2] at hP hD
    rw [show r_8 = F u from hq_8.1.trans (by rw [hq_6]; exact hF _ hE u (by omega))]
    refine lv_bipush (v := 8) hx hb dX5_both_45 (by decide) ?_
    refine lv_icmp_ne (tgt := 64) hx hb dX5_both_47 (by decide) (fun c_9 => ?_) (fun c_9 => ?_)
    · refine lv_iinc (v := nI (u + 1)) (lv' := [(7, .int (nI (u + 1))), (6, .int acc), (5, .ref b2), (4, .ref a), (3, .int (nI mm)), (2, .int p1), (1, .int p0), (0, .ref x)]) hx hb dX5_both_64 hl (k := 0) rfl (nI_1 _) (by decide) rfl (fun ls hl => ?_)
      refine lv_goto (tgt := 24) hx hb dX5_both_67 (by decide) ?_
      have hl := lv_sub hl [0, 1, 2, 3, 4, 5, 6, 7] rfl
      exact ih_24 _ (by omega) H locs ls ⟨u + 1, _, x_6, rfl, by omega, by rw [hC9, show mm - u = (mm - (u + 1)) + 1 by omega]; simp [rCnt, c_9], hE_6, hP, hD, hS, hl⟩
    · refine lv_aload_n hx hb dX5_both_50 rfl (lv_at hl 7 rfl) ?_
      refine lv_aload hx hb dX5_both_51 (lv_at hl 2 rfl) ?_
      refine kc_i (va_runV (As := [.ref b2]) (rest := []) ⟨hx, hb, hml, hown, htT⟩ (c_reasonOf l D cA _ x_6 x hx5_7 ar hq0_7 ak hq1_7 hak_7 hR_7 7 (fun d9 h => by cases h; exact c_PV l D cA x_6 x hx5_7 ar hq0_7 ak hq1_7 hak_7 hR_7 6) b2 j2 hj2 hjb_7 (by omega)) (cwV 1 htT (kg_V m_ml_X5_155 m_im_X5_reasonOf m_sl_X5_reasonOf m_in_X5 m_cd_X5_reasonOf) rfl rfl rfl (by decide +kernel) ⟨Nat.le_of_ble_eq_true rfl, Nat.le_of_ble_eq_true rfl⟩) (kp_V hK hP hD hTB (kp_rc hK hP hx5_7 (Nat.le_of_ble_eq_true rfl) rfl)) rfl rfl hl.1 rfl (lv_room (Nat.le_of_ble_eq_true rfl)) dX5_both_53 ⟨Nat.le_of_ble_eq_true rfl, Nat.le_of_ble_eq_true rfl⟩) hD hS hA (fun r_10 x_10 H locs hq_10 hP hD hS => ?_)
      rw [hq_10.2] at hP hD
      rw [show r_10 = G u from hq_10.1.trans (by rw [hq_6]; exact hG _ hE u (by omega))]
      refine lv_bipush (v := 8) hx hb dX5_both_56 (by decide) ?_
      refine lv_icmp_ne (tgt := 64) hx hb dX5_both_58 (by decide) (fun c_11 => ?_) (fun c_11 => ?_)
      · refine lv_iinc (v := nI (u + 1)) (lv' := [(7, .int (nI (u + 1))), (6, .int acc), (5, .ref b2), (4, .ref a), (3, .int (nI mm)), (2, .int p1), (1, .int p0), (0, .ref x)]) hx hb dX5_both_64 hl (k := 0) rfl (nI_1 _) (by decide) rfl (fun ls hl => ?_)
        refine lv_goto (tgt := 24) hx hb dX5_both_67 (by decide) ?_
        have hl := lv_sub hl [0, 1, 2, 3, 4, 5, 6, 7] rfl
        exact ih_24 _ (by omega) H locs ls ⟨u + 1, _, x_6, rfl, by omega, by rw [hC9, show mm - u = (mm - (u + 1)) + 1 by omega]; simp [rCnt, c_9, c_11], hE_6, hP, hD, hS, hl⟩
      · obtain ⟨i_12, ei_12⟩ : ∃ y : Int32, y = acc + 1 := ⟨_, rfl⟩
        refine lv_iinc (v := i_12) (lv' := [(6, .int i_12), (7, .int (nI u)), (5, .ref b2), (4, .ref a), (3, .int (nI mm)), (2, .int p1), (1, .int p0), (0, .ref x)]) hx hb dX5_both_61 hl (k := 1) rfl (by rw [ei_12]; rfl) (by decide) rfl (fun ls hl => ?_)
        refine lv_iinc (v := nI (u + 1)) (lv' := [(7, .int (nI (u + 1))), (6, .int i_12), (5, .ref b2), (4, .ref a), (3, .int (nI mm)), (2, .int p1), (1, .int p0), (0, .ref x)]) hx hb dX5_both_64 hl (k := 1) rfl (nI_1 _) (by decide) rfl (fun ls hl => ?_)
        refine lv_goto (tgt := 24) hx hb dX5_both_67 (by decide) ?_
        have hl := lv_sub hl [0, 1, 2, 3, 4, 5, 6, 7] rfl
        exact ih_24 _ (by omega) H locs ls ⟨u + 1, _, x_6, rfl, by omega, by rw [hC9, show mm - u = (mm - (u + 1)) + 1 by omega]; simp [rCnt, c_9, c_11, ei_12], hE_6, hP, hD, hS, hl⟩

set_option maxRecDepth 100000 in
set_option maxHeartbeats 4000000 in
/-- wouldChange, exact -/
theorem c_wouldChangeX (l : Launch) (D : va_G) (cA : Nat → ClassId) (sz : Nat) (S : Pool) (x : Nat) (hx5 : isO S x 5) (ar : Nat) (hq0 : gQ S x 0 = some ar) (ak : Nat) (hq1 : gQ S x 1 = some ak) (hak : isO S ak 1) (hR : okR S ar) (j : Nat) (hj : j < 8) (a : Nat) (hja : gP S ar j = some a) (p0 : Int32) (hsw : kSw S ar p0 = some a) (p1 : Int32) (h2 : kOut p1 0 1000 = 0) (mm : Nat) (hm1 : 1 ≤ mm) (hmm : mm ≤ 200) (h1 : kOut (nI mm) 1 200 = 0) (F : Nat → Int32) (hF : ∀ U, eqA S U ak → ∀ u, u < 200 → cV (cBec U ak (nI u) (nI u - nI u / 10 * 10) (nI u / 10 - nI u / 10 / 10 * 10)) x ar ak 8 a = F u) (G : Nat → Int32) (hG : ∀ U, eqA S U ak → ∀ u, u < 200 → cV (pI (pI (cBec U ak (nI u) (nI u - nI u / 10 * 10) (nI u / 10 - nI u / 10 / 10 * 10)) ak 4 p0) ak 5 p1) x ar ak 8 a = G u)  : Met l yX5_wouldChange (Cond.code yX5_wouldChange cX5_wouldChange 8 (some .int) :: TT) ({ frames := 26, cells := 0, slots := 0, locals := 620 }) (va_Pc [.ref x, .int p0, .int p1, .int (nI mm)] (kPre D cA (PW cA S) sz)) (va_Qi (fun (r_ : Int32) (x_ : Pool) => r_ = rCnt (fun u => if G u = F u then 0 else 1) mm 0 0 ∧ eqA S x_ ak) (fun x_ => kB D cA (va_A (PW cA S) sz) (PW cA x_)) (va_A (PW cA S) sz)) 0 0 (va_A (PW cA S) sz) := by
  refine Met.ofW (cc := cX5_wouldChange) (maxL := 8) (ret := (some .int)) (by decide) rfl ?_
  intro p e s m args below meth c s₁ B hml hv
  obtain ⟨rfl, hsz, hP, hK, hD0, hTB⟩ := hv
  have hx := B.exec
  have hb := B.bytes
  have hr := B.returns
  have hts := atoms_spec (ws := Cond.code yX5_wouldChange cX5_wouldChange 8 (some .int) :: TT) B.pre
  have htT : ∀ w ∈ TT, w.before _ s = true := fun w h => hts w (List.mem_cons_of_mem _ h)
  have hown : s.vm.findClass RX5 = some m.cls := findClass_of_methodNamed B.named
  have hlocks := B.notSynchronized
  subst hsz
  have hD := hD0.self (sz := s.heap.size)
  generalize hAe : va_A (PW cA S) s.heap.size = A at hD ⊢
  have hA : ∀ q : Nat, s.heap.size ≤ q → A q := fun q h => by rw [← hAe]; exact Or.inr h
  have hS : va_S A s.heap s.heap [] := va_S.rf
  have hl := lv_entry ([.ref x, .int p0, .int p1, .int (nI mm)]) (n := 8) (Nat.le_of_ble_eq_true rfl)
  rw [lg_entry_eq]
  generalize (lg_sl ([.ref x, .int p0, .int p1, .int (nI mm)]) ++ List.replicate (8 - (lg_sl ([.ref x, .int p0, .int p1, .int (nI mm)])).length) Slot.unset).toArray = ls at hl ⊢
  have hl : lv_has ls 8 [(0, .ref x), (1, .int p0), (2, .int p1), (3, .int (nI mm))] := hl
  refine lv_aload_n hx hb dX5_wouldChange_0 rfl (lv_at hl 0 rfl) ?_
  refine lv_iload_n hx hb dX5_wouldChange_1 rfl (lv_at hl 1 rfl) ?_
  refine kc_q (va_runV (As := [.int p0]) (rest := []) ⟨hx, hb, hml, hown, htT⟩ (c_known l D cA _ S x hx5 ar hq0 hR.1 p0 a hsw) (cwV 1 htT (kg_V m_ml_X5_45 m_im_X5_known m_sl_X5_known m_in_X5 m_cd_X5_known) rfl rfl rfl (by decide +kernel) ⟨Nat.le_of_ble_eq_true rfl, Nat.le_of_ble_eq_true rfl⟩) (kp_V hK hP hD hTB (kp_rc hK hP hx5 (Nat.le_of_ble_eq_true rfl) rfl)) rfl rfl hl.1 rfl (lv_room (Nat.le_of_ble_eq_true rfl)) dX5_wouldChange_2 ⟨Nat.le_of_ble_eq_true rfl, Nat.le_of_ble_eq_true rfl⟩) hD hS hA (fun r_1 x_1 H locs hq_1 hP hD hS => ?_)
  rw [hq_1.1]
  rw [hq_1.2] at hP hD
  refine lv_astore (lv' := [(4, .ref a), (0, .ref x), (1, .int p0), (2, .int p1), (3, .int (nI mm))]) hx hb dX5_wouldChange_5 hl (by decide) rfl (fun ls hl => ?_)
  refine lv_iload_n hx hb dX5_wouldChange_7 rfl (lv_at hl 3 rfl) ?_
  refine lv_iconst (v := 0) hx hb dX5_wouldChange_8 (by decide) ?_
  refine lv_sipush (v := 1000) hx hb dX5_wouldChange_9 (by decide) ?_
  refine kc_i (va_runS (As := [.int p1, .int 0, .int 1000]) (rest := []) ⟨hx, hb, hml, hown, htT⟩ (c_isOutside l D cA _ S p1 0 1000) (cwS 3 htT (kg_S m_ml_X5_22 m_st_X5_isOutside m_in_X5 m_cd_X5_isOutside) rfl rfl rfl (by decide +kernel) ⟨Nat.le_of_ble_eq_true rfl, Nat.le_of_ble_eq_true rfl⟩) (kp_S hK hP hD hTB) rfl rfl hl.1 rfl (lv_room (Nat.le_of_ble_eq_true rfl)) dX5_wouldChange_12 ⟨Nat.le_of_ble_eq_true rfl, Nat.le_of_ble_eq_true rfl⟩) hD hS hA (fun r_2 x_2 H locs hq_2 hP hD hS => ?_)
  rw [hq_2.1.trans h2]
  rw [hq_2.2] at hP hD
  refine lv_if_eq (tgt := 28) hx hb dX5_wouldChange_15 (by decide) (fun _ => ?_) (fun c_3 => absurd c_3 (by decide))
  refine lv_iload_n hx hb dX5_wouldChange_28 rfl (lv_at hl 4 rfl) ?_
  refine kc_v (va_runS (As := [.int (nI mm)]) (rest := []) ⟨hx, hb, hml, hown, htT⟩ (c_checkMany l D cA _ S (nI mm) h1) (cwS 1 htT (kg_S m_ml_X5_230 m_st_X5_checkMany m_in_X5 m_cd_X5_checkMany) rfl rfl rfl (by decide +kernel) ⟨Nat.le_of_ble_eq_true rfl, Nat.le_of_ble_eq_true rfl⟩) (kp_S hK hP hD hTB) rfl rfl hl.1 rfl (lv_room (Nat.le_of_ble_eq_true rfl)) dX5_wouldChange_29 ⟨Nat.le_of_ble_eq_true rfl, Nat.le_of_ble_eq_true rfl⟩) hD hS hA (fun x_4 H locs hq_4 hP hD hS => ?_)
  rw [hq_4] at hP hD
  refine lv_iconst (v := 0) hx hb dX5_wouldChange_32 (by decide) ?_
  refine lv_istore (lv' := [(5, .int 0), (4, .ref a), (0, .ref x), (1, .int p0), (2, .int p1), (3, .int (nI mm))]) hx hb dX5_wouldChange_33 hl (by decide) rfl (fun ls hl => ?_)
  refine lv_iconst (v := 0) hx hb dX5_wouldChange_35 (by decide) ?_
  refine lv_istore (lv' := [(6, .int 0), (5, .int 0), (4, .ref a), (0, .ref x), (1, .int p0), (2, .int p1), (3, .int (nI mm))]) hx hb dX5_wouldChange_36 hl (by decide) rfl (fun ls hl => ?_)
  refine kz_loop 38 (fun N9 H locs ls => ∃ (u : Nat) (acc : Int32) (T : Pool), N9 = mm - u ∧ u ≤ mm ∧ rCnt (fun u => if G u = F u then 0 else 1) mm 0 0 = rCnt (fun u => if G u = F u then 0 else 1) (mm - u) u acc ∧ eqA S T ak ∧ va_P D vwCl (PW cA T) H ∧ va_D A (PW cA T) ∧ va_S A s.heap H locs ∧ lv_has ls 8 [(6, .int (nI u)), (5, .int acc), (4, .ref a), (3, .int (nI mm)), (2, .int p1), (1, .int p0), (0, .ref x)]) (fun N9 ih_38 H locs ls hI => ?_) ⟨0, 0, S, rfl, by omega, rfl, eqA.rf, hP, hD, hS, lv_sub hl [0, 1, 2, 6, 5, 4, 3] rfl⟩
  obtain ⟨u, acc, T, hn9, hu, hC9, hE, hP, hD, hS, hl⟩ := hI
  have hx5_5 := hE.o hx5
  have hak_5 := hE.o hak
  have hR_5 := hE.okR hak hR
  have hq0_5 := (hE.q x 0).trans hq0
  have hq1_5 := (hE.q x 1).trans hq1
  have hja_5 := (hE.p ar j).trans hja
  refine lv_iload hx hb dX5_wouldChange_38 (lv_at hl 0 rfl) ?_
  refine lv_iload_n hx hb dX5_wouldChange_40 rfl (lv_at hl 3 rfl) ?_
  refine lv_icmp_ge (tgt := 90) hx hb dX5_wouldChange_41 (by decide) (fun c_6 => ?_) (fun c_6 => ?_)
  · replace c_6 := (nI_leI (a := mm) (b := u) (by omega) (by omega)).mp c_6
    refine lv_iload hx hb dX5_wouldChange_90 (lv_at hl 1 rfl) ?_
    exact W.iret (v := acc) hx hb hr (fun t ht hW => ⟨⟨acc, T, rfl, ⟨by rw [hC9, show mm - u = 0 by omega]; rfl, hE⟩, by rw [ht]; exact hP, va_K.moved hW.alike hK, hD⟩, hS.F ht⟩) hS.2.2 dX5_wouldChange_92
  · replace c_6 : ¬ (mm ≤ u) := fun h9 => c_6 ((nI_leI (a := mm) (b := u) (by omega) (by omega)).mpr h9)
    refine lv_aload_n hx hb dX5_wouldChange_44 rfl (lv_at hl 6 rfl) ?_
    refine kx_gets hx hb htT m_u_X5 hown hK hP hx5_5 (Nat.le_of_ble_eq_true rfl) rfl 1 (by decide) (by decide) rfl hq1_5 (htT _ m_fl_X5_18) dX5_wouldChange_45 ?_
    refine lv_iload hx hb dX5_wouldChange_48 (lv_at hl 0 rfl) ?_
    refine kc_v (va_runV (As := [.int (nI u)]) (rest := []) ⟨hx, hb, hml, hown, htT⟩ (c_becomeCounted l D cA _ T ak hak_5 (nI u)) (cwV 1 htT (kg_V m_ml_X5_233 m_im_X1_becomeCounted m_sl_X1_becomeCounted m_in_X1 m_cd_X1_becomeCounted) rfl rfl rfl (by decide +kernel) ⟨Nat.le_of_ble_eq_true rfl, Nat.le_of_ble_eq_true rfl⟩) (kp_V hK hP hD hTB (kp_rc hK hP hak_5 (Nat.le_of_ble_eq_true rfl) rfl)) rfl rfl hl.1 rfl (lv_room (Nat.le_of_ble_eq_true rfl)) dX5_wouldChange_50 ⟨Nat.le_of_ble_eq_true rfl, Nat.le_of_ble_eq_true rfl⟩) hD hS hA (fun x_7 H locs hq_7 hP hD hS => ?_)
    have hE_7 : eqA S x_7 ak := by rw [hq_7]; exact hE.tr eqA.bec
    have hx5_8 := hE_7.o hx5
    have hak_8 := hE_7.o hak
    have hR_8 := hE_7.okR hak hR
    have hq0_8 := (hE_7.q x 0).trans hq0
    have hq1_8 := (hE_7.q x 1).trans hq1
    have hja_8 := (hE_7.p ar j).trans hja
    refine lv_aload_n hx hb dX5_wouldChange_53 rfl (lv_at hl 6 rfl) ?_
    refine lv_aload hx hb dX5_wouldChange_54 (lv_at hl 2 rfl) ?_
    refine kc_i (va_runV (As := [.ref a]) (rest := []) ⟨hx, hb, hml, hown, htT⟩ (c_PV l D cA x_7 x hx5_8 ar hq0_8 ak hq1_8 hak_8 hR_8 7 _ j a hj (by omega) hja_8) (cwV 1 htT (kg_V m_ml_X5_151 m_im_X5_variantOf m_sl_X5_variantOf m_in_X5 m_cd_X5_variantOf) rfl rfl rfl (by decide +kernel) ⟨Nat.le_of_ble_eq_true rfl, Nat.le_of_ble_eq_true rfl⟩) (kp_V hK hP hD hTB (kp_rc hK hP hx5_8 (Nat.le_of_ble_eq_true rfl) rfl)) rfl rfl hl.1 rfl (lv_room (Nat.le_of_ble_eq_true rfl)) dX5_wouldChange_56 ⟨Nat.le_of_ble_eq_true rfl, Nat.le_of_ble_eq_true rfl⟩) hD hS hA (fun r_9 x_9 H locs hq_9 hP hD hS => ?_)
    rw [hq_9.2] at hP hD
    rw [show r_9 = F u from hq_9.1.trans (by rw [hq_7]; exact hF _ hE u (by omega))]
    refine lv_istore (lv' := [(7, .int (F u)), (6, .int (nI u)), (5, .int acc), (4, .ref a), (3, .int (nI mm)), (2, .int p1), (1, .int p0), (0, .ref x)]) hx hb dX5_wouldChange_59 hl (by decide) rfl (fun ls hl => ?_)
    refine lv_aload_n hx hb dX5_wouldChange_61 rfl (lv_at hl 7 rfl) ?_
    refine kx_gets hx hb htT m_u_X5 hown hK hP hx5_8 (Nat.le_of_ble_eq_true rfl) rfl 1 (by decide) (by decide) rfl hq1_8 (htT _ m_fl_X5_18) dX5_wouldChange_62 ?_
    refine lv_iload_n hx hb dX5_wouldChange_65 rfl (lv_at hl 6 rfl) ?_
    refine lv_iload_n hx hb dX5_wouldChange_66 rfl (lv_at hl 5 rfl) ?_
    refine kc_v (va_runV (As := [.int p0, .int p1]) (rest := []) ⟨hx, hb, hml, hown, htT⟩ (c_supposeRamp l D cA _ x_7 ak hak_8 p0 p1) (cwV 2 htT (kg_V m_ml_X5_238 m_im_X1_supposeRamp m_sl_X1_supposeRamp m_in_X1 m_cd_X1_supposeRamp) rfl rfl rfl (by decide +kernel) ⟨Nat.le_of_ble_eq_true rfl, Nat.le_of_ble_eq_true rfl⟩) (kp_V hK hP hD hTB (kp_rc hK hP hak_8 (Nat.le_of_ble_eq_true rfl) rfl)) rfl rfl hl.1 rfl (lv_room (Nat.le_of_ble_eq_true rfl)) dX5_wouldChange_67 ⟨Nat.le_of_ble_eq_true rfl, Nat.le_of_ble_eq_true rfl⟩) hD hS hA (fun x_10 H locs hq_10 hP hD hS => ?_)
    have hE_10 : eqA S x_10 ak := by rw [hq_10]; exact hE_7.tr (eqA.pI.tr eqA.pI)
    have hx5_11 := hE_10.o hx5
    have hak_11 := hE_10.o hak
    have hR_11 := hE_10.okR hak hR
    have hq0_11 := (hE_10.q x 0).trans hq0
    have hq1_11 := (hE_10.q x 1).trans hq1
    have hja_11 := (hE_10.p ar j).trans hja
    refine lv_aload_n hx hb dX5_wouldChange_70 rfl (lv_at hl 7 rfl) ?_
    refine lv_aload hx hb dX5_wouldChange_71 (lv_at hl 3 rfl) ?_
    refine kc_i (va_runV (As := [.ref a]) (rest := []) ⟨hx, hb, hml, hown, htT⟩ (c_PV l D cA x_10 x hx5_11 ar hq0_11 ak hq1_11 hak_11 hR_11 7 _ j a hj (by omega) hja_11) (cwV 1 htT (kg_V m_ml_X5_151 m_im_X5_variantOf m_sl_X5_variantOf m_in_X5 m_cd_X5_variantOf) rfl rfl rfl (by decide +kernel) ⟨Nat.le_of_ble_eq_true rfl, Nat.le_of_ble_eq_true rfl⟩) (kp_V hK hP hD hTB (kp_rc hK hP hx5_11 (Nat.le_of_ble_eq_true rfl) rfl)) rfl rfl hl.1 rfl (lv_room (Nat.le_of_ble_eq_true rfl)) dX5_wouldChange_73 ⟨Nat.le_of_ble_eq_true rfl, Nat.le_of_ble_eq_true rfl⟩) hD hS hA (fun r_12 x_12 H locs hq_12 hP hD hS => ?_)
    rw [hq_12.2] at hP hD
    rw [show r_12 = G u from hq_12.1.trans (by rw [hq_10, hq_7]; exact hG _ hE u (by omega))]
    refine lv_iload hx hb dX5_wouldChange_76 (lv_at hl 0 rfl) ?_
    refine lv_icmp_eq (tgt := 84) hx hb dX5_wouldChange_78 (by decide) (fun c_13 => ?_) (fun c_13 => ?_)
    · refine lv_iinc (v := nI (u + 1)) (lv' := [(6, .int (nI (u + 1))), (7, .int (F u)), (5, .int acc), (4, .ref a), (3, .int (nI mm)), (2, .int p1), (1, .int p0), (0, .ref x)]) hx hb dX5_wouldChange_84 hl (k := 1) rfl (nI_1 _) (by decide) rfl (fun ls hl => ?_)
      refine lv_goto (tgt := 38) hx hb dX5_wouldChange_87 (by decide) ?_
      have hl := lv_sub hl [0, 2, 3, 4, 5, 6, 7] rfl
      exact ih_38 _ (by omega) H locs ls ⟨u + 1, _, x_10, rfl, by omega, by rw [hC9, show mm - u = (mm - (u + 1)) + 1 by omega]; simp [rCnt, c_13], hE_10, hP, hD, hS, hl⟩
    · obtain ⟨i_14, ei_14⟩ : ∃ y : Int32, y = acc + 1 := ⟨_, rfl⟩
      refine lv_iinc (v := i_14) (lv' := [(5, .int i_14), (7, .int (F u)), (6, .int (nI u)), (4, .ref a), (3, .int (nI mm)), (2, .int p1), (1, .int p0), (0, .ref x)]) hx hb dX5_wouldChange_81 hl (k := 2) rfl (by rw [ei_14]; rfl) (by decide) rfl (fun ls hl => ?_)
      refine lv_iinc (v := nI (u + 1)) (lv' := [(6, .int (nI (u + 1))), (5, .int i_14), (7, .int (F u)), (4, .ref a), (3, .int (nI mm)), (2, .int p1), (1, .int p0), (0, .ref x)]) hx hb dX5_wouldChange_84 hl (k := 2) rfl (nI_1 _) (by decide) rfl (fun ls hl => ?_)
      refine lv_goto (tgt := 38) hx hb dX5_wouldChange_87 (by decide) ?_
      have hl := lv_sub hl [0, 1, 3, 4, 5, 6, 7] rfl
      exact ih_38 _ (by omega) H locs ls ⟨u + 1, _, x_10, rfl, by omega, by rw [hC9, show mm - u = (mm - (u + 1)) + 1 by omega]; simp [rCnt, c_13, ei_14], hE_10, hP, hD, hS, hl⟩

