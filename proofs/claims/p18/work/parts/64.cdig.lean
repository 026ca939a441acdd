/-! the class: its digest -/
theorem kOut_sw {n i : Nat} {v : Int32} (hi : i < n) (hn8 : n ≤ 8) (h3 : v = nI n) : kOut (nI i) 0 (v - 1) = 0 := by
  subst h3
  rw [show nI n - 1 = nI (n - 1) from pk_sub (a := n) (b := 1) (by omega)]
  unfold kOut
  rw [if_neg (fun h => by have := (nI_ltI (a := i) (b := 0) (by omega) (by omega)).mp h; omega), if_pos ((nI_leI (a := i) (b := n - 1) (by omega) (by omega)).mpr (by omega))]
theorem kOut_3 : ∀ j, j < 3 → kOut (nI j) 0 2 = 0 := by decide
theorem kOut_9 : ∀ u, u < 10 → kOut (nI u) 0 9999 = 0 ∧ kOut (nI u) 0 9 = 0 ∧ kOut (9 - nI u) 0 9 = 0 := by decide
theorem kSw_at {S : Pool} {ar k : Nat} (h : k < 8) : kSw S ar (nI k) = gP S ar k := by
  unfold kSw
  rw [if_neg (fun q => by have := (nI_ltI (a := k) (b := 0) (by omega) (by omega)).mp q; omega), if_pos (show nI k < 8 from (nI_ltI (a := k) (b := 8) (by omega) (by omega)).mpr h), ki_cl (by omega)]
set_option maxRecDepth 100000 in
set_option maxHeartbeats 4000000 in
/-- withSwitch -/
theorem c_withSwitch (l : Launch) (D : va_G) (cA : Nat → ClassId) (sz : Nat) (S : Pool) (x : Nat) (hx5 : isO S x 5) (ar : Nat) (hq0 : gQ S x 0 = some ar) (ak : Nat) (hq1 : gQ S x 1 = some ak) (hak : isO S ak 1) (hR : okR S ar) (j : Nat) (hj : j < 8) (a : Nat) (hja : gP S ar j = some a) (i : Nat) (hsw : kSw S ar (nI i) = some a) (vc : Nat) (hvc : vc ≤ 4) (h2v : gI S a 2 = nI vc) (d0 : Int64) : MetD lw_cs l yX5_withSwitch (Cond.code yX5_withSwitch cX5_withSwitch 9 (some .long) :: TT) ({ frames := 27, cells := 0, slots := 0, locals := 646 }) (va_Pc [.ref x, .long d0, .int (nI i)] (kPre D cA (PW cA S) sz)) (va_Ql (fun (r_ : Int64) (x_ : Pool) => eqA S x_ ak) (fun x_ => kB D cA (va_A (PW cA S) sz) (PW cA x_)) (va_A (PW cA S) sz)) 0 0 (va_A (PW cA S) sz) := by
  refine MetD.ofW (cc := cX5_withSwitch) (maxL := 9) (ret := (some .long)) (by decide) rfl ?_
  intro p e s m args below meth c s₁ B hml hv hd0
  obtain ⟨rfl, hsz, hP, hK, hD0, hTB⟩ := hv
  have hx := B.exec
  have hb := B.bytes
  have hr := B.returns
  have hts := atoms_spec (ws := Cond.code yX5_withSwitch cX5_withSwitch 9 (some .long) :: TT) B.pre
  have htT : ∀ w ∈ TT, w.before _ s = true := fun w h => hts w (List.mem_cons_of_mem _ h)
  have hown : s.vm.findClass RX5 = some m.cls := findClass_of_methodNamed B.named
  have hlocks := B.notSynchronized
  subst hsz
  have hD := hD0.self (sz := s.heap.size)
  generalize hAe : va_A (PW cA S) s.heap.size = A at hD ⊢
  have hA : ∀ q : Nat, s.heap.size ≤ q → A q := fun q h => by rw [← hAe]; exact Or.inr h
  have hS : va_S A s.heap s.heap [] := va_S.rf
  have hl := lv_entry ([.ref x, .long d0, .int (nI i)]) (n := 9) (Nat.le_of_ble_eq_true rfl)
  rw [lg_entry_eq]
  generalize (lg_sl ([.ref x, .long d0, .int (nI i)]) ++ List.replicate (9 - (lg_sl ([.ref x, .long d0, .int (nI i)])).length) Slot.unset).toArray = ls at hl ⊢
  have hl : lv_has ls 9 [(0, .ref x), (1, .long d0), (3, .int (nI i))] := hl
  have htT0 := htT
  have hTB0 := hTB
  have hK0 := hK
  have hown0 := hown
  have htT : ∀ w ∈ TT, w.before _ (s.setDrawn s.drawn) = true := dr_words htT0 s.drawn
  have hTB : TBok (s.setDrawn s.drawn) := TBok.same (u := s) (U := s.setDrawn s.drawn) rfl (Vm.Alike.refl s.vm) hTB0
  have hK : va_K D vwCl (ty6 cA) (s.setDrawn s.drawn) := hK0
  have hown : (s.setDrawn s.drawn).vm.findClass RX5 = some m.cls := hown0
  have hx5_1 := (eqA.rf (S := S) (ak := ak)).o hx5
  have hak_1 := (eqA.rf (S := S) (ak := ak)).o hak
  have hR_1 := (eqA.rf (S := S) (ak := ak)).okR hak hR
  have hq0_1 := ((eqA.rf (S := S) (ak := ak)).q x 0).trans hq0
  have hq1_1 := ((eqA.rf (S := S) (ak := ak)).q x 1).trans hq1
  have hja_1 := ((eqA.rf (S := S) (ak := ak)).p ar j).trans hja
  refine lv_lload_n hx hb dX5_withSwitch_0 rfl (lv_at hl 1 rfl) ?_
  refine lv_aload_n hx hb dX5_withSwitch_1 rfl (lv_at hl 0 rfl) ?_
  refine lv_iload_n hx hb dX5_withSwitch_2 rfl (lv_at hl 2 rfl) ?_
  refine kc_i (va_runV (As := [.int (nI i)]) (rest := [.long d0]) ⟨hx, hb, hml, hown, htT⟩ (c_share l D cA _ S x hx5_1 ar hq0_1 ak hq1_1 hak_1 hR_1 j hj a hja_1 (nI i) (((eqA.rf (S := S) (ak := ak)).sw _).trans hsw) ) (cwV 1 htT (kg_V m_ml_X5_273 m_im_X5_share m_sl_X5_share m_in_X5 m_cd_X5_share) rfl rfl rfl (by decide +kernel) ⟨Nat.le_of_ble_eq_true rfl, Nat.le_of_ble_eq_true rfl⟩) (kp_V hK hP hD hTB (kp_rc hK hP hx5_1 (Nat.le_of_ble_eq_true rfl) rfl)) rfl rfl hl.1 rfl (lv_room (Nat.le_of_ble_eq_true rfl)) dX5_withSwitch_3 ⟨Nat.le_of_ble_eq_true rfl, Nat.le_of_ble_eq_true rfl⟩) hD hS hA (fun r_2 x_2 H locs hq_2 hP hD hS => ?_)
  rw [hq_2.2] at hP hD
  refine lv_i2l (v := r_2.toInt64) hx hb dX5_withSwitch_6 rfl ?_
  refine kc_l (va_runS (As := [.long d0, .long r_2.toInt64]) (rest := []) ⟨hx, hb, hml, hown, htT⟩ (c_withNext l D cA _ S d0 r_2.toInt64) (cwS 2 htT (kg_S m_ml_X5_249 m_st_X5_withNext m_in_X5 m_cd_X5_withNext) rfl rfl rfl (by decide +kernel) ⟨Nat.le_of_ble_eq_true rfl, Nat.le_of_ble_eq_true rfl⟩) (kp_S hK hP hD hTB) rfl rfl hl.1 rfl (lv_room (Nat.le_of_ble_eq_true rfl)) dX5_withSwitch_7 ⟨Nat.le_of_ble_eq_true rfl, Nat.le_of_ble_eq_true rfl⟩) hD hS hA (fun r_3 x_3 H locs hq_3 hP hD hS => ?_)
  rw [hq_3.2] at hP hD
  refine lv_lstore (lv' := [(4, .long r_3), (0, .ref x), (1, .long d0), (3, .int (nI i))]) hx hb dX5_withSwitch_10 hl (by decide) rfl (fun ls hl => ?_)
  refine lv_lload hx hb dX5_withSwitch_12 (lv_at hl 0 rfl) ?_
  refine lv_aload_n hx hb dX5_withSwitch_14 rfl (lv_at hl 1 rfl) ?_
  refine lv_iload_n hx hb dX5_withSwitch_15 rfl (lv_at hl 3 rfl) ?_
  refine kc_i (va_runV (As := [.int (nI i)]) (rest := [.long r_3]) ⟨hx, hb, hml, hown, htT⟩ (c_bad l D cA _ S x hx5_1 ar hq0_1 ak hq1_1 hak_1 hR_1 j hj a hja_1 (nI i) (((eqA.rf (S := S) (ak := ak)).sw _).trans hsw) ) (cwV 1 htT (kg_V m_ml_X5_276 m_im_X5_bad m_sl_X5_bad m_in_X5 m_cd_X5_bad) rfl rfl rfl (by decide +kernel) ⟨Nat.le_of_ble_eq_true rfl, Nat.le_of_ble_eq_true rfl⟩) (kp_V hK hP hD hTB (kp_rc hK hP hx5_1 (Nat.le_of_ble_eq_true rfl) rfl)) rfl rfl hl.1 rfl (lv_room (Nat.le_of_ble_eq_true rfl)) dX5_withSwitch_16 ⟨Nat.le_of_ble_eq_true rfl, Nat.le_of_ble_eq_true rfl⟩) hD hS hA (fun r_4 x_4 H locs hq_4 hP hD hS => ?_)
  rw [hq_4.2] at hP hD
  refine lv_i2l (v := r_4.toInt64) hx hb dX5_withSwitch_19 rfl ?_
  refine kc_l (va_runS (As := [.long r_3, .long r_4.toInt64]) (rest := []) ⟨hx, hb, hml, hown, htT⟩ (c_withNext l D cA _ S r_3 r_4.toInt64) (cwS 2 htT (kg_S m_ml_X5_249 m_st_X5_withNext m_in_X5 m_cd_X5_withNext) rfl rfl rfl (by decide +kernel) ⟨Nat.le_of_ble_eq_true rfl, Nat.le_of_ble_eq_true rfl⟩) (kp_S hK hP hD hTB) rfl rfl hl.1 rfl (lv_room (Nat.le_of_ble_eq_true rfl)) dX5_withSwitch_20 ⟨Nat.le_of_ble_eq_true rfl, Nat.le_of_ble_eq_true rfl⟩) hD hS hA (fun r_5 x_5 H locs hq_5 hP hD hS => ?_)
  rw [hq_5.2] at hP hD
  refine lv_lstore (lv' := [(4, .long r_5), (0, .ref x), (1, .long d0), (3, .int (nI i))]) hx hb dX5_withSwitch_23 hl (by decide) rfl (fun ls hl => ?_)
  refine lv_lload hx hb dX5_withSwitch_25 (lv_at hl 0 rfl) ?_
  refine lv_aload_n hx hb dX5_withSwitch_27 rfl (lv_at hl 1 rfl) ?_
  refine lv_iload_n hx hb dX5_withSwitch_28 rfl (lv_at hl 3 rfl) ?_
  refine kc_i (va_runV (As := [.int (nI i)]) (rest := [.long r_5]) ⟨hx, hb, hml, hown, htT⟩ (c_isTrusted l D cA _ S x hx5_1 ar hq0_1 ak hq1_1 hak_1 hR_1 j hj a hja_1 (nI i) (((eqA.rf (S := S) (ak := ak)).sw _).trans hsw) ) (cwV 1 htT (kg_V m_ml_X5_279 m_im_X5_isTrusted m_sl_X5_isTrusted m_in_X5 m_cd_X5_isTrusted) rfl rfl rfl (by decide +kernel) ⟨Nat.le_of_ble_eq_true rfl, Nat.le_of_ble_eq_true rfl⟩) (kp_V hK hP hD hTB (kp_rc hK hP hx5_1 (Nat.le_of_ble_eq_true rfl) rfl)) rfl rfl hl.1 rfl (lv_room (Nat.le_of_ble_eq_true rfl)) dX5_withSwitch_29 ⟨Nat.le_of_ble_eq_true rfl, Nat.le_of_ble_eq_true rfl⟩) hD hS hA (fun r_6 x_6 H locs hq_6 hP hD hS => ?_)
  rw [hq_6.2] at hP hD
  refine lv_if_eq (tgt := 39) hx hb dX5_withSwitch_32 (by decide) (fun c_7 => ?_) (fun c_7 => ?_)
  · refine lv_lconst (v := 0) hx hb dX5_withSwitch_39 (by decide) ?_
    refine kc_l (va_runS (As := [.long r_5, .long 0]) (rest := []) ⟨hx, hb, hml, hown, htT⟩ (c_withNext l D cA _ S r_5 0) (cwS 2 htT (kg_S m_ml_X5_249 m_st_X5_withNext m_in_X5 m_cd_X5_withNext) rfl rfl rfl (by decide +kernel) ⟨Nat.le_of_ble_eq_true rfl, Nat.le_of_ble_eq_true rfl⟩) (kp_S hK hP hD hTB) rfl rfl hl.1 rfl (lv_room (Nat.le_of_ble_eq_true rfl)) dX5_withSwitch_40 ⟨Nat.le_of_ble_eq_true rfl, Nat.le_of_ble_eq_true rfl⟩) hD hS hA (fun r_8 x_8 H locs hq_8 hP hD hS => ?_)
    rw [hq_8.2] at hP hD
    refine lv_lstore (lv' := [(4, .long r_8), (0, .ref x), (1, .long d0), (3, .int (nI i))]) hx hb dX5_withSwitch_43 hl (by decide) rfl (fun ls hl => ?_)
    refine lv_lload hx hb dX5_withSwitch_45 (lv_at hl 0 rfl) ?_
    refine lv_aload_n hx hb dX5_withSwitch_47 rfl (lv_at hl 1 rfl) ?_
    refine lv_iload_n hx hb dX5_withSwitch_48 rfl (lv_at hl 3 rfl) ?_
    refine kcD_i hd0 (va_runV_D (As := [.int (nI i)]) (rest := [.long r_8]) ⟨hx, hb, hml, hown, htT⟩ (c_best l D cA _ S x hx5_1 ar hq0_1 ak hq1_1 hak_1 hR_1 j hj a hja_1 (nI i) (((eqA.rf (S := S) (ak := ak)).sw _).trans hsw) ) (cwV 1 htT (kg_V m_ml_X5_283 m_im_X5_best m_sl_X5_best m_in_X5 m_cd_X5_best) rfl rfl rfl (by decide +kernel) ⟨Nat.le_of_ble_eq_true rfl, Nat.le_of_ble_eq_true rfl⟩) (kp_V hK hP hD hTB (kp_rc hK hP hx5_1 (Nat.le_of_ble_eq_true rfl) rfl)) rfl rfl hl.1 rfl (lv_room (Nat.le_of_ble_eq_true rfl)) dX5_withSwitch_49 ⟨Nat.le_of_ble_eq_true rfl, Nat.le_of_ble_eq_true rfl⟩) hD hS hA (fun r_9 x_9 H locs hq_9 hP hD hS d_9 hd0 => ?_)
    have htT : ∀ w ∈ TT, w.before _ (s.setDrawn d_9) = true := dr_words htT0 d_9
    have hTB : TBok (s.setDrawn d_9) := TBok.same (u := s) (U := s.setDrawn d_9) rfl (Vm.Alike.refl s.vm) hTB0
    have hK : va_K D vwCl (ty6 cA) (s.setDrawn d_9) := hK0
    have hown : (s.setDrawn d_9).vm.findClass RX5 = some m.cls := hown0
    rw [hq_9.2] at hP hD
    refine lv_i2l (v := r_9.toInt64) hx hb dX5_withSwitch_52 rfl ?_
    refine kc_l (va_runS (As := [.long r_8, .long r_9.toInt64]) (rest := []) ⟨hx, hb, hml, hown, htT⟩ (c_withNext l D cA _ S r_8 r_9.toInt64) (cwS 2 htT (kg_S m_ml_X5_249 m_st_X5_withNext m_in_X5 m_cd_X5_withNext) rfl rfl rfl (by decide +kernel) ⟨Nat.le_of_ble_eq_true rfl, Nat.le_of_ble_eq_true rfl⟩) (kp_S hK hP hD hTB) rfl rfl hl.1 rfl (lv_room (Nat.le_of_ble_eq_true rfl)) dX5_withSwitch_53 ⟨Nat.le_of_ble_eq_true rfl, Nat.le_of_ble_eq_true rfl⟩) hD hS hA (fun r_10 x_10 H locs hq_10 hP hD hS => ?_)
    rw [hq_10.2] at hP hD
    refine lv_lstore (lv' := [(4, .long r_10), (0, .ref x), (1, .long d0), (3, .int (nI i))]) hx hb dX5_withSwitch_56 hl (by decide) rfl (fun ls hl => ?_)
    refine lv_aload_n hx hb dX5_withSwitch_58 rfl (lv_at hl 1 rfl) ?_
    refine lv_iload_n hx hb dX5_withSwitch_59 rfl (lv_at hl 3 rfl) ?_
    refine kc_q (va_runV (As := [.int (nI i)]) (rest := []) ⟨hx, hb, hml, hown, htT⟩ (c_known l D cA _ S x hx5_1 ar hq0_1 hR_1.1 (nI i) a (((eqA.rf (S := S) (ak := ak)).sw _).trans hsw)) (cwV 1 htT (kg_V m_ml_X5_45 m_im_X5_known m_sl_X5_known m_in_X5 m_cd_X5_known) rfl rfl rfl (by decide +kernel) ⟨Nat.le_of_ble_eq_true rfl, Nat.le_of_ble_eq_true rfl⟩) (kp_V hK hP hD hTB (kp_rc hK hP hx5_1 (Nat.le_of_ble_eq_true rfl) rfl)) rfl rfl hl.1 rfl (lv_room (Nat.le_of_ble_eq_true rfl)) dX5_withSwitch_60 ⟨Nat.le_of_ble_eq_true rfl, Nat.le_of_ble_eq_true rfl⟩) hD hS hA (fun r_11 x_11 H locs hq_11 hP hD hS => ?_)
    rw [hq_11.1]
    rw [hq_11.2] at hP hD
    have h2v_11 : gI S a 2 = nI vc := ((eqA.rf (S := S) (ak := ak)).i hak (hR.2 j hj a hja).1.1 (by decide) 2).trans h2v
    refine kx_getiNv hx hb htT m_u_X3 hown hK hP ((hR_1.2 j hj a hja_1).1.1) (Nat.le_of_ble_eq_true rfl) rfl 2 (by decide) (by decide) rfl (hTB.use m_fl_X5_286) h2v_11 dX5_withSwitch_63 ?_
    refine lv_istore (lv' := [(6, .int (nI vc)), (4, .long r_10), (0, .ref x), (1, .long d0), (3, .int (nI i))]) hx hb dX5_withSwitch_66 hl (by decide) rfl (fun ls hl => ?_)
    refine lv_iconst (v := 0) hx hb dX5_withSwitch_68 (by decide) ?_
    refine lv_istore (lv' := [(7, .int 0), (6, .int (nI vc)), (4, .long r_10), (0, .ref x), (1, .long d0), (3, .int (nI i))]) hx hb dX5_withSwitch_69 hl (by decide) rfl (fun ls hl => ?_)
    refine kz_loopD 71 (fun N9 H locs ls => ∃ (v : Nat) (d : Int64) (T : Pool), N9 = vc - v ∧ v ≤ vc ∧ eqA S T ak ∧ va_P D vwCl (PW cA T) H ∧ va_D A (PW cA T) ∧ va_S A s.heap H locs ∧ lv_has ls 9 [(7, .int (nI v)), (6, .int (nI vc)), (4, .long d), (3, .int (nI i)), (1, .long d0), (0, .ref x)]) (fun N9 ih_71 H locs ls e_71 hd0 hI => ?_) hd0 ⟨0, r_10, S, rfl, by omega, (eqA.rf (S := S) (ak := ak)), hP, hD, hS, lv_sub hl [0, 1, 2, 5, 4, 3] rfl⟩
    obtain ⟨v, d, T, hn9, hle_v, hE, hP, hD, hS, hl⟩ := hI
    have htT : ∀ w ∈ TT, w.before _ (s.setDrawn e_71) = true := dr_words htT0 e_71
    have hTB : TBok (s.setDrawn e_71) := TBok.same (u := s) (U := s.setDrawn e_71) rfl (Vm.Alike.refl s.vm) hTB0
    have hK : va_K D vwCl (ty6 cA) (s.setDrawn e_71) := hK0
    have hown : (s.setDrawn e_71).vm.findClass RX5 = some m.cls := hown0
    have hx5_12 := hE.o hx5
    have hak_12 := hE.o hak
    have hR_12 := hE.okR hak hR
    have hq0_12 := (hE.q x 0).trans hq0
    have hq1_12 := (hE.q x 1).trans hq1
    have hja_12 := (hE.p ar j).trans hja
    refine lv_iload hx hb dX5_withSwitch_71 (lv_at hl 0 rfl) ?_
    refine lv_iload hx hb dX5_withSwitch_73 (lv_at hl 1 rfl) ?_
    refine lv_icmp_ge (tgt := 148) hx hb dX5_withSwitch_75 (by decide) (fun c_13 => ?_) (fun c_13 => ?_)
    · replace c_13 := (nI_leI (a := vc) (b := v) (by omega) (by omega)).mp c_13
      refine lv_lload hx hb dX5_withSwitch_148 (lv_at hl 2 rfl) ?_
      refine W.endD hd0 ?_
      exact W.lret (v := d) hx hb hr (fun t ht hW => ⟨⟨d, T, rfl, hE, by rw [ht]; exact hP, va_K.moved hW.alike hK, hD⟩, hS.F ht⟩) hS.2.2 dX5_withSwitch_150
    · replace c_13 : ¬ (vc ≤ v) := fun h9 => c_13 ((nI_leI (a := vc) (b := v) (by omega) (by omega)).mpr h9)
      have hv : v < vc := by omega
      refine lv_lload hx hb dX5_withSwitch_78 (lv_at hl 2 rfl) ?_
      refine lv_aload_n hx hb dX5_withSwitch_80 rfl (lv_at hl 5 rfl) ?_
      refine lv_iload_n hx hb dX5_withSwitch_81 rfl (lv_at hl 3 rfl) ?_
      refine lv_iload hx hb dX5_withSwitch_82 (lv_at hl 0 rfl) ?_
      refine kc_i (va_runV (As := [.int (nI i), .int (nI v)]) (rest := [.long d]) ⟨hx, hb, hml, hown, htT⟩ (c_weight l D cA _ T x hx5_12 ar hq0_12 ak hq1_12 hak_12 hR_12 j hj a hja_12 (nI i) ((hE.sw _).trans hsw) (nI v) (kOut_sw hv (by omega) ((hE.i hak (hR.2 j hj a hja).1.1 (by decide) 2).trans h2v))) (cwV 2 htT (kg_V m_ml_X5_289 m_im_X5_weight m_sl_X5_weight m_in_X5 m_cd_X5_weight) rfl rfl rfl (by decide +kernel) ⟨Nat.le_of_ble_eq_true rfl, Nat.le_of_ble_eq_true rfl⟩) (kp_V hK hP hD hTB (kp_rc hK hP hx5_12 (Nat.le_of_ble_eq_true rfl) rfl)) rfl rfl hl.1 rfl (lv_room (Nat.le_of_ble_eq_true rfl)) dX5_withSwitch_84 ⟨Nat.le_of_ble_eq_true rfl, Nat.le_of_ble_eq_true rfl⟩) hD hS hA (fun r_14 x_14 H locs hq_14 hP hD hS => ?_)
      rw [hq_14.2] at hP hD
      refine lv_i2l (v := r_14.toInt64) hx hb dX5_withSwitch_87 rfl ?_
      refine kc_l (va_runS (As := [.long d, .long r_14.toInt64]) (rest := []) ⟨hx, hb, hml, hown, htT⟩ (c_withNext l D cA _ T d r_14.toInt64) (cwS 2 htT (kg_S m_ml_X5_249 m_st_X5_withNext m_in_X5 m_cd_X5_withNext) rfl rfl rfl (by decide +kernel) ⟨Nat.le_of_ble_eq_true rfl, Nat.le_of_ble_eq_true rfl⟩) (kp_S hK hP hD hTB) rfl rfl hl.1 rfl (lv_room (Nat.le_of_ble_eq_true rfl)) dX5_withSwitch_88 ⟨Nat.le_of_ble_eq_true rfl, Nat.le_of_ble_eq_true rfl⟩) hD hS hA (fun r_15 x_15 H locs hq_15 hP hD hS => ?_)
      rw [hq_15.2] at hP hD
      refine lv_lstore (lv' := [(4, .long r_15), (7, .int (nI v)), (6, .int (nI vc)), (3, .int (nI i)), (1, .long d0), (0, .ref x)]) hx hb dX5_withSwitch_91 hl (by decide) rfl (fun ls hl => ?_)
      refine lv_iconst (v := 0) hx hb dX5_withSwitch_93 (by decide) ?_
      refine lv_istore (lv' := [(8, .int 0), (4, .long r_15), (7, .int (nI v)), (6, .int (nI vc)), (3, .int (nI i)), (1, .long d0), (0, .ref x)]) hx hb dX5_withSwitch_94 hl (by decide) rfl (fun ls hl => ?_)
      refine kz_loopD 96 (fun N9 H locs ls => ∃ (q : Nat) (d : Int64) (T : Pool), N9 = 4 - q ∧ q ≤ 4 ∧ eqA S T ak ∧ va_P D vwCl (PW cA T) H ∧ va_D A (PW cA T) ∧ va_S A s.heap H locs ∧ lv_has ls 9 [(8, .int (nI q)), (7, .int (nI v)), (6, .int (nI vc)), (4, .long d), (3, .int (nI i)), (1, .long d0), (0, .ref x)]) (fun N9 ih_96 H locs ls e_96 hd0 hI => ?_) hd0 ⟨0, r_15, T, rfl, by omega, hE, hP, hD, hS, lv_sub hl [0, 2, 3, 1, 4, 5, 6] rfl⟩
      obtain ⟨q, d, T, hn9, hle_q, hE, hP, hD, hS, hl⟩ := hI
      have htT : ∀ w ∈ TT, w.before _ (s.setDrawn e_96) = true := dr_words htT0 e_96
      have hTB : TBok (s.setDrawn e_96) := TBok.same (u := s) (U := s.setDrawn e_96) rfl (Vm.Alike.refl s.vm) hTB0
      have hK : va_K D vwCl (ty6 cA) (s.setDrawn e_96) := hK0
      have hown : (s.setDrawn e_96).vm.findClass RX5 = some m.cls := hown0
      have hx5_16 := hE.o hx5
      have hak_16 := hE.o hak
      have hR_16 := hE.okR hak hR
      have hq0_16 := (hE.q x 0).trans hq0
      have hq1_16 := (hE.q x 1).trans hq1
      have hja_16 := (hE.p ar j).trans hja
      refine lv_iload hx hb dX5_withSwitch_96 (lv_at hl 0 rfl) ?_
      refine lv_iconst (v := 3) hx hb dX5_withSwitch_98 (by decide) ?_
      refine lv_icmp_gt (tgt := 125) hx hb dX5_withSwitch_99 (by decide) (fun c_17 => ?_) (fun c_17 => ?_)
      · replace c_17 := (nI_ltI (a := 3) (b := q) (by omega) (by omega)).mp c_17
        refine lv_lload hx hb dX5_withSwitch_125 (lv_at hl 3 rfl) ?_
        refine lv_aload_n hx hb dX5_withSwitch_127 rfl (lv_at hl 6 rfl) ?_
        refine lv_iload_n hx hb dX5_withSwitch_128 rfl (lv_at hl 4 rfl) ?_
        refine lv_iload hx hb dX5_withSwitch_129 (lv_at hl 1 rfl) ?_
        refine lv_bipush (v := 20) hx hb dX5_withSwitch_131 (by decide) ?_
        refine kc_i (va_runV (As := [.int (nI i), .int (nI v), .int 20]) (rest := [.long d]) ⟨hx, hb, hml, hown, htT⟩ (c_reach l D cA _ T x hx5_16 ar hq0_16 ak hq1_16 hak_16 hR_16 j hj a hja_16 (nI i) ((hE.sw _).trans hsw) (nI v) (kOut_sw hv (by omega) ((hE.i hak (hR.2 j hj a hja).1.1 (by decide) 2).trans h2v)) 20 (by omega) (by omega) (by decide)) (cwV 3 htT (kg_V m_ml_X5_296 m_im_X5_reach m_sl_X5_reach m_in_X5 m_cd_X5_reach) rfl rfl rfl (by decide +kernel) ⟨Nat.le_of_ble_eq_true rfl, Nat.le_of_ble_eq_true rfl⟩) (kp_V hK hP hD hTB (kp_rc hK hP hx5_16 (Nat.le_of_ble_eq_true rfl) rfl)) rfl rfl hl.1 rfl (lv_room (Nat.le_of_ble_eq_true rfl)) dX5_withSwitch_133 ⟨Nat.le_of_ble_eq_true rfl, Nat.le_of_ble_eq_true rfl⟩) hD hS hA (fun r_18 x_18 H locs hq_18 hP hD hS => ?_)
        have hE_18 := hE.tr hq_18
        have hx5_19 := hE_18.o hx5
        have hak_19 := hE_18.o hak
        have hR_19 := hE_18.okR hak hR
        have hq0_19 := (hE_18.q x 0).trans hq0
        have hq1_19 := (hE_18.q x 1).trans hq1
        have hja_19 := (hE_18.p ar j).trans hja
        refine lv_i2l (v := r_18.toInt64) hx hb dX5_withSwitch_136 rfl ?_
        refine kc_l (va_runS (As := [.long d, .long r_18.toInt64]) (rest := []) ⟨hx, hb, hml, hown, htT⟩ (c_withNext l D cA _ x_18 d r_18.toInt64) (cwS 2 htT (kg_S m_ml_X5_249 m_st_X5_withNext m_in_X5 m_cd_X5_withNext) rfl rfl rfl (by decide +kernel) ⟨Nat.le_of_ble_eq_true rfl, Nat.le_of_ble_eq_true rfl⟩) (kp_S hK hP hD hTB) rfl rfl hl.1 rfl (lv_room (Nat.le_of_ble_eq_true rfl)) dX5_withSwitch_137 ⟨Nat.le_of_ble_eq_true rfl, Nat.le_of_ble_eq_true rfl⟩) hD hS hA (fun r_20 x_20 H locs hq_20 hP hD hS => ?_)
        rw [hq_20.2] at hP hD
        refine lv_lstore (lv' := [(4, .long r_20), (8, .int (nI q)), (7, .int (nI v)), (6, .int (nI vc)), (3, .int (nI i)), (1, .long d0), (0, .ref x)]) hx hb dX5_withSwitch_140 hl (by decide) rfl (fun ls hl => ?_)
        refine lv_iinc (v := nI (v + 1)) (lv' := [(7, .int (nI (v + 1))), (4, .long r_20), (8, .int (nI q)), (6, .int (nI vc)), (3, .int (nI i)), (1, .long d0), (0, .ref x)]) hx hb dX5_withSwitch_142 hl (k := 2) rfl (nI_1 _) (by decide) rfl (fun ls hl => ?_)
        refine lv_goto (tgt := 71) hx hb dX5_withSwitch_145 (by decide) ?_
        have hl := lv_sub hl [0, 3, 1, 4, 5, 6] rfl
        exact ih_71 _ (by omega) H locs ls e_96 hd0 ⟨v + 1, _, x_18, rfl, by omega, hE_18, hP, hD, hS, hl⟩
      · replace c_17 : ¬ (3 < q) := fun h9 => c_17 ((nI_ltI (a := 3) (b := q) (by omega) (by omega)).mpr h9)
        refine lv_lload hx hb dX5_withSwitch_102 (lv_at hl 3 rfl) ?_
        refine lv_aload_n hx hb dX5_withSwitch_104 rfl (lv_at hl 6 rfl) ?_
        refine lv_iload_n hx hb dX5_withSwitch_105 rfl (lv_at hl 4 rfl) ?_
        refine lv_iload hx hb dX5_withSwitch_106 (lv_at hl 1 rfl) ?_
        refine lv_iload hx hb dX5_withSwitch_108 (lv_at hl 0 rfl) ?_
        refine kc_i (va_runV (As := [.int (nI i), .int (nI v), .int (nI q)]) (rest := [.long d]) ⟨hx, hb, hml, hown, htT⟩ (c_told l D cA _ T x hx5_16 ar hq0_16 ak hq1_16 hak_16 hR_16 j hj a hja_16 (nI i) ((hE.sw _).trans hsw) (nI v) (kOut_sw hv (by omega) ((hE.i hak (hR.2 j hj a hja).1.1 (by decide) 2).trans h2v)) q (by omega)) (cwV 3 htT (kg_V m_ml_X5_292 m_im_X5_told m_sl_X5_told m_in_X5 m_cd_X5_told) rfl rfl rfl (by decide +kernel) ⟨Nat.le_of_ble_eq_true rfl, Nat.le_of_ble_eq_true rfl⟩) (kp_V hK hP hD hTB (kp_rc hK hP hx5_16 (Nat.le_of_ble_eq_true rfl) rfl)) rfl rfl hl.1 rfl (lv_room (Nat.le_of_ble_eq_true rfl)) dX5_withSwitch_110 ⟨Nat.le_of_ble_eq_true rfl, Nat.le_of_ble_eq_true rfl⟩) hD hS hA (fun r_21 x_21 H locs hq_21 hP hD hS => ?_)
        rw [hq_21.2] at hP hD
        refine lv_i2l (v := r_21.toInt64) hx hb dX5_withSwitch_113 rfl ?_
        refine kc_l (va_runS (As := [.long d, .long r_21.toInt64]) (rest := []) ⟨hx, hb, hml, hown, htT⟩ (c_withNext l D cA _ T d r_21.toInt64) (cwS 2 htT (kg_S m_ml_X5_249 m_st_X5_withNext m_in_X5 m_cd_X5_withNext) rfl rfl rfl (by decide +kernel) ⟨Nat.le_of_ble_eq_true rfl, Nat.le_of_ble_eq_true rfl⟩) (kp_S hK hP hD hTB) rfl rfl hl.1 rfl (lv_room (Nat.le_of_ble_eq_true rfl)) dX5_withSwitch_114 ⟨Nat.le_of_ble_eq_true rfl, Nat.le_of_ble_eq_true rfl⟩) hD hS hA (fun r_22 x_22 H locs hq_22 hP hD hS => ?_)
        rw [hq_22.2] at hP hD
        refine lv_lstore (lv' := [(4, .long r_22), (8, .int (nI q)), (7, .int (nI v)), (6, .int (nI vc)), (3, .int (nI i)), (1, .long d0), (0, .ref x)]) hx hb dX5_withSwitch_117 hl (by decide) rfl (fun ls hl => ?_)
        refine lv_iinc (v := nI (q + 1)) (lv' := [(8, .int (nI (q + 1))), (4, .long r_22), (7, .int (nI v)), (6, .int (nI vc)), (3, .int (nI i)), (1, .long d0), (0, .ref x)]) hx hb dX5_withSwitch_119 hl (k := 1) rfl (nI_1 _) (by decide) rfl (fun ls hl => ?_)
        refine lv_goto (tgt := 96) hx hb dX5_withSwitch_122 (by decide) ?_
        have hl := lv_sub hl [0, 2, 3, 1, 4, 5, 6] rfl
        exact ih_96 _ (by omega) H locs ls e_96 hd0 ⟨q + 1, _, T, rfl, by omega, hE, hP, hD, hS, hl⟩
  · refine lv_lconst (v := 1) hx hb dX5_withSwitch_35 (by decide) ?_
    refine lv_goto (tgt := 40) hx hb dX5_withSwitch_36 (by decide) ?_
    refine kc_l (va_runS (As := [.long r_5, .long 1]) (rest := []) ⟨hx, hb, hml, hown, htT⟩ (c_withNext l D cA _ S r_5 1) (cwS 2 htT (kg_S m_ml_X5_249 m_st_X5_withNext m_in_X5 m_cd_X5_withNext) rfl rfl rfl (by decide +kernel) ⟨Nat.le_of_ble_eq_true rfl, Nat.le_of_ble_eq_true rfl⟩) (kp_S hK hP hD hTB) rfl rfl hl.1 rfl (lv_room (Nat.le_of_ble_eq_true rfl)) dX5_withSwitch_40 ⟨Nat.le_of_ble_eq_true rfl, Nat.le_of_ble_eq_true rfl⟩) hD hS hA (fun r_23 x_23 H locs hq_23 hP hD hS => ?_)
    rw [hq_23.2] at hP hD
    refine lv_lstore (lv' := [(4, .long r_23), (0, .ref x), (1, .long d0), (3, .int (nI i))]) hx hb dX5_withSwitch_43 hl (by decide) rfl (fun ls hl => ?_)
    refine lv_lload hx hb dX5_withSwitch_45 (lv_at hl 0 rfl) ?_
    refine lv_aload_n hx hb dX5_withSwitch_47 rfl (lv_at hl 1 rfl) ?_
    refine lv_iload_n hx hb dX5_withSwitch_48 rfl (lv_at hl 3 rfl) ?_
    refine kcD_i hd0 (va_runV_D (As := [.int (nI i)]) (rest := [.long r_23]) ⟨hx, hb, hml, hown, htT⟩ (c_best l D cA _ S x hx5_1 ar hq0_1 ak hq1_1 hak_1 hR_1 j hj a hja_1 (nI i) (((eqA.rf (S := S) (ak := ak)).sw _).trans hsw) ) (cwV 1 htT (kg_V m_ml_X5_283 m_im_X5_best m_sl_X5_best m_in_X5 m_cd_X5_best) rfl rfl rfl (by decide +kernel) ⟨Nat.le_of_ble_eq_true rfl, Nat.le_of_ble_eq_true rfl⟩) (kp_V hK hP hD hTB (kp_rc hK hP hx5_1 (Nat.le_of_ble_eq_true rfl) rfl)) rfl rfl hl.1 rfl (lv_room (Nat.le_of_ble_eq_true rfl)) dX5_withSwitch_49 ⟨Nat.le_of_ble_eq_true rfl, Nat.le_of_ble_eq_true rfl⟩) hD hS hA (fun r_24 x_24 H locs hq_24 hP hD hS d_24 hd0 => ?_)
    have htT : ∀ w ∈ TT, w.before _ (s.setDrawn d_24) = true := dr_words htT0 d_24
    have hTB : TBok (s.setDrawn d_24) := TBok.same (u := s) (U := s.setDrawn d_24) rfl (Vm.Alike.refl s.vm) hTB0
    have hK : va_K D vwCl (ty6 cA) (s.setDrawn d_24) := hK0
    have hown : (s.setDrawn d_24).vm.findClass RX5 = some m.cls := hown0
    rw [hq_24.2] at hP hD
    refine lv_i2l (v := r_24.toInt64) hx hb dX5_withSwitch_52 rfl ?_
    refine kc_l (va_runS (As := [.long r_23, .long r_24.toInt64]) (rest := []) ⟨hx, hb, hml, hown, htT⟩ (c_withNext l D cA _ S r_23 r_24.toInt64) (cwS 2 htT (kg_S m_ml_X5_249 m_st_X5_withNext m_in_X5 m_cd_X5_withNext) rfl rfl rfl (by decide +kernel) ⟨Nat.le_of_ble_eq_true rfl, Nat.le_of_ble_eq_true rfl⟩) (kp_S hK hP hD hTB) rfl rfl hl.1 rfl (lv_room (Nat.le_of_ble_eq_true rfl)) dX5_withSwitch_53 ⟨Nat.le_of_ble_eq_true rfl, Nat.le_of_ble_eq_true rfl⟩) hD hS hA (fun r_25 x_25 H locs hq_25 hP hD hS => ?_)
    rw [hq_25.2] at hP hD
    refine lv_lstore (lv' := [(4, .long r_25), (0, .ref x), (1, .long d0), (3, .int (nI i))]) hx hb dX5_withSwitch_56 hl (by decide) rfl (fun ls hl => ?_)
    refine lv_aload_n hx hb dX5_withSwitch_58 rfl (lv_at hl 1 rfl) ?_
    refine lv_iload_n hx hb dX5_withSwitch_59 rfl (lv_at hl 3 rfl) ?_
    refine kc_q (va_runV (As := [.int (nI i)]) (rest := []) ⟨hx, hb, hml, hown, htT⟩ (c_known l D cA _ S x hx5_1 ar hq0_1 hR_1.1 (nI i) a (((eqA.rf (S := S) (ak := ak)).sw _).trans hsw)) (cwV 1 htT (kg_V m_ml_X5_45 m_im_X5_known m_sl_X5_known m_in_X5 m_cd_X5_known) rfl rfl rfl (by decide +kernel) ⟨Nat.le_of_ble_eq_true rfl, Nat.le_of_ble_eq_true rfl⟩) (kp_V hK hP hD hTB (kp_rc hK hP hx5_1 (Nat.le_of_ble_eq_true rfl) rfl)) rfl rfl hl.1 rfl (lv_room (Nat.le_of_ble_eq_true rfl)) dX5_withSwitch_60 ⟨Nat.le_of_ble_eq_true rfl, Nat.le_of_ble_eq_true rfl⟩) hD hS hA (fun r_26 x_26 H locs hq_26 hP hD hS => ?_)
    rw [hq_26.1]
    rw [hq_26.2] at hP hD
    have h2v_26 : gI S a 2 = nI vc := ((eqA.rf (S := S) (ak := ak)).i hak (hR.2 j hj a hja).1.1 (by decide) 2).trans h2v
    refine kx_getiNv hx hb htT m_u_X3 hown hK hP ((hR_1.2 j hj a hja_1).1.1) (Nat.le_of_ble_eq_true rfl) rfl 2 (by decide) (by decide) rfl (hTB.use m_fl_X5_286) h2v_26 dX5_withSwitch_63 ?_
    refine lv_istore (lv' := [(6, .int (nI vc)), (4, .long r_25), (0, .ref x), (1, .long d0), (3, .int (nI i))]) hx hb dX5_withSwitch_66 hl (by decide) rfl (fun ls hl => ?_)
    refine lv_iconst (v := 0) hx hb dX5_withSwitch_68 (by decide) ?_
    refine lv_istore (lv' := [(7, .int 0), (6, .int (nI vc)), (4, .long r_25), (0, .ref x), (1, .long d0), (3, .int (nI i))]) hx hb dX5_withSwitch_69 hl (by decide) rfl (fun ls hl => ?_)
    refine kz_loopD 71 (fun N9 H locs ls => ∃ (v : Nat) (d : Int64) (T : Pool), N9 = vc - v ∧ v ≤ vc ∧ eqA S T ak ∧ va_P D vwCl (PW cA T) H ∧ va_D A (PW cA T) ∧ va_S A s.heap H locs ∧ lv_has ls 9 [(7, .int (nI v)), (6, .int (nI vc)), (4, .long d), (3, .int (nI i)), (1, .long d0), (0, .ref x)]) (fun N9 ih_71 H locs ls e_71 hd0 hI => ?_) hd0 ⟨0, r_25, S, rfl, by omega, (eqA.rf (S := S) (ak := ak)), hP, hD, hS, lv_sub hl [0, 1, 2, 5, 4, 3] rfl⟩
    obtain ⟨v, d, T, hn9, hle_v, hE, hP, hD, hS, hl⟩ := hI
    have htT : ∀ w ∈ TT, w.before _ (s.setDrawn e_71) = true := dr_words htT0 e_71
    have hTB : TBok (s.setDrawn e_71) := TBok.same (u := s) (U := s.setDrawn e_71) rfl (Vm.Alike.refl s.vm) hTB0
    have hK : va_K D vwCl (ty6 cA) (s.setDrawn e_71) := hK0
    have hown : (s.setDrawn e_71).vm.findClass RX5 = some m.cls := hown0
    have hx5_27 := hE.o hx5
    have hak_27 := hE.o hak
    have hR_27 := hE.okR hak hR
    have hq0_27 := (hE.q x 0).trans hq0
    have hq1_27 := (hE.q x 1).trans hq1
    have hja_27 := (hE.p ar j).trans hja
    refine lv_iload hx hb dX5_withSwitch_71 (lv_at hl 0 rfl) ?_
    refine lv_iload hx hb dX5_withSwitch_73 (lv_at hl 1 rfl) ?_
    refine lv_icmp_ge (tgt := 148) hx hb dX5_withSwitch_75 (by decide) (fun c_28 => ?_) (fun c_28 => ?_)
    · replace c_28 := (nI_leI (a := vc) (b := v) (by omega) (by omega)).mp c_28
      refine lv_lload hx hb dX5_withSwitch_148 (lv_at hl 2 rfl) ?_
      refine W.endD hd0 ?_
      exact W.lret (v := d) hx hb hr (fun t ht hW => ⟨⟨d, T, rfl, hE, by rw [ht]; exact hP, va_K.moved hW.alike hK, hD⟩, hS.F ht⟩) hS.2.2 dX5_withSwitch_150
    · replace c_28 : ¬ (vc ≤ v) := fun h9 => c_28 ((nI_leI (a := vc) (b := v) (by omega) (by omega)).mpr h9)
      have hv : v < vc := by omega
      refine lv_lload hx hb dX5_withSwitch_78 (lv_at hl 2 rfl) ?_
      refine lv_aload_n hx hb dX5_withSwitch_80 rfl (lv_at hl 5 rfl) ?_
      refine lv_iload_n hx hb dX5_withSwitch_81 rfl (lv_at hl 3 rfl) ?_
      refine lv_iload hx hb dX5_withSwitch_82 (lv_at hl 0 rfl) ?_
      refine kc_i (va_runV (As := [.int (nI i), .int (nI v)]) (rest := [.long d]) ⟨hx, hb, hml, hown, htT⟩ (c_weight l D cA _ T x hx5_27 ar hq0_27 ak hq1_27 hak_27 hR_27 j hj a hja_27 (nI i) ((hE.sw _).trans hsw) (nI v) (kOut_sw hv (by omega) ((hE.i hak (hR.2 j hj a hja).1.1 (by decide) 2).trans h2v))) (cwV 2 htT (kg_V m_ml_X5_289 m_im_X5_weight m_sl_X5_weight m_in_X5 m_cd_X5_weight) rfl rfl rfl (by decide +kernel) ⟨Nat.le_of_ble_eq_true rfl, Nat.le_of_ble_eq_true rfl⟩) (kp_V hK hP hD hTB (kp_rc hK hP hx5_27 (Nat.le_of_ble_eq_true rfl) rfl)) rfl rfl hl.1 rfl (lv_room (Nat.le_of_ble_eq_true rfl)) dX5_withSwitch_84 ⟨Nat.le_of_ble_eq_true rfl, Nat.le_of_ble_eq_true rfl⟩) hD hS hA (fun r_29 x_29 H locs hq_29 hP hD hS => ?_)
      rw [hq_29.2] at hP hD
      refine lv_i2l (v := r_29.toInt64) hx hb dX5_withSwitch_87 rfl ?_
      refine kc_l (va_runS (As := [.long d, .long r_29.toInt64]) (rest := []) ⟨hx, hb, hml, hown, htT⟩ (c_withNext l D cA _ T d r_29.toInt64) (cwS 2 htT (kg_S m_ml_X5_249 m_st_X5_withNext m_in_X5 m_cd_X5_withNext) rfl rfl rfl (by decide +kernel) ⟨Nat.le_of_ble_eq_true rfl, Nat.le_of_ble_eq_true rfl⟩) (kp_S hK hP hD hTB) rfl rfl hl.1 rfl (lv_room (Nat.le_of_ble_eq_true rfl)) dX5_withSwitch_88 ⟨Nat.le_of_ble_eq_true rfl, Nat.le_of_ble_eq_true rfl⟩) hD hS hA (fun r_30 x_30 H locs hq_30 hP hD hS => ?_)
      rw [hq_30.2] at hP hD
      refine lv_lstore (lv' := [(4, .long r_30), (7, .int (nI v)), (6, .int (nI vc)), (3, .int (nI i)), (1, .long d0), (0, .ref x)]) hx hb dX5_withSwitch_91 hl (by decide) rfl (fun ls hl => ?_)
      refine lv_iconst (v := 0) hx hb dX5_withSwitch_93 (by decide) ?_
      refine lv_istore (lv' := [(8, .int 0), (4, .long r_30), (7, .int (nI v)), (6, .int (nI vc)), (3, .int (nI i)), (1, .long d0), (0, .ref x)]) hx hb dX5_withSwitch_94 hl (by decide) rfl (fun ls hl => ?_)
      refine kz_loopD 96 (fun N9 H locs ls => ∃ (q : Nat) (d : Int64) (T : Pool), N9 = 4 - q ∧ q ≤ 4 ∧ eqA S T ak ∧ va_P D vwCl (PW cA T) H ∧ va_D A (PW cA T) ∧ va_S A s.heap H locs ∧ lv_has ls 9 [(8, .int (nI q)), (7, .int (nI v)), (6, .int (nI vc)), (4, .long d), (3, .int (nI i)), (1, .long d0), (0, .ref x)]) (fun N9 ih_96 H locs ls e_96 hd0 hI => ?_) hd0 ⟨0, r_30, T, rfl, by omega, hE, hP, hD, hS, lv_sub hl [0, 2, 3, 1, 4, 5, 6] rfl⟩
      obtain ⟨q, d, T, hn9, hle_q, hE, hP, hD, hS, hl⟩ := hI
      have htT : ∀ w ∈ TT, w.before _ (s.setDrawn e_96) = true := dr_words htT0 e_96
      have hTB : TBok (s.setDrawn e_96) := TBok.same (u := s) (U := s.setDrawn e_96) rfl (Vm.Alike.refl s.vm) hTB0
      have hK : va_K D vwCl (ty6 cA) (s.setDrawn e_96) := hK0
      have hown : (s.setDrawn e_96).vm.findClass RX5 = some m.cls := hown0
      have hx5_31 := hE.o hx5
      have hak_31 := hE.o hak
      have hR_31 := hE.okR hak hR
      have hq0_31 := (hE.q x 0).trans hq0
      have hq1_31 := (hE.q x 1).trans hq1
      have hja_31 := (hE.p ar j).trans hja
      refine lv_iload hx hb dX5_withSwitch_96 (lv_at hl 0 rfl) ?_
      refine lv_iconst (v := 3) hx hb dX5_withSwitch_98 (by decide) ?_
      refine lv_icmp_gt (tgt := 125) hx hb dX5_withSwitch_99 (by decide) (fun c_32 => ?_) (fun c_32 => ?_)
      · replace c_32 := (nI_ltI (a := 3) (b := q) (by omega) (by omega)).mp c_32
        refine lv_lload hx hb dX5_withSwitch_125 (lv_at hl 3 rfl) ?_
        refine lv_aload_n hx hb dX5_withSwitch_127 rfl (lv_at hl 6 rfl) ?_
        refine lv_iload_n hx hb dX5_withSwitch_128 rfl (lv_at hl 4 rfl) ?_
        refine lv_iload hx hb dX5_withSwitch_129 (lv_at hl 1 rfl) ?_
        refine lv_bipush (v := 20) hx hb dX5_withSwitch_131 (by decide) ?_
        refine kc_i (va_runV (As := [.int (nI i), .int (nI v), .int 20]) (rest := [.long d]) ⟨hx, hb, hml, hown, htT⟩ (c_reach l D cA _ T x hx5_31 ar hq0_31 ak hq1_31 hak_31 hR_31 j hj a hja_31 (nI i) ((hE.sw _).trans hsw) (nI v) (kOut_sw hv (by omega) ((hE.i hak (hR.2 j hj a hja).1.1 (by decide) 2).trans h2v)) 20 (by omega) (by omega) (by decide)) (cwV 3 htT (kg_V m_ml_X5_296 m_im_X5_reach m_sl_X5_reach m_in_X5 m_cd_X5_reach) rfl rfl rfl (by decide +kernel) ⟨Nat.le_of_ble_eq_true rfl, Nat.le_of_ble_eq_true rfl⟩) (kp_V hK hP hD hTB (kp_rc hK hP hx5_31 (Nat.le_of_ble_eq_true rfl) rfl)) rfl rfl hl.1 rfl (lv_room (Nat.le_of_ble_eq_true rfl)) dX5_withSwitch_133 ⟨Nat.le_of_ble_eq_true rfl, Nat.le_of_ble_eq_true rfl⟩) hD hS hA (fun r_33 x_33 H locs hq_33 hP hD hS => ?_)
        have hE_33 := hE.tr hq_33
        have hx5_34 := hE_33.o hx5
        have hak_34 := hE_33.o hak
        have hR_34 := hE_33.okR hak hR
        have hq0_34 := (hE_33.q x 0).trans hq0
        have hq1_34 := (hE_33.q x 1).trans hq1
        have hja_34 := (hE_33.p ar j).trans hja
        refine lv_i2l (v := r_33.toInt64) hx hb dX5_withSwitch_136 rfl ?_
        refine kc_l (va_runS (As := [.long d, .long r_33.toInt64]) (rest := []) ⟨hx, hb, hml, hown, htT⟩ (c_withNext l D cA _ x_33 d r_33.toInt64) (cwS 2 htT (kg_S m_ml_X5_249 m_st_X5_withNext m_in_X5 m_cd_X5_withNext) rfl rfl rfl (by decide +kernel) ⟨Nat.le_of_ble_eq_true rfl, Nat.le_of_ble_eq_true rfl⟩) (kp_S hK hP hD hTB) rfl rfl hl.1 rfl (lv_room (Nat.le_of_ble_eq_true rfl)) dX5_withSwitch_137 ⟨Nat.le_of_ble_eq_true rfl, Nat.le_of_ble_eq_true rfl⟩) hD hS hA (fun r_35 x_35 H locs hq_35 hP hD hS => ?_)
        rw [hq_35.2] at hP hD
        refine lv_lstore (lv' := [(4, .long r_35), (8, .int (nI q)), (7, .int (nI v)), (6, .int (nI vc)), (3, .int (nI i)), (1, .long d0), (0, .ref x)]) hx hb dX5_withSwitch_140 hl (by decide) rfl (fun ls hl => ?_)
        refine lv_iinc (v := nI (v + 1)) (lv' := [(7, .int (nI (v + 1))), (4, .long r_35), (8, .int (nI q)), (6, .int (nI vc)), (3, .int (nI i)), (1, .long d0), (0, .ref x)]) hx hb dX5_withSwitch_142 hl (k := 2) rfl (nI_1 _) (by decide) rfl (fun ls hl => ?_)
        refine lv_goto (tgt := 71) hx hb dX5_withSwitch_145 (by decide) ?_
        have hl := lv_sub hl [0, 3, 1, 4, 5, 6] rfl
        exact ih_71 _ (by omega) H locs ls e_96 hd0 ⟨v + 1, _, x_33, rfl, by omega, hE_33, hP, hD, hS, hl⟩
      · replace c_32 : ¬ (3 < q) := fun h9 => c_32 ((nI_ltI (a := 3) (b := q) (by omega) (by omega)).mpr h9)
        refine lv_lload hx hb dX5_withSwitch_102 (lv_at hl 3 rfl) ?_
        refine lv_aload_n hx hb dX5_withSwitch_104 rfl (lv_at hl 6 rfl) ?_
        refine lv_iload_n hx hb dX5_withSwitch_105 rfl (lv_at hl 4 rfl) ?_
        refine lv_iload hx hb dX5_withSwitch_106 (lv_at hl 1 rfl) ?_
        refine lv_iload hx hb dX5_withSwitch_108 (lv_at hl 0 rfl) ?_
        refine kc_i (va_runV (As := [.int (nI i), .int (nI v), .int (nI q)]) (rest := [.long d]) ⟨hx, hb, hml, hown, htT⟩ (c_told l D cA _ T x hx5_31 ar hq0_31 ak hq1_31 hak_31 hR_31 j hj a hja_31 (nI i) ((hE.sw _).trans hsw) (nI v) (kOut_sw hv (by omega) ((hE.i hak (hR.2 j hj a hja).1.1 (by decide) 2).trans h2v)) q (by omega)) (cwV 3 htT (kg_V m_ml_X5_292 m_im_X5_told m_sl_X5_told m_in_X5 m_cd_X5_told) rfl rfl rfl (by decide +kernel) ⟨Nat.le_of_ble_eq_true rfl, Nat.le_of_ble_eq_true rfl⟩) (kp_V hK hP hD hTB (kp_rc hK hP hx5_31 (Nat.le_of_ble_eq_true rfl) rfl)) rfl rfl hl.1 rfl (lv_room (Nat.le_of_ble_eq_true rfl)) dX5_withSwitch_110 ⟨Nat.le_of_ble_eq_true rfl, Nat.le_of_ble_eq_true rfl⟩) hD hS hA (fun r_36 x_36 H locs hq_36 hP hD hS => ?_)
        rw [hq_36.2] at hP hD
        refine lv_i2l (v := r_36.toInt64) hx hb dX5_withSwitch_113 rfl ?_
        refine kc_l (va_runS (As := [.long d, .long r_36.toInt64]) (rest := []) ⟨hx, hb, hml, hown, htT⟩ (c_withNext l D cA _ T d r_36.toInt64) (cwS 2 htT (kg_S m_ml_X5_249 m_st_X5_withNext m_in_X5 m_cd_X5_withNext) rfl rfl rfl (by decide +kernel) ⟨Nat.le_of_ble_eq_true rfl, Nat.le_of_ble_eq_true rfl⟩) (kp_S hK hP hD hTB) rfl rfl hl.1 rfl (lv_room (Nat.le_of_ble_eq_true rfl)) dX5_withSwitch_114 ⟨Nat.le_of_ble_eq_true rfl, Nat.le_of_ble_eq_true rfl⟩) hD hS hA (fun r_37 x_37 H locs hq_37 hP hD hS => ?_)
        rw [hq_37.2] at hP hD
        refine lv_lstore (lv' := [(4, .long r_37), (8, .int (nI q)), (7, .int (nI v)), (6, .int (nI vc)), (3, .int (nI i)), (1, .long d0), (0, .ref x)]) hx hb dX5_withSwitch_117 hl (by decide) rfl (fun ls hl => ?_)
        refine lv_iinc (v := nI (q + 1)) (lv' := [(8, .int (nI (q + 1))), (4, .long r_37), (7, .int (nI v)), (6, .int (nI vc)), (3, .int (nI i)), (1, .long d0), (0, .ref x)]) hx hb dX5_withSwitch_119 hl (k := 1) rfl (nI_1 _) (by decide) rfl (fun ls hl => ?_)
        refine lv_goto (tgt := 96) hx hb dX5_withSwitch_122 (by decide) ?_
        have hl := lv_sub hl [0, 2, 3, 1, 4, 5, 6] rfl
        exact ih_96 _ (by omega) H locs ls e_96 hd0 ⟨q + 1, _, T, rfl, by omega, hE, hP, hD, hS, hl⟩

set_option maxRecDepth 100000 in
set_option maxHeartbeats 4000000 in
/-- digest -/
theorem c_digest (l : Launch) (D : va_G) (cA : Nat → ClassId) (sz : Nat) (S : Pool) (x : Nat) (hx5 : isO S x 5) (ar : Nat) (hq0 : gQ S x 0 = some ar) (ak : Nat) (hq1 : gQ S x 1 = some ak) (hak : isO S ak 1) (hR : okR S ar) (n : Nat) (hn8 : n ≤ 8) (h2n : gI S x 2 = nI n) (hrow : ∀ k, k < n → ∃ a, gP S ar k = some a) (hvcs : ∀ k a, k < 8 → gP S ar k = some a → ∃ vc, vc ≤ 4 ∧ gI S a 2 = nI vc)  : MetD lw_cs l yX5_digest (Cond.code yX5_digest cX5_digest 5 (some .long) :: TT) ({ frames := 28, cells := 0, slots := 0, locals := 674 }) (va_Pc [.ref x] (kPre D cA (PW cA S) sz)) (va_Ql (fun (r_ : Int64) (x_ : Pool) => eqA S x_ ak) (fun x_ => kB D cA (va_A (PW cA S) sz) (PW cA x_)) (va_A (PW cA S) sz)) 0 0 (va_A (PW cA S) sz) := by
  refine MetD.ofW (cc := cX5_digest) (maxL := 5) (ret := (some .long)) (by decide) rfl ?_
  intro p e s m args below meth c s₁ B hml hv hd0
  obtain ⟨rfl, hsz, hP, hK, hD0, hTB⟩ := hv
  have hx := B.exec
  have hb := B.bytes
  have hr := B.returns
  have hts := atoms_spec (ws := Cond.code yX5_digest cX5_digest 5 (some .long) :: TT) B.pre
  have htT : ∀ w ∈ TT, w.before _ s = true := fun w h => hts w (List.mem_cons_of_mem _ h)
  have hown : s.vm.findClass RX5 = some m.cls := findClass_of_methodNamed B.named
  have hlocks := B.notSynchronized
  subst hsz
  have hD := hD0.self (sz := s.heap.size)
  generalize hAe : va_A (PW cA S) s.heap.size = A at hD ⊢
  have hA : ∀ q : Nat, s.heap.size ≤ q → A q := fun q h => by rw [← hAe]; exact Or.inr h
  have hS : va_S A s.heap s.heap [] := va_S.rf
  have hl := lv_entry ([.ref x]) (n := 5) (Nat.le_of_ble_eq_true rfl)
  rw [lg_entry_eq]
  generalize (lg_sl ([.ref x]) ++ List.replicate (5 - (lg_sl ([.ref x])).length) Slot.unset).toArray = ls at hl ⊢
  have hl : lv_has ls 5 [(0, .ref x)] := hl
  have htT0 := htT
  have hTB0 := hTB
  have hK0 := hK
  have hown0 := hown
  have htT : ∀ w ∈ TT, w.before _ (s.setDrawn s.drawn) = true := dr_words htT0 s.drawn
  have hTB : TBok (s.setDrawn s.drawn) := TBok.same (u := s) (U := s.setDrawn s.drawn) rfl (Vm.Alike.refl s.vm) hTB0
  have hK : va_K D vwCl (ty6 cA) (s.setDrawn s.drawn) := hK0
  have hown : (s.setDrawn s.drawn).vm.findClass RX5 = some m.cls := hown0
  have hx5_1 := (eqA.rf (S := S) (ak := ak)).o hx5
  have hak_1 := (eqA.rf (S := S) (ak := ak)).o hak
  have hR_1 := (eqA.rf (S := S) (ak := ak)).okR hak hR
  have hq0_1 := ((eqA.rf (S := S) (ak := ak)).q x 0).trans hq0
  have hq1_1 := ((eqA.rf (S := S) (ak := ak)).q x 1).trans hq1
  refine lv_ldc2 (v := 2687) hx hb hown (htT _ m_lc_X5_244) dX5_digest_0 ?_
  refine lv_aload_n hx hb dX5_digest_3 rfl (lv_at hl 0 rfl) ?_
  refine kc_i (va_runV (As := []) (rest := [.long 2687]) ⟨hx, hb, hml, hown, htT⟩ (c_switches l D cA _ S x hx5) (cwV 0 htT (kg_V m_ml_X5_246 m_im_X5_switches m_sl_X5_switches m_in_X5 m_cd_X5_switches) rfl rfl rfl (by decide +kernel) ⟨Nat.le_of_ble_eq_true rfl, Nat.le_of_ble_eq_true rfl⟩) (kp_V hK hP hD hTB (kp_rc hK hP hx5_1 (Nat.le_of_ble_eq_true rfl) rfl)) rfl rfl hl.1 rfl (lv_room (Nat.le_of_ble_eq_true rfl)) dX5_digest_4 ⟨Nat.le_of_ble_eq_true rfl, Nat.le_of_ble_eq_true rfl⟩) hD hS hA (fun r_2 x_2 H locs hq_2 hP hD hS => ?_)
  rw [hq_2.2] at hP hD
  refine lv_i2l (v := r_2.toInt64) hx hb dX5_digest_7 rfl ?_
  refine kc_l (va_runS (As := [.long 2687, .long r_2.toInt64]) (rest := []) ⟨hx, hb, hml, hown, htT⟩ (c_withNext l D cA _ S 2687 r_2.toInt64) (cwS 2 htT (kg_S m_ml_X5_249 m_st_X5_withNext m_in_X5 m_cd_X5_withNext) rfl rfl rfl (by decide +kernel) ⟨Nat.le_of_ble_eq_true rfl, Nat.le_of_ble_eq_true rfl⟩) (kp_S hK hP hD hTB) rfl rfl hl.1 rfl (lv_room (Nat.le_of_ble_eq_true rfl)) dX5_digest_8 ⟨Nat.le_of_ble_eq_true rfl, Nat.le_of_ble_eq_true rfl⟩) hD hS hA (fun r_3 x_3 H locs hq_3 hP hD hS => ?_)
  rw [hq_3.2] at hP hD
  refine lv_lstore_n (lv' := [(1, .long r_3), (0, .ref x)]) hx hb dX5_digest_11 rfl hl (by decide) rfl (fun ls hl => ?_)
  refine lv_lload_n hx hb dX5_digest_12 rfl (lv_at hl 0 rfl) ?_
  refine lv_aload_n hx hb dX5_digest_13 rfl (lv_at hl 1 rfl) ?_
  refine kc_i (va_runV (As := []) (rest := [.long r_3]) ⟨hx, hb, hml, hown, htT⟩ (c_arms l D cA _ S x hx5) (cwV 0 htT (kg_V m_ml_X5_253 m_im_X5_arms m_sl_X5_arms m_in_X5 m_cd_X5_arms) rfl rfl rfl (by decide +kernel) ⟨Nat.le_of_ble_eq_true rfl, Nat.le_of_ble_eq_true rfl⟩) (kp_V hK hP hD hTB (kp_rc hK hP hx5_1 (Nat.le_of_ble_eq_true rfl) rfl)) rfl rfl hl.1 rfl (lv_room (Nat.le_of_ble_eq_true rfl)) dX5_digest_14 ⟨Nat.le_of_ble_eq_true rfl, Nat.le_of_ble_eq_true rfl⟩) hD hS hA (fun r_4 x_4 H locs hq_4 hP hD hS => ?_)
  rw [hq_4.2] at hP hD
  refine lv_i2l (v := r_4.toInt64) hx hb dX5_digest_17 rfl ?_
  refine kc_l (va_runS (As := [.long r_3, .long r_4.toInt64]) (rest := []) ⟨hx, hb, hml, hown, htT⟩ (c_withNext l D cA _ S r_3 r_4.toInt64) (cwS 2 htT (kg_S m_ml_X5_249 m_st_X5_withNext m_in_X5 m_cd_X5_withNext) rfl rfl rfl (by decide +kernel) ⟨Nat.le_of_ble_eq_true rfl, Nat.le_of_ble_eq_true rfl⟩) (kp_S hK hP hD hTB) rfl rfl hl.1 rfl (lv_room (Nat.le_of_ble_eq_true rfl)) dX5_digest_18 ⟨Nat.le_of_ble_eq_true rfl, Nat.le_of_ble_eq_true rfl⟩) hD hS hA (fun r_5 x_5 H locs hq_5 hP hD hS => ?_)
  rw [hq_5.2] at hP hD
  refine lv_lstore_n (lv' := [(1, .long r_5), (0, .ref x)]) hx hb dX5_digest_21 rfl hl (by decide) rfl (fun ls hl => ?_)
  refine lv_iconst (v := 0) hx hb dX5_digest_22 (by decide) ?_
  refine lv_istore_n (lv' := [(3, .int 0), (1, .long r_5), (0, .ref x)]) hx hb dX5_digest_23 rfl hl (by decide) rfl (fun ls hl => ?_)
  refine kz_loopD 24 (fun N9 H locs ls => ∃ (z : Nat) (d : Int64) (T : Pool), N9 = 3 - z ∧ z ≤ 3 ∧ eqA S T ak ∧ va_P D vwCl (PW cA T) H ∧ va_D A (PW cA T) ∧ va_S A s.heap H locs ∧ lv_has ls 5 [(3, .int (nI z)), (1, .long d), (0, .ref x)]) (fun N9 ih_24 H locs ls e_24 hd0 hI => ?_) hd0 ⟨0, r_5, S, rfl, by omega, (eqA.rf (S := S) (ak := ak)), hP, hD, hS, lv_sub hl [0, 1, 2] rfl⟩
  obtain ⟨z, d, T, hn9, hle_z, hE, hP, hD, hS, hl⟩ := hI
  have htT : ∀ w ∈ TT, w.before _ (s.setDrawn e_24) = true := dr_words htT0 e_24
  have hTB : TBok (s.setDrawn e_24) := TBok.same (u := s) (U := s.setDrawn e_24) rfl (Vm.Alike.refl s.vm) hTB0
  have hK : va_K D vwCl (ty6 cA) (s.setDrawn e_24) := hK0
  have hown : (s.setDrawn e_24).vm.findClass RX5 = some m.cls := hown0
  have hx5_6 := hE.o hx5
  have hak_6 := hE.o hak
  have hR_6 := hE.okR hak hR
  have hq0_6 := (hE.q x 0).trans hq0
  have hq1_6 := (hE.q x 1).trans hq1
  have h2n_7 : gI T x 2 = nI n := (hE.i hak hx5 (by decide) 2).trans h2n
  refine lv_iload_n hx hb dX5_digest_24 rfl (lv_at hl 0 rfl) ?_
  refine lv_iconst (v := 3) hx hb dX5_digest_25 (by decide) ?_
  refine lv_icmp_ge (tgt := 46) hx hb dX5_digest_26 (by decide) (fun c_8 => ?_) (fun c_8 => ?_)
  · replace c_8 := (nI_leI (a := 3) (b := z) (by omega) (by omega)).mp c_8
    refine lv_iconst (v := 0) hx hb dX5_digest_46 (by decide) ?_
    refine lv_istore_n (lv' := [(3, .int 0), (1, .long d), (0, .ref x)]) hx hb dX5_digest_47 rfl hl (by decide) rfl (fun ls hl => ?_)
    refine kz_loopD 48 (fun N9 H locs ls => ∃ (k : Nat) (d : Int64) (T : Pool), N9 = n - k ∧ k ≤ n ∧ eqA S T ak ∧ va_P D vwCl (PW cA T) H ∧ va_D A (PW cA T) ∧ va_S A s.heap H locs ∧ lv_has ls 5 [(3, .int (nI k)), (1, .long d), (0, .ref x)]) (fun N9 ih_48 H locs ls e_48 hd0 hI => ?_) hd0 ⟨0, d, T, rfl, by omega, hE, hP, hD, hS, lv_sub hl [0, 1, 2] rfl⟩
    obtain ⟨k, d, T, hn9, hle_k, hE, hP, hD, hS, hl⟩ := hI
    have htT : ∀ w ∈ TT, w.before _ (s.setDrawn e_48) = true := dr_words htT0 e_48
    have hTB : TBok (s.setDrawn e_48) := TBok.same (u := s) (U := s.setDrawn e_48) rfl (Vm.Alike.refl s.vm) hTB0
    have hK : va_K D vwCl (ty6 cA) (s.setDrawn e_48) := hK0
    have hown : (s.setDrawn e_48).vm.findClass RX5 = some m.cls := hown0
    have hx5_9 := hE.o hx5
    have hak_9 := hE.o hak
    have hR_9 := hE.okR hak hR
    have hq0_9 := (hE.q x 0).trans hq0
    have hq1_9 := (hE.q x 1).trans hq1
    have h2n_10 : gI T x 2 = nI n := (hE.i hak hx5 (by decide) 2).trans h2n
    refine lv_iload_n hx hb dX5_digest_48 rfl (lv_at hl 0 rfl) ?_
    refine lv_aload_n hx hb dX5_digest_49 rfl (lv_at hl 2 rfl) ?_
    refine kx_getiv hx hb htT m_u_X5 hown hK hP hx5_9 (Nat.le_of_ble_eq_true rfl) rfl 2 (by decide) (by decide) rfl (htT _ m_fl_X5_33) h2n_10 dX5_digest_50 ?_
    refine lv_icmp_ge (tgt := 69) hx hb dX5_digest_53 (by decide) (fun c_11 => ?_) (fun c_11 => ?_)
    · replace c_11 := (nI_leI (a := n) (b := k) (by omega) (by omega)).mp c_11
      refine lv_iconst (v := 0) hx hb dX5_digest_69 (by decide) ?_
      refine lv_istore_n (lv' := [(3, .int 0), (1, .long d), (0, .ref x)]) hx hb dX5_digest_70 rfl hl (by decide) rfl (fun ls hl => ?_)
      refine kz_loopD 71 (fun N9 H locs ls => ∃ (u : Nat) (d : Int64) (T : Pool), N9 = 10 - u ∧ u ≤ 10 ∧ eqA S T ak ∧ va_P D vwCl (PW cA T) H ∧ va_D A (PW cA T) ∧ va_S A s.heap H locs ∧ lv_has ls 5 [(3, .int (nI u)), (1, .long d), (0, .ref x)]) (fun N9 ih_71 H locs ls e_71 hd0 hI => ?_) hd0 ⟨0, d, T, rfl, by omega, hE, hP, hD, hS, lv_sub hl [0, 1, 2] rfl⟩
      obtain ⟨u, d, T, hn9, hle_u, hE, hP, hD, hS, hl⟩ := hI
      have htT : ∀ w ∈ TT, w.before _ (s.setDrawn e_71) = true := dr_words htT0 e_71
      have hTB : TBok (s.setDrawn e_71) := TBok.same (u := s) (U := s.setDrawn e_71) rfl (Vm.Alike.refl s.vm) hTB0
      have hK : va_K D vwCl (ty6 cA) (s.setDrawn e_71) := hK0
      have hown : (s.setDrawn e_71).vm.findClass RX5 = some m.cls := hown0
      have hx5_12 := hE.o hx5
      have hak_12 := hE.o hak
      have hR_12 := hE.okR hak hR
      have hq0_12 := (hE.q x 0).trans hq0
      have hq1_12 := (hE.q x 1).trans hq1
      have h2n_13 : gI T x 2 = nI n := (hE.i hak hx5 (by decide) 2).trans h2n
      refine lv_iload_n hx hb dX5_digest_71 rfl (lv_at hl 0 rfl) ?_
      refine lv_bipush (v := 10) hx hb dX5_digest_72 (by decide) ?_
      refine lv_icmp_ge (tgt := 150) hx hb dX5_digest_74 (by decide) (fun c_14 => ?_) (fun c_14 => ?_)
      · replace c_14 := (nI_leI (a := 10) (b := u) (by omega) (by omega)).mp c_14
        refine lv_lload_n hx hb dX5_digest_150 rfl (lv_at hl 1 rfl) ?_
        refine W.endD hd0 ?_
        exact W.lret (v := d) hx hb hr (fun t ht hW => ⟨⟨d, T, rfl, hE, by rw [ht]; exact hP, va_K.moved hW.alike hK, hD⟩, hS.F ht⟩) hS.2.2 dX5_digest_151
      · replace c_14 : ¬ (10 ≤ u) := fun h9 => c_14 ((nI_leI (a := 10) (b := u) (by omega) (by omega)).mpr h9)
        refine lv_iconst (v := 0) hx hb dX5_digest_77 (by decide) ?_
        refine lv_istore (lv' := [(4, .int 0), (3, .int (nI u)), (1, .long d), (0, .ref x)]) hx hb dX5_digest_78 hl (by decide) rfl (fun ls hl => ?_)
        refine kz_loopD 80 (fun N9 H locs ls => ∃ (k : Nat) (d : Int64) (T : Pool), N9 = n - k ∧ k ≤ n ∧ eqA S T ak ∧ va_P D vwCl (PW cA T) H ∧ va_D A (PW cA T) ∧ va_S A s.heap H locs ∧ lv_has ls 5 [(4, .int (nI k)), (3, .int (nI u)), (1, .long d), (0, .ref x)]) (fun N9 ih_80 H locs ls e_80 hd0 hI => ?_) hd0 ⟨0, d, T, rfl, by omega, hE, hP, hD, hS, lv_sub hl [0, 1, 2, 3] rfl⟩
        obtain ⟨k, d, T, hn9, hle_k, hE, hP, hD, hS, hl⟩ := hI
        have htT : ∀ w ∈ TT, w.before _ (s.setDrawn e_80) = true := dr_words htT0 e_80
        have hTB : TBok (s.setDrawn e_80) := TBok.same (u := s) (U := s.setDrawn e_80) rfl (Vm.Alike.refl s.vm) hTB0
        have hK : va_K D vwCl (ty6 cA) (s.setDrawn e_80) := hK0
        have hown : (s.setDrawn e_80).vm.findClass RX5 = some m.cls := hown0
        have hx5_15 := hE.o hx5
        have hak_15 := hE.o hak
        have hR_15 := hE.okR hak hR
        have hq0_15 := (hE.q x 0).trans hq0
        have hq1_15 := (hE.q x 1).trans hq1
        have h2n_16 : gI T x 2 = nI n := (hE.i hak hx5 (by decide) 2).trans h2n
        refine lv_iload hx hb dX5_digest_80 (lv_at hl 0 rfl) ?_
        refine lv_aload_n hx hb dX5_digest_82 rfl (lv_at hl 3 rfl) ?_
        refine kx_getiv hx hb htT m_u_X5 hown hK hP hx5_15 (Nat.le_of_ble_eq_true rfl) rfl 2 (by decide) (by decide) rfl (htT _ m_fl_X5_33) h2n_16 dX5_digest_83 ?_
        refine lv_icmp_ge (tgt := 144) hx hb dX5_digest_86 (by decide) (fun c_17 => ?_) (fun c_17 => ?_)
        · replace c_17 := (nI_leI (a := n) (b := k) (by omega) (by omega)).mp c_17
          refine lv_iinc (v := nI (u + 1)) (lv' := [(3, .int (nI (u + 1))), (4, .int (nI k)), (1, .long d), (0, .ref x)]) hx hb dX5_digest_144 hl (k := 1) rfl (nI_1 _) (by decide) rfl (fun ls hl => ?_)
          refine lv_goto (tgt := 71) hx hb dX5_digest_147 (by decide) ?_
          have hl := lv_sub hl [0, 2, 3] rfl
          exact ih_71 _ (by omega) H locs ls e_80 hd0 ⟨u + 1, _, T, rfl, by omega, hE, hP, hD, hS, hl⟩
        · replace c_17 : ¬ (n ≤ k) := fun h9 => c_17 ((nI_leI (a := n) (b := k) (by omega) (by omega)).mpr h9)
          obtain ⟨a, hja⟩ := hrow k (by omega)
          have hj : k < 8 := by omega
          have hsw : kSw S ar (nI k) = some a := (kSw_at hj).trans hja
          have hja_15 := (hE.p ar k).trans hja
          refine lv_lload_n hx hb dX5_digest_89 rfl (lv_at hl 2 rfl) ?_
          refine lv_aload_n hx hb dX5_digest_90 rfl (lv_at hl 3 rfl) ?_
          refine lv_iload hx hb dX5_digest_91 (lv_at hl 0 rfl) ?_
          refine lv_iload_n hx hb dX5_digest_93 rfl (lv_at hl 1 rfl) ?_
          refine lv_iload_n hx hb dX5_digest_94 rfl (lv_at hl 1 rfl) ?_
          refine lv_bipush (v := 9) hx hb dX5_digest_95 (by decide) ?_
          refine lv_iload_n hx hb dX5_digest_97 rfl (lv_at hl 1 rfl) ?_
          refine lv_isub hx hb dX5_digest_98 ?_
          refine kc_i (va_runV (As := [.int (nI k), .int (nI u), .int (nI u), .int (9 - (nI u))]) (rest := [.long d]) ⟨hx, hb, hml, hown, htT⟩ (c_gets l D cA _ T x hx5_15 ar hq0_15 ak hq1_15 hak_15 hR_15 k hj a hja_15 (nI k) ((hE.sw _).trans hsw) (nI u) (nI u) (9 - nI u) (kOut_9 u (by omega)).1 (kOut_9 u (by omega)).2.1 (kOut_9 u (by omega)).2.2) (cwV 4 htT (kg_V m_ml_X5_263 m_im_X5_gets m_sl_X5_gets m_in_X5 m_cd_X5_gets) rfl rfl rfl (by decide +kernel) ⟨Nat.le_of_ble_eq_true rfl, Nat.le_of_ble_eq_true rfl⟩) (kp_V hK hP hD hTB (kp_rc hK hP hx5_15 (Nat.le_of_ble_eq_true rfl) rfl)) rfl rfl hl.1 rfl (lv_room (Nat.le_of_ble_eq_true rfl)) dX5_digest_99 ⟨Nat.le_of_ble_eq_true rfl, Nat.le_of_ble_eq_true rfl⟩) hD hS hA (fun r_18 x_18 H locs hq_18 hP hD hS => ?_)
          have hE_18 : eqA S x_18 ak := by rw [hq_18.2]; exact hE.tr eqA.bec
          have hx5_19 := hE_18.o hx5
          have hak_19 := hE_18.o hak
          have hR_19 := hE_18.okR hak hR
          have hq0_19 := (hE_18.q x 0).trans hq0
          have hq1_19 := (hE_18.q x 1).trans hq1
          have hja_19 := (hE_18.p ar k).trans hja
          refine lv_i2l (v := r_18.toInt64) hx hb dX5_digest_102 rfl ?_
          refine kc_l (va_runS (As := [.long d, .long r_18.toInt64]) (rest := []) ⟨hx, hb, hml, hown, htT⟩ (c_withNext l D cA _ x_18 d r_18.toInt64) (cwS 2 htT (kg_S m_ml_X5_249 m_st_X5_withNext m_in_X5 m_cd_X5_withNext) rfl rfl rfl (by decide +kernel) ⟨Nat.le_of_ble_eq_true rfl, Nat.le_of_ble_eq_true rfl⟩) (kp_S hK hP hD hTB) rfl rfl hl.1 rfl (lv_room (Nat.le_of_ble_eq_true rfl)) dX5_digest_103 ⟨Nat.le_of_ble_eq_true rfl, Nat.le_of_ble_eq_true rfl⟩) hD hS hA (fun r_20 x_20 H locs hq_20 hP hD hS => ?_)
          rw [hq_20.2] at hP hD
          refine lv_lstore_n (lv' := [(1, .long r_20), (4, .int (nI k)), (3, .int (nI u)), (0, .ref x)]) hx hb dX5_digest_106 rfl hl (by decide) rfl (fun ls hl => ?_)
          refine lv_lload_n hx hb dX5_digest_107 rfl (lv_at hl 0 rfl) ?_
          refine lv_aload_n hx hb dX5_digest_108 rfl (lv_at hl 3 rfl) ?_
          refine lv_iload hx hb dX5_digest_109 (lv_at hl 1 rfl) ?_
          refine lv_iload_n hx hb dX5_digest_111 rfl (lv_at hl 2 rfl) ?_
          refine lv_iload_n hx hb dX5_digest_112 rfl (lv_at hl 2 rfl) ?_
          refine lv_bipush (v := 9) hx hb dX5_digest_113 (by decide) ?_
          refine lv_iload_n hx hb dX5_digest_115 rfl (lv_at hl 2 rfl) ?_
          refine lv_isub hx hb dX5_digest_116 ?_
          refine kc_i (va_runV (As := [.int (nI k), .int (nI u), .int (nI u), .int (9 - (nI u))]) (rest := [.long r_20]) ⟨hx, hb, hml, hown, htT⟩ (c_why l D cA _ x_18 x hx5_19 ar hq0_19 ak hq1_19 hak_19 hR_19 k hj a hja_19 (nI k) ((hE_18.sw _).trans hsw) (nI u) (nI u) (9 - nI u) (kOut_9 u (by omega)).1 (kOut_9 u (by omega)).2.1 (kOut_9 u (by omega)).2.2) (cwV 4 htT (kg_V m_ml_X5_267 m_im_X5_why m_sl_X5_why m_in_X5 m_cd_X5_why) rfl rfl rfl (by decide +kernel) ⟨Nat.le_of_ble_eq_true rfl, Nat.le_of_ble_eq_true rfl⟩) (kp_V hK hP hD hTB (kp_rc hK hP hx5_19 (Nat.le_of_ble_eq_true rfl) rfl)) rfl rfl hl.1 rfl (lv_room (Nat.le_of_ble_eq_true rfl)) dX5_digest_117 ⟨Nat.le_of_ble_eq_true rfl, Nat.le_of_ble_eq_true rfl⟩) hD hS hA (fun r_21 x_21 H locs hq_21 hP hD hS => ?_)
          have hE_21 : eqA S x_21 ak := by rw [hq_21.2]; exact hE_18.tr eqA.bec
          have hx5_22 := hE_21.o hx5
          have hak_22 := hE_21.o hak
          have hR_22 := hE_21.okR hak hR
          have hq0_22 := (hE_21.q x 0).trans hq0
          have hq1_22 := (hE_21.q x 1).trans hq1
          have hja_22 := (hE_21.p ar k).trans hja
          refine lv_i2l (v := r_21.toInt64) hx hb dX5_digest_120 rfl ?_
          refine kc_l (va_runS (As := [.long r_20, .long r_21.toInt64]) (rest := []) ⟨hx, hb, hml, hown, htT⟩ (c_withNext l D cA _ x_21 r_20 r_21.toInt64) (cwS 2 htT (kg_S m_ml_X5_249 m_st_X5_withNext m_in_X5 m_cd_X5_withNext) rfl rfl rfl (by decide +kernel) ⟨Nat.le_of_ble_eq_true rfl, Nat.le_of_ble_eq_true rfl⟩) (kp_S hK hP hD hTB) rfl rfl hl.1 rfl (lv_room (Nat.le_of_ble_eq_true rfl)) dX5_digest_121 ⟨Nat.le_of_ble_eq_true rfl, Nat.le_of_ble_eq_true rfl⟩) hD hS hA (fun r_23 x_23 H locs hq_23 hP hD hS => ?_)
          rw [hq_23.2] at hP hD
          refine lv_lstore_n (lv' := [(1, .long r_23), (4, .int (nI k)), (3, .int (nI u)), (0, .ref x)]) hx hb dX5_digest_124 rfl hl (by decide) rfl (fun ls hl => ?_)
          refine lv_lload_n hx hb dX5_digest_125 rfl (lv_at hl 0 rfl) ?_
          refine lv_aload_n hx hb dX5_digest_126 rfl (lv_at hl 3 rfl) ?_
          refine lv_iload hx hb dX5_digest_127 (lv_at hl 1 rfl) ?_
          refine lv_iload_n hx hb dX5_digest_129 rfl (lv_at hl 2 rfl) ?_
          refine kc_i (va_runV (As := [.int (nI k), .int (nI u)]) (rest := [.long r_23]) ⟨hx, hb, hml, hown, htT⟩ (c_arm l D cA _ x_21 x hx5_22 ar hq0_22 ak hq1_22 hak_22 hR_22 k hj a hja_22 (nI k) ((hE_21.sw _).trans hsw) (nI u) (kOut_9 u (by omega)).1) (cwV 2 htT (kg_V m_ml_X5_270 m_im_X5_arm m_sl_X5_arm m_in_X5 m_cd_X5_arm) rfl rfl rfl (by decide +kernel) ⟨Nat.le_of_ble_eq_true rfl, Nat.le_of_ble_eq_true rfl⟩) (kp_V hK hP hD hTB (kp_rc hK hP hx5_22 (Nat.le_of_ble_eq_true rfl) rfl)) rfl rfl hl.1 rfl (lv_room (Nat.le_of_ble_eq_true rfl)) dX5_digest_130 ⟨Nat.le_of_ble_eq_true rfl, Nat.le_of_ble_eq_true rfl⟩) hD hS hA (fun r_24 x_24 H locs hq_24 hP hD hS => ?_)
          rw [hq_24.2] at hP hD
          refine lv_i2l (v := r_24.toInt64) hx hb dX5_digest_133 rfl ?_
          refine kc_l (va_runS (As := [.long r_23, .long r_24.toInt64]) (rest := []) ⟨hx, hb, hml, hown, htT⟩ (c_withNext l D cA _ x_21 r_23 r_24.toInt64) (cwS 2 htT (kg_S m_ml_X5_249 m_st_X5_withNext m_in_X5 m_cd_X5_withNext) rfl rfl rfl (by decide +kernel) ⟨Nat.le_of_ble_eq_true rfl, Nat.le_of_ble_eq_true rfl⟩) (kp_S hK hP hD hTB) rfl rfl hl.1 rfl (lv_room (Nat.le_of_ble_eq_true rfl)) dX5_digest_134 ⟨Nat.le_of_ble_eq_true rfl, Nat.le_of_ble_eq_true rfl⟩) hD hS hA (fun r_25 x_25 H locs hq_25 hP hD hS => ?_)
          rw [hq_25.2] at hP hD
          refine lv_lstore_n (lv' := [(1, .long r_25), (4, .int (nI k)), (3, .int (nI u)), (0, .ref x)]) hx hb dX5_digest_137 rfl hl (by decide) rfl (fun ls hl => ?_)
          refine lv_iinc (v := nI (k + 1)) (lv' := [(4, .int (nI (k + 1))), (1, .long r_25), (3, .int (nI u)), (0, .ref x)]) hx hb dX5_digest_138 hl (k := 1) rfl (nI_1 _) (by decide) rfl (fun ls hl => ?_)
          refine lv_goto (tgt := 80) hx hb dX5_digest_141 (by decide) ?_
          have hl := lv_sub hl [0, 2, 1, 3] rfl
          exact ih_80 _ (by omega) H locs ls e_80 hd0 ⟨k + 1, _, x_21, rfl, by omega, hE_21, hP, hD, hS, hl⟩
    · replace c_11 : ¬ (n ≤ k) := fun h9 => c_11 ((nI_leI (a := n) (b := k) (by omega) (by omega)).mpr h9)
      obtain ⟨a, hja⟩ := hrow k (by omega)
      have hj : k < 8 := by omega
      have hsw : kSw S ar (nI k) = some a := (kSw_at hj).trans hja
      have hja_9 := (hE.p ar k).trans hja
      refine lv_aload_n hx hb dX5_digest_56 rfl (lv_at hl 2 rfl) ?_
      refine lv_lload_n hx hb dX5_digest_57 rfl (lv_at hl 1 rfl) ?_
      refine lv_iload_n hx hb dX5_digest_58 rfl (lv_at hl 0 rfl) ?_
      obtain ⟨vc, hvc, h2v⟩ := hvcs k a hj hja
      refine kcD_l hd0 (va_runV_D (As := [.long d, .int (nI k)]) (rest := []) ⟨hx, hb, hml, hown, htT⟩ (c_withSwitch l D cA _ T x hx5_9 ar hq0_9 ak hq1_9 hak_9 hR_9 k hj a hja_9 k ((hE.sw _).trans hsw) vc hvc ((hE.i hak (hR.2 k hj a hja).1.1 (by decide) 2).trans h2v) d) (cwV 2 htT (kg_V m_ml_X5_259 m_im_X5_withSwitch m_sl_X5_withSwitch m_in_X5 m_cd_X5_withSwitch) rfl rfl rfl (by decide +kernel) ⟨Nat.le_of_ble_eq_true rfl, Nat.le_of_ble_eq_true rfl⟩) (kp_V hK hP hD hTB (kp_rc hK hP hx5_9 (Nat.le_of_ble_eq_true rfl) rfl)) rfl rfl hl.1 rfl (lv_room (Nat.le_of_ble_eq_true rfl)) dX5_digest_59 ⟨Nat.le_of_ble_eq_true rfl, Nat.le_of_ble_eq_true rfl⟩) hD hS hA (fun r_26 x_26 H locs hq_26 hP hD hS d_26 hd0 => ?_)
      have htT : ∀ w ∈ TT, w.before _ (s.setDrawn d_26) = true := dr_words htT0 d_26
      have hTB : TBok (s.setDrawn d_26) := TBok.same (u := s) (U := s.setDrawn d_26) rfl (Vm.Alike.refl s.vm) hTB0
      have hK : va_K D vwCl (ty6 cA) (s.setDrawn d_26) := hK0
      have hown : (s.setDrawn d_26).vm.findClass RX5 = some m.cls := hown0
      have hE_26 := hE.tr hq_26
      have hx5_27 := hE_26.o hx5
      have hak_27 := hE_26.o hak
      have hR_27 := hE_26.okR hak hR
      have hq0_27 := (hE_26.q x 0).trans hq0
      have hq1_27 := (hE_26.q x 1).trans hq1
      have hja_27 := (hE_26.p ar k).trans hja
      refine lv_lstore_n (lv' := [(1, .long r_26), (3, .int (nI k)), (0, .ref x)]) hx hb dX5_digest_62 rfl hl (by decide) rfl (fun ls hl => ?_)
      refine lv_iinc (v := nI (k + 1)) (lv' := [(3, .int (nI (k + 1))), (1, .long r_26), (0, .ref x)]) hx hb dX5_digest_63 hl (k := 1) rfl (nI_1 _) (by decide) rfl (fun ls hl => ?_)
      refine lv_goto (tgt := 48) hx hb dX5_digest_66 (by decide) ?_
      have hl := lv_sub hl [0, 1, 2] rfl
      exact ih_48 _ (by omega) H locs ls d_26 hd0 ⟨k + 1, _, x_26, rfl, by omega, hE_26, hP, hD, hS, hl⟩
  · replace c_8 : ¬ (3 ≤ z) := fun h9 => c_8 ((nI_leI (a := 3) (b := z) (by omega) (by omega)).mpr h9)
    refine lv_lload_n hx hb dX5_digest_29 rfl (lv_at hl 1 rfl) ?_
    refine lv_aload_n hx hb dX5_digest_30 rfl (lv_at hl 2 rfl) ?_
    refine lv_iload_n hx hb dX5_digest_31 rfl (lv_at hl 0 rfl) ?_
    refine kc_i (va_runV (As := [.int (nI z)]) (rest := [.long d]) ⟨hx, hb, hml, hown, htT⟩ (c_left l D cA _ T x hx5_6 ar hq0_6 hR_6 (nI z) (kOut_3 z (by omega))) (cwV 1 htT (kg_V m_ml_X5_256 m_im_X5_left m_sl_X5_left m_in_X5 m_cd_X5_left) rfl rfl rfl (by decide +kernel) ⟨Nat.le_of_ble_eq_true rfl, Nat.le_of_ble_eq_true rfl⟩) (kp_V hK hP hD hTB (kp_rc hK hP hx5_6 (Nat.le_of_ble_eq_true rfl) rfl)) rfl rfl hl.1 rfl (lv_room (Nat.le_of_ble_eq_true rfl)) dX5_digest_32 ⟨Nat.le_of_ble_eq_true rfl, Nat.le_of_ble_eq_true rfl⟩) hD hS hA (fun r_28 x_28 H locs hq_28 hP hD hS => ?_)
    rw [hq_28.2] at hP hD
    refine lv_i2l (v := r_28.toInt64) hx hb dX5_digest_35 rfl ?_
    refine kc_l (va_runS (As := [.long d, .long r_28.toInt64]) (rest := []) ⟨hx, hb, hml, hown, htT⟩ (c_withNext l D cA _ T d r_28.toInt64) (cwS 2 htT (kg_S m_ml_X5_249 m_st_X5_withNext m_in_X5 m_cd_X5_withNext) rfl rfl rfl (by decide +kernel) ⟨Nat.le_of_ble_eq_true rfl, Nat.le_of_ble_eq_true rfl⟩) (kp_S hK hP hD hTB) rfl rfl hl.1 rfl (lv_room (Nat.le_of_ble_eq_true rfl)) dX5_digest_36 ⟨Nat.le_of_ble_eq_true rfl, Nat.le_of_ble_eq_true rfl⟩) hD hS hA (fun r_29 x_29 H locs hq_29 hP hD hS => ?_)
    rw [hq_29.2] at hP hD
    refine lv_lstore_n (lv' := [(1, .long r_29), (3, .int (nI z)), (0, .ref x)]) hx hb dX5_digest_39 rfl hl (by decide) rfl (fun ls hl => ?_)
    refine lv_iinc (v := nI (z + 1)) (lv' := [(3, .int (nI (z + 1))), (1, .long r_29), (0, .ref x)]) hx hb dX5_digest_40 hl (k := 1) rfl (nI_1 _) (by decide) rfl (fun ls hl => ?_)
    refine lv_goto (tgt := 24) hx hb dX5_digest_43 (by decide) ?_
    have hl := lv_sub hl [0, 1, 2] rfl
    exact ih_24 _ (by omega) H locs ls e_24 hd0 ⟨z + 1, _, T, rfl, by omega, hE, hP, hD, hS, hl⟩

