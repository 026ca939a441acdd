theorem and_1 {a : Nat} (h : a ≤ 1) : nI a &&& (1 : Int32) = nI a := by
  rcases (show a = 0 ∨ a = 1 by omega) with rfl | rfl <;> decide
theorem and_0 {a : Nat} (h : a ≤ 1) : nI a &&& (0 : Int32) = nI 0 := by
  rcases (show a = 0 ∨ a = 1 by omega) with rfl | rfl <;> decide
theorem kMin_n {a : Nat} (h : a < 2 ^ 31) : (if nI a < (1000 : Int32) then nI a else 1000) = nI (min 1000 a) := by
  by_cases z : a < 1000
  · rw [if_pos (show nI a < (1000 : Int32) from (nI_ltI (a := a) (b := 1000) h (by omega)).mpr z)]; exact congrArg nI (by omega)
  · rw [if_neg (show ¬ nI a < (1000 : Int32) from fun q => z ((nI_ltI (a := a) (b := 1000) h (by omega)).mp q))]; exact congrArg nI (show (1000 : Nat) = _ by omega)
set_option maxRecDepth 100000 in
set_option maxHeartbeats 4000000 in
/-- place -/
theorem d_place (l : Launch) (hst : l.stackTraces = false) (D : va_G) (cA : Nat → ClassId) (sz : Nat) (b L : Nat) (xs : Nat → Int32) (hL : L < 2 ^ 31) (T S : Pool) (d x ar ak D0 c0 s0 n0 : Nat) (hD0 : D0 < 1000000) (hc0 : c0 < 100000) (hs0 : s0 < 1000000) (hJ : J38 d x b ar ak D0 c0 s0 n0 T S) (hn0 : 1 ≤ n0)  : Met l yX6_place (Cond.codeWith yX6_place cX6_place 8 (some .boolean) [(179, 202, 236, 94), (203, 235, 236, 94)] :: TT) ({ frames := 7, cells := 1, slots := 6, locals := 108 }) (va_Pc [.ref d] (kPreE D cA (PW cA T ++ PW cA S) b L xs sz)) (va_Qi (fun (r_ : Int32) (x_ : Pool × Pool) => r_ = 1 ∧ J38 d x b ar ak (D0 + 8) c0 s0 n0 x_.1 x_.2) (fun x_ => kB D cA (va_A (PW cA T ++ PW cA S) sz) (PW cA x_.1 ++ PW cA x_.2)) (va_A (PW cA T ++ PW cA S) sz)) 1 6 (va_A (PW cA T ++ PW cA S) sz) := by
  refine kt_ofWH (cc := cX6_place) (maxL := 8) (ret := (some .boolean)) (by decide) rfl ?_
  intro p e s m args below meth c s₁ B hml hTab hv
  obtain ⟨rfl, ⟨⟨hsz, hP, hK, hD0, hTB⟩, hTX⟩, hX, hbl, hbA, hAO⟩ := hv
  have hx := B.exec
  have hb := B.bytes
  have hr := B.returns
  have hts := atoms_spec (ws := Cond.codeWith yX6_place cX6_place 8 (some .boolean) [(179, 202, 236, 94), (203, 235, 236, 94)] :: TT) B.pre
  have htT : ∀ w ∈ TT, w.before _ s = true := fun w h => hts w (List.mem_cons_of_mem _ h)
  have hown : s.vm.findClass RX6 = some m.cls := findClass_of_methodNamed B.named
  have hlocks := B.notSynchronized
  subst hsz
  have hD := hD0.self (sz := s.heap.size)
  generalize hAe : va_A (PW cA T ++ PW cA S) s.heap.size = A at hD hTX hbA ⊢
  have hA : ∀ q : Nat, s.heap.size ≤ q → A q := fun q h => by rw [← hAe]; exact Or.inr h
  have hS : va_S A s.heap s.heap [] := va_S.rf
  have hl := lv_entry ([.ref d]) (n := 8) (Nat.le_of_ble_eq_true rfl)
  rw [lg_entry_eq]
  generalize (lg_sl ([.ref d]) ++ List.replicate (8 - (lg_sl ([.ref d])).length) Slot.unset).toArray = ls at hl ⊢
  have hl : lv_has ls 8 [(0, .ref d)] := hl
  obtain ⟨n, na, dr, cM, sB, Ad, fF, fO, fW, fC, fR, fB, M, hn9, hdr9, hcM9, hsB9, dk, hvm, gg, hM⟩ := hJ
  have hn8 : n ≤ 8 := dk.n8
  have hna : na ≤ 100 := gg.r.na
  have hdr : fF 2 = nI dr := hvm.f2
  have oF5 : fF 5 = nI n := hvm.f5
  have oF3 : fF 3 = nI cM := hvm.f3.trans hM.1.1
  refine lv_aload_n hx hb dX6_place_0 rfl (lv_at hl 0 rfl) ?_
  refine lv_aload_n hx hb dX6_place_1 rfl (lv_at hl 0 rfl) ?_
  refine kd_getiv (x := nI n) hx hb htT m_u_X6 hown hK hP dk.o rfl 5 (by decide) (by decide) rfl (htT _ m_fl_X6_57) ((dk.f 5).trans ((show _ = fF 5 from rfl).trans oF5)) dX6_place_2 ?_
  refine kc_i (va_runV (As := [.int (nI n)]) (rest := []) ⟨hx, hb, hml, hown, htT⟩ (d_draw l D cA _ (PW cA S) b L xs hL T d x Ad n na fF fO fW fC fR fB dk (dr) hdr (by omega) (n) (by omega) (by omega)) (cwV 1 htT (kg_V m_ml_X6_60 m_im_X6_draw m_sl_X6_draw m_in_X6 m_cd_X6_draw) rfl rfl rfl (by decide +kernel) ⟨Nat.le_of_ble_eq_true rfl, Nat.le_of_ble_eq_true rfl⟩) (kpe_V hK hP hD hTB hTX hX hbl hbA hAO hS hA (kpe_rc hK hP dk.o rfl)) rfl rfl hl.1 rfl (lv_room (Nat.le_of_ble_eq_true rfl)) dX6_place_5 ⟨Nat.le_of_ble_eq_true rfl, Nat.le_of_ble_eq_true rfl⟩) hD hS hA (fun r_1 x_1 H locs hq_1 hP hD hS => ?_)
  obtain ⟨⟨k, hk, hr_1⟩, ht_1⟩ := hq_1
  rw [hr_1]
  rw [ht_1] at hP hD
  have dk_2 : DK (pI T d 2 (nI (dr + 1))) d x b Ad (n, na, (upd fF 2 (nI (dr + 1))), fO, fW, fC, fR, fB) := dk.num
  have q8_k : k < 8 := by omega
  obtain ⟨a_k, ja_k⟩ := gg.c.row k (by omega)
  have sw_k := gg.sw2 (by omega) ja_k
  obtain ⟨hMl, hMa⟩ := hM.2.2.1
  refine lv_istore_n (lv' := [(1, .int (nI k)), (0, .ref d)]) hx hb dX6_place_8 rfl hl (by decide) rfl (fun ls hl => ?_)
  refine lv_aload_n hx hb dX6_place_9 rfl (lv_at hl 1 rfl) ?_
  refine lv_iconst (v := 5) hx hb dX6_place_10 (by decide) ?_
  refine kc_i (va_runV (As := [.int 5]) (rest := []) ⟨hx, hb, hml, hown, htT⟩ (d_draw l D cA _ (PW cA S) b L xs hL (pI T d 2 (nI (dr + 1))) d x Ad n na (upd fF 2 (nI (dr + 1))) fO fW fC fR fB dk_2 (dr + 1) rfl (by omega) (5) (by omega) (by omega)) (cwV 1 htT (kg_V m_ml_X6_60 m_im_X6_draw m_sl_X6_draw m_in_X6 m_cd_X6_draw) rfl rfl rfl (by decide +kernel) ⟨Nat.le_of_ble_eq_true rfl, Nat.le_of_ble_eq_true rfl⟩) (kpe_V hK hP hD hTB hTX hX hbl hbA hAO hS hA (kpe_rc hK hP dk_2.o rfl)) rfl rfl hl.1 rfl (lv_room (Nat.le_of_ble_eq_true rfl)) dX6_place_11 ⟨Nat.le_of_ble_eq_true rfl, Nat.le_of_ble_eq_true rfl⟩) hD hS hA (fun r_3 x_3 H locs hq_3 hP hD hS => ?_)
  obtain ⟨⟨w5, hw5, hr_3⟩, ht_3⟩ := hq_3
  rw [hr_3]
  rw [ht_3] at hP hD
  have dk_4 : DK (pI (pI T d 2 (nI (dr + 1))) d 2 (nI (dr + 1 + 1))) d x b Ad (n, na, (upd (upd fF 2 (nI (dr + 1))) 2 (nI (dr + 1 + 1))), fO, fW, fC, fR, fB) := dk_2.num
  refine lv_if_ne (tgt := 21) hx hb dX6_place_14 (by decide) (fun c_5 => ?_) (fun c_5 => ?_)
  · replace c_5 : ¬ (w5 = 0) := fun h9 => c_5 ((nI_eq (a := w5) (b := 0) (by omega) (by omega)).mpr h9)
    refine lv_aload_n hx hb dX6_place_21 rfl (lv_at hl 1 rfl) ?_
    refine lv_iconst (v := 2) hx hb dX6_place_22 (by decide) ?_
    refine kc_i (va_runV (As := [.int 2]) (rest := []) ⟨hx, hb, hml, hown, htT⟩ (d_draw l D cA _ (PW cA S) b L xs hL (pI (pI T d 2 (nI (dr + 1))) d 2 (nI (dr + 1 + 1))) d x Ad n na (upd (upd fF 2 (nI (dr + 1))) 2 (nI (dr + 1 + 1))) fO fW fC fR fB dk_4 (dr + 1 + 1) rfl (by omega) (2) (by omega) (by omega)) (cwV 1 htT (kg_V m_ml_X6_60 m_im_X6_draw m_sl_X6_draw m_in_X6 m_cd_X6_draw) rfl rfl rfl (by decide +kernel) ⟨Nat.le_of_ble_eq_true rfl, Nat.le_of_ble_eq_true rfl⟩) (kpe_V hK hP hD hTB hTX hX hbl hbA hAO hS hA (kpe_rc hK hP dk_4.o rfl)) rfl rfl hl.1 rfl (lv_room (Nat.le_of_ble_eq_true rfl)) dX6_place_23 ⟨Nat.le_of_ble_eq_true rfl, Nat.le_of_ble_eq_true rfl⟩) hD hS hA (fun r_6 x_6 H locs hq_6 hP hD hS => ?_)
    obtain ⟨⟨la, hla, hr_6⟩, ht_6⟩ := hq_6
    rw [hr_6]
    rw [ht_6] at hP hD
    have dk_7 : DK (pI (pI (pI T d 2 (nI (dr + 1))) d 2 (nI (dr + 1 + 1))) d 2 (nI (dr + 1 + 1 + 1))) d x b Ad (n, na, (upd (upd (upd fF 2 (nI (dr + 1))) 2 (nI (dr + 1 + 1))) 2 (nI (dr + 1 + 1 + 1))), fO, fW, fC, fR, fB) := dk_4.num
    refine lv_istore_n (lv' := [(2, .int (nI la)), (1, .int (nI k)), (0, .ref d)]) hx hb dX6_place_26 rfl hl (by decide) rfl (fun ls hl => ?_)
    refine lv_bipush (v := 100) hx hb dX6_place_27 (by decide) ?_
    refine lv_aload_n hx hb dX6_place_29 rfl (lv_at hl 2 rfl) ?_
    refine lv_bipush (v := 10) hx hb dX6_place_30 (by decide) ?_
    refine kc_i (va_runV (As := [.int 10]) (rest := [.int 100]) ⟨hx, hb, hml, hown, htT⟩ (d_draw l D cA _ (PW cA S) b L xs hL (pI (pI (pI T d 2 (nI (dr + 1))) d 2 (nI (dr + 1 + 1))) d 2 (nI (dr + 1 + 1 + 1))) d x Ad n na (upd (upd (upd fF 2 (nI (dr + 1))) 2 (nI (dr + 1 + 1))) 2 (nI (dr + 1 + 1 + 1))) fO fW fC fR fB dk_7 (dr + 1 + 1 + 1) rfl (by omega) (10) (by omega) (by omega)) (cwV 1 htT (kg_V m_ml_X6_60 m_im_X6_draw m_sl_X6_draw m_in_X6 m_cd_X6_draw) rfl rfl rfl (by decide +kernel) ⟨Nat.le_of_ble_eq_true rfl, Nat.le_of_ble_eq_true rfl⟩) (kpe_V hK hP hD hTB hTX hX hbl hbA hAO hS hA (kpe_rc hK hP dk_7.o rfl)) rfl rfl hl.1 rfl (lv_room (Nat.le_of_ble_eq_true rfl)) dX6_place_32 ⟨Nat.le_of_ble_eq_true rfl, Nat.le_of_ble_eq_true rfl⟩) hD hS hA (fun r_8 x_8 H locs hq_8 hP hD hS => ?_)
    obtain ⟨⟨f10, hf10, hr_8⟩, ht_8⟩ := hq_8
    rw [hr_8]
    rw [ht_8] at hP hD
    have dk_9 : DK (pI (pI (pI (pI T d 2 (nI (dr + 1))) d 2 (nI (dr + 1 + 1))) d 2 (nI (dr + 1 + 1 + 1))) d 2 (nI (dr + 1 + 1 + 1 + 1))) d x b Ad (n, na, (upd (upd (upd (upd fF 2 (nI (dr + 1))) 2 (nI (dr + 1 + 1))) 2 (nI (dr + 1 + 1 + 1))) 2 (nI (dr + 1 + 1 + 1 + 1))), fO, fW, fC, fR, fB) := dk_7.num
    refine lv_imul hx hb dX6_place_35 ?_
    rw [show (100 * (nI f10) : Int32) = nI (100 * f10) from pk_mul 100 f10]
    refine lv_istore_n (lv' := [(3, .int (nI (100 * f10))), (2, .int (nI la)), (1, .int (nI k)), (0, .ref d)]) hx hb dX6_place_36 rfl hl (by decide) rfl (fun ls hl => ?_)
    refine lv_sipush (v := 1000) hx hb dX6_place_37 (by decide) ?_
    refine lv_iload_n hx hb dX6_place_40 rfl (lv_at hl 0 rfl) ?_
    refine lv_aload_n hx hb dX6_place_41 rfl (lv_at hl 3 rfl) ?_
    refine lv_sipush (v := 500) hx hb dX6_place_42 (by decide) ?_
    refine kc_i (va_runV (As := [.int 500]) (rest := [.int (nI (100 * f10)), .int 1000]) ⟨hx, hb, hml, hown, htT⟩ (d_draw l D cA _ (PW cA S) b L xs hL (pI (pI (pI (pI T d 2 (nI (dr + 1))) d 2 (nI (dr + 1 + 1))) d 2 (nI (dr + 1 + 1 + 1))) d 2 (nI (dr + 1 + 1 + 1 + 1))) d x Ad n na (upd (upd (upd (upd fF 2 (nI (dr + 1))) 2 (nI (dr + 1 + 1))) 2 (nI (dr + 1 + 1 + 1))) 2 (nI (dr + 1 + 1 + 1 + 1))) fO fW fC fR fB dk_9 (dr + 1 + 1 + 1 + 1) rfl (by omega) (500) (by omega) (by omega)) (cwV 1 htT (kg_V m_ml_X6_60 m_im_X6_draw m_sl_X6_draw m_in_X6 m_cd_X6_draw) rfl rfl rfl (by decide +kernel) ⟨Nat.le_of_ble_eq_true rfl, Nat.le_of_ble_eq_true rfl⟩) (kpe_V hK hP hD hTB hTX hX hbl hbA hAO hS hA (kpe_rc hK hP dk_9.o rfl)) rfl rfl hl.1 rfl (lv_room (Nat.le_of_ble_eq_true rfl)) dX6_place_45 ⟨Nat.le_of_ble_eq_true rfl, Nat.le_of_ble_eq_true rfl⟩) hD hS hA (fun r_10 x_10 H locs hq_10 hP hD hS => ?_)
    obtain ⟨⟨t500, ht500, hr_10⟩, ht_10⟩ := hq_10
    rw [hr_10]
    rw [ht_10] at hP hD
    have dk_11 : DK (pI (pI (pI (pI (pI T d 2 (nI (dr + 1))) d 2 (nI (dr + 1 + 1))) d 2 (nI (dr + 1 + 1 + 1))) d 2 (nI (dr + 1 + 1 + 1 + 1))) d 2 (nI (dr + 1 + 1 + 1 + 1 + 1))) d x b Ad (n, na, (upd (upd (upd (upd (upd fF 2 (nI (dr + 1))) 2 (nI (dr + 1 + 1))) 2 (nI (dr + 1 + 1 + 1))) 2 (nI (dr + 1 + 1 + 1 + 1))) 2 (nI (dr + 1 + 1 + 1 + 1 + 1))), fO, fW, fC, fR, fB) := dk_9.num
    refine lv_iadd hx hb dX6_place_48 ?_
    rw [show ((nI (100 * f10)) + (nI t500) : Int32) = nI ((100 * f10) + t500) from nI_add (100 * f10) t500]
    refine va_mmin hx hb (hml.trans hl.1.symm) hown (htT _ m_ml_X6_85) (htT _ m_st_J9_min_7cf53) (htT _ m_in_Math) (htT _ m_cd_J9_min_7cf53) (Nat.le_of_ble_eq_true rfl) (Nat.le_of_ble_eq_true rfl) (Nat.le_of_ble_eq_true rfl) (Nat.le_of_ble_eq_true rfl) dX6_place_49 ?_
    obtain ⟨tt, ett⟩ : ∃ tt, tt = min 1000 (100 * f10 + t500) := ⟨_, rfl⟩
    rw [show ((if nI (100 * f10 + t500) < (1000 : Int32) then nI (100 * f10 + t500) else 1000) : Int32) = nI tt from (kMin_n (by omega)).trans (congrArg nI ett.symm)]
    have hft : 100 * f10 ≤ tt := by omega
    have htt : tt ≤ 1000 := by omega
    refine lv_istore (lv' := [(4, .int (nI tt)), (3, .int (nI (100 * f10))), (2, .int (nI la)), (1, .int (nI k)), (0, .ref d)]) hx hb dX6_place_52 hl (by decide) rfl (fun ls hl => ?_)
    refine lv_iload_n hx hb dX6_place_54 rfl (lv_at hl 1 rfl) ?_
    refine lv_iload hx hb dX6_place_55 (lv_at hl 0 rfl) ?_
    refine lv_icmp_gt (tgt := 64) hx hb dX6_place_57 (by decide) (fun c_12 => ?_) (fun c_12 => ?_)
    · exact absurd ((nI_ltI (a := tt) (b := 100 * f10) (by omega) (by omega)).mp c_12) (by omega)
    · replace c_12 : ¬ (tt < 100 * f10) := fun h9 => c_12 ((nI_ltI (a := tt) (b := 100 * f10) (by omega) (by omega)).mpr h9)
      refine lv_iconst (v := 1) hx hb dX6_place_60 (by decide) ?_
      refine lv_goto (tgt := 65) hx hb dX6_place_61 (by decide) ?_
      refine lv_istore (lv' := [(5, .int 1), (4, .int (nI tt)), (3, .int (nI (100 * f10))), (2, .int (nI la)), (1, .int (nI k)), (0, .ref d)]) hx hb dX6_place_65 hl (by decide) rfl (fun ls hl => ?_)
      refine lv_iconst (v := 0) hx hb dX6_place_67 (by decide) ?_
      refine lv_istore (lv' := [(6, .int 0), (5, .int 1), (4, .int (nI tt)), (3, .int (nI (100 * f10))), (2, .int (nI la)), (1, .int (nI k)), (0, .ref d)]) hx hb dX6_place_68 hl (by decide) rfl (fun ls hl => ?_)
      refine kz_loop 70 (fun N9 H locs ls => ∃ (o : Nat) (mm : Nat), N9 = n - o ∧ o ≤ n ∧ mm ≤ 1 ∧ (mm = 1 ↔ ∀ z, z < o → z ≠ k → M.2 12 z = nI la → ∀ bb : Nat, ¬ (100 * f10 ≤ bb ∧ bb < tt ∧ nv (M.2 13 z) ≤ bb ∧ bb < nv (M.2 14 z))) ∧ va_P D vwCl (PW cA (pI (pI (pI (pI (pI T d 2 (nI (dr + 1))) d 2 (nI (dr + 1 + 1))) d 2 (nI (dr + 1 + 1 + 1))) d 2 (nI (dr + 1 + 1 + 1 + 1))) d 2 (nI (dr + 1 + 1 + 1 + 1 + 1))) ++ PW cA S) H ∧ va_D A (PW cA (pI (pI (pI (pI (pI T d 2 (nI (dr + 1))) d 2 (nI (dr + 1 + 1))) d 2 (nI (dr + 1 + 1 + 1))) d 2 (nI (dr + 1 + 1 + 1 + 1))) d 2 (nI (dr + 1 + 1 + 1 + 1 + 1))) ++ PW cA S) ∧ va_S A s.heap H locs ∧ lv_has ls 8 [(6, .int (nI o)), (5, .int (nI mm)), (0, .ref d), (1, .int (nI k)), (2, .int (nI la)), (3, .int (nI (100 * f10))), (4, .int (nI tt))]) (fun N9 ih_70 H locs ls hI => ?_) ⟨0, 1, rfl, Nat.zero_le _, (by decide), ⟨fun _ z hz => absurd hz (Nat.not_lt_zero _), fun _ => rfl⟩, hP, hD, hS, lv_sub hl [0, 1, 6, 5, 4, 3, 2] rfl⟩
      obtain ⟨o, mm, hn9, ho9, hmm, hmi, hP, hD, hS, hl⟩ := hI
      refine lv_iload hx hb dX6_place_70 (lv_at hl 0 rfl) ?_
      refine lv_aload_n hx hb dX6_place_72 rfl (lv_at hl 2 rfl) ?_
      refine kd_getiv (x := nI n) hx hb htT m_u_X6 hown hK hP dk_11.o rfl 5 (by decide) (by decide) rfl (htT _ m_fl_X6_57) ((dk_11.f 5).trans ((show _ = fF 5 from rfl).trans oF5)) dX6_place_73 ?_
      refine lv_icmp_ge (tgt := 168) hx hb dX6_place_76 (by decide) (fun c_13 => ?_) (fun c_13 => ?_)
      · replace c_13 := (nI_leI (a := n) (b := o) (by omega) (by omega)).mp c_13
        refine lv_aload_n hx hb dX6_place_168 rfl (lv_at hl 2 rfl) ?_
        refine kd_gets (r := (aO Ad)) hx hb htT m_u_X6 hown hK hP dk_11.o rfl 6 (by decide) (by decide) rfl dk_11.q6 (htT _ m_fl_X6_18) dX6_place_169 ?_
        refine lv_iload_n hx hb dX6_place_172 rfl (lv_at hl 3 rfl) ?_
        refine ky_alda (r := some (aOk Ad k)) hx hb hK hP dk_11.ao (show vp_in (nI (k)) 8 from ki_in (by omega) (by omega)) ((congrArg _ (ki_cl (n := k) (by omega))).trans (dk_11.op (k := k) (show k < n by omega))) dX6_place_173 ?_
        refine lv_bipush (v := 7) hx hb dX6_place_174 (by decide) ?_
        refine kx_ialdv (x := M.2 12 k) hx hb hK (kmy_P hP) (dk_11.oa (k := k) (show k < n by omega)) (Nat.le_of_ble_eq_true rfl) (Nat.le_of_ble_eq_true rfl) (show vp_in 7 12 from ki_in (n := 7) (by omega) (by omega)) ((congrArg _ (ki_cl (n := 7) (by omega))).trans ((dk_11.ov (k := k) (j := 7) (show k < n by omega) (show 7 < 12 by omega)).trans ((hvm.o hk (q := (7, 12)) (by decide))))) dX6_place_176 ?_
        refine lv_istore (lv' := [(6, .int (M.2 12 k)), (5, .int (nI mm)), (0, .ref d), (1, .int (nI k)), (2, .int (nI la)), (3, .int (nI (100 * f10))), (4, .int (nI tt))]) hx hb dX6_place_177 hl (by decide) rfl (fun ls hl => ?_)
        have hon : o = n := by omega
        rcases (show mm = 0 ∨ mm = 1 by omega) with hm0 | hm1
        · subst hm0
          refine lv_aload_n hx hb dX6_place_179 rfl (lv_at hl 2 rfl) ?_
          refine kd_gets (r := x) hx hb htT m_u_X6 hown hK hP dk_11.o rfl 0 (by decide) (by decide) rfl dk_11.q0 (htT _ m_fl_X6_10) dX6_place_180 ?_
          refine lv_iload_n hx hb dX6_place_183 rfl (lv_at hl 3 rfl) ?_
          refine lv_iload_n hx hb dX6_place_184 rfl (lv_at hl 4 rfl) ?_
          refine lv_iload_n hx hb dX6_place_185 rfl (lv_at hl 5 rfl) ?_
          refine lv_iload hx hb dX6_place_186 (lv_at hl 6 rfl) ?_
          have htk : ¬ cTak S ar (nI k) (nI la) (nI (100 * f10)) (nI tt) 8 0 = 0 := fun e9 => absurd (hmi.mpr (fun z hz hne => (rTak_iff (T := M.2) (i := k) (la := la) (f := 100 * f10) (t := tt) (n := n) (by omega) htt (fun z hz => (hMl z hz).2) n 0 (by omega)).mp ((tak_eq gg.l gg.c hk).symm.trans e9) z (Nat.zero_le _) (by omega) hne)) (by decide)
          refine kj_t List.perm_append_comm (vx_runV (As := [.int (nI k), .int (nI la), .int (nI (100 * f10)), .int (nI tt)]) (rest := []) ⟨hx, hb, hml, hown, htT⟩ (c_place_t2 l hst D cA _ S x gg.c.hx ar gg.c.q0 ak gg.c.q1 gg.c.kk gg.c.R k q8_k a_k ja_k (nI k) sw_k (nI la) (nI (100 * f10)) (nI tt) (nI_m1 (by omega)) (kRng_ok (by omega) hft htt) htk) (cwV 4 htT (kg_V m_ml_X6_90 m_im_X5_place m_sl_X5_place m_in_X5 m_cd_X5_place) rfl rfl rfl (by decide +kernel) ⟨Nat.le_of_ble_eq_true rfl, Nat.le_of_ble_eq_true rfl⟩) (kn_VX hK hP hD hTB hTX hS hA gg.c.hx (Nat.le_of_ble_eq_true rfl) rfl) rfl rfl hl.1 rfl (lv_room (Nat.le_of_ble_eq_true rfl)) dX6_place_188 ⟨Nat.le_of_ble_eq_true rfl, Nat.le_of_ble_eq_true rfl⟩) hP hD hS hA (fun ce q9 H locs hP hD hS hce hcv hcl => ?_)
          have hP := kj_P List.perm_append_comm hP
          have hD := kj_D List.perm_append_comm hD
          refine vx_catch hown [] ⟨179, 202, 236, 94⟩ [⟨203, 235, 236, 94⟩] (hTab.trans rfl) (fun z hz => nomatch hz) rfl (by decide) (htT _ m_cl_X6_94) (hTB.use (n_ca _ (by decide))) hce hcv hcl ?_
          refine lv_astore (lv' := [(7, .ref q9), (6, .int (M.2 12 k)), (5, .int 0), (0, .ref d), (1, .int (nI k)), (2, .int (nI la)), (3, .int (nI (100 * f10))), (4, .int (nI tt))]) hx hb dX6_place_236 hl (by decide) rfl (fun ls hl => ?_)
          refine lv_iload hx hb dX6_place_238 (lv_at hl 2 rfl) ?_
          refine lv_if_ne (tgt := 247) hx hb dX6_place_240 (by decide) (fun c_14 => absurd c_14 (by decide)) (fun _ => ?_)
          refine lv_iconst (v := 1) hx hb dX6_place_243 (by decide) ?_
          refine lv_goto (tgt := 248) hx hb dX6_place_244 (by decide) ?_
          exact W.zret (v := 1) hx hb hr (rfl) (fun t ht hW => ⟨⟨1, (pI (pI (pI (pI (pI T d 2 (nI (dr + 1))) d 2 (nI (dr + 1 + 1))) d 2 (nI (dr + 1 + 1 + 1))) d 2 (nI (dr + 1 + 1 + 1 + 1))) d 2 (nI (dr + 1 + 1 + 1 + 1 + 1)), S), rfl, ⟨rfl, n, na, dr + 1 + 1 + 1 + 1 + 1, cM, sB, _, _, _, _, _, _, _, M, by omega, by omega, by omega, by omega, dk_11, (((((hvm.draw (d2 := dr + 1)).draw (d2 := dr + 1 + 1)).draw (d2 := dr + 1 + 1 + 1)).draw (d2 := dr + 1 + 1 + 1 + 1)).draw (d2 := dr + 1 + 1 + 1 + 1 + 1)), gg, hM⟩, by rw [ht]; exact hP, va_K.moved hW.alike hK, hD⟩, hS.F ht⟩) hS.2.2 dX6_place_248
        · subst hm1
          refine lv_aload_n hx hb dX6_place_179 rfl (lv_at hl 2 rfl) ?_
          refine kd_gets (r := x) hx hb htT m_u_X6 hown hK hP dk_11.o rfl 0 (by decide) (by decide) rfl dk_11.q0 (htT _ m_fl_X6_10) dX6_place_180 ?_
          refine lv_iload_n hx hb dX6_place_183 rfl (lv_at hl 3 rfl) ?_
          refine lv_iload_n hx hb dX6_place_184 rfl (lv_at hl 4 rfl) ?_
          refine lv_iload_n hx hb dX6_place_185 rfl (lv_at hl 5 rfl) ?_
          refine lv_iload hx hb dX6_place_186 (lv_at hl 6 rfl) ?_
          have htk : cTak S ar (nI k) (nI la) (nI (100 * f10)) (nI tt) 8 0 = 0 := (tak_eq gg.l gg.c hk).trans ((rTak_iff (T := M.2) (i := k) (la := la) (f := 100 * f10) (t := tt) (n := n) (by omega) htt (fun z hz => (hMl z hz).2) n 0 (by omega)).mpr (fun z _ hz hne => hmi.mp rfl z (by omega) hne))
          refine kn_i (va_runV (As := [.int (nI k), .int (nI la), .int (nI (100 * f10)), .int (nI tt)]) (rest := []) ⟨hx, hb, hml, hown, htT⟩ (c_place l D cA _ S x gg.c.hx ar gg.c.q0 ak gg.c.q1 gg.c.kk gg.c.R k q8_k a_k ja_k (nI k) sw_k (nI la) (nI (100 * f10)) (nI tt) (nI_m1 (by omega)) (kRng_ok (by omega) hft htt) htk) (cwV 4 htT (kg_V m_ml_X6_90 m_im_X5_place m_sl_X5_place m_in_X5 m_cd_X5_place) rfl rfl rfl (by decide +kernel) ⟨Nat.le_of_ble_eq_true rfl, Nat.le_of_ble_eq_true rfl⟩) (kn_V hK hP hD hTB gg.c.hx (Nat.le_of_ble_eq_true rfl) rfl) rfl rfl hl.1 rfl (lv_room (Nat.le_of_ble_eq_true rfl)) dX6_place_188 ⟨Nat.le_of_ble_eq_true rfl, Nat.le_of_ble_eq_true rfl⟩) hP hD hS hA (fun r_15 x_15 H locs hq_15 hP hD hS => ?_)
          rw [hq_15.1.trans (gg.l.rn hk ja_k (q := (13, 12)) (by decide))]
          have gg2 : GG n na x_15 (mR (mR (mR M 12 k (nI la)) 13 k (nI (100 * f10))) 14 k (nI tt)) x ar ak := by rw [hq_15.2]; exact gg.place hk ja_k ⟨tt, htt, rfl⟩
          refine lv_iload hx hb dX6_place_191 (lv_at hl 0 rfl) ?_
          refine lv_icmp_ne (tgt := 201) hx hb dX6_place_193 (by decide) (fun c_16 => ?_) (fun c_16 => ?_)
          · exact absurd rfl c_16
          · refine lv_iload hx hb dX6_place_196 (lv_at hl 1 rfl) ?_
            refine lv_if_ne (tgt := 203) hx hb dX6_place_198 (by decide) (fun _ => ?_) (fun c_17 => absurd c_17 (by decide))
            refine lv_aload_n hx hb dX6_place_203 rfl (lv_at hl 2 rfl) ?_
            refine kd_gets (r := (aO Ad)) hx hb htT m_u_X6 hown hK hP dk_11.o rfl 6 (by decide) (by decide) rfl dk_11.q6 (htT _ m_fl_X6_18) dX6_place_204 ?_
            refine lv_iload_n hx hb dX6_place_207 rfl (lv_at hl 3 rfl) ?_
            refine ky_alda (r := some (aOk Ad k)) hx hb hK hP dk_11.ao (show vp_in (nI (k)) 8 from ki_in (by omega) (by omega)) ((congrArg _ (ki_cl (n := k) (by omega))).trans (dk_11.op (k := k) (show k < n by omega))) dX6_place_208 ?_
            refine lv_bipush (v := 7) hx hb dX6_place_209 (by decide) ?_
            refine lv_iload_n hx hb dX6_place_211 rfl (lv_at hl 4 rfl) ?_
            refine ky_iastv hx hb hK hP hD hS (dk_11.oa (k := k) (show k < n by omega)) (Nat.le_of_ble_eq_true rfl) (Nat.le_of_ble_eq_true rfl) (show vp_in 7 12 from ki_in (n := 7) (by omega) (by omega)) (ki_cl (n := 7) (by omega)) dX6_place_212 (fun H locs hP hD hS => ?_)
            have dk_18 : DK (pR (pI (pI (pI (pI (pI T d 2 (nI (dr + 1))) d 2 (nI (dr + 1 + 1))) d 2 (nI (dr + 1 + 1 + 1))) d 2 (nI (dr + 1 + 1 + 1 + 1))) d 2 (nI (dr + 1 + 1 + 1 + 1 + 1))) (aOk Ad k) 7 (nI la)) d x b Ad (n, na, (upd (upd (upd (upd (upd fF 2 (nI (dr + 1))) 2 (nI (dr + 1 + 1))) 2 (nI (dr + 1 + 1 + 1))) 2 (nI (dr + 1 + 1 + 1 + 1))) 2 (nI (dr + 1 + 1 + 1 + 1 + 1))), (u2 fO k 7 (nI la)), fW, fC, fR, fB) := dk_11.one (show k < n by omega)
            refine lv_aload_n hx hb dX6_place_213 rfl (lv_at hl 2 rfl) ?_
            refine kd_gets (r := (aO Ad)) hx hb htT m_u_X6 hown hK hP dk_18.o rfl 6 (by decide) (by decide) rfl dk_18.q6 (htT _ m_fl_X6_18) dX6_place_214 ?_
            refine lv_iload_n hx hb dX6_place_217 rfl (lv_at hl 3 rfl) ?_
            refine ky_alda (r := some (aOk Ad k)) hx hb hK hP dk_18.ao (show vp_in (nI (k)) 8 from ki_in (by omega) (by omega)) ((congrArg _ (ki_cl (n := k) (by omega))).trans (dk_18.op (k := k) (show k < n by omega))) dX6_place_218 ?_
            refine lv_bipush (v := 8) hx hb dX6_place_219 (by decide) ?_
            refine lv_iload_n hx hb dX6_place_221 rfl (lv_at hl 5 rfl) ?_
            refine ky_iastv hx hb hK hP hD hS (dk_18.oa (k := k) (show k < n by omega)) (Nat.le_of_ble_eq_true rfl) (Nat.le_of_ble_eq_true rfl) (show vp_in 8 12 from ki_in (n := 8) (by omega) (by omega)) (ki_cl (n := 8) (by omega)) dX6_place_222 (fun H locs hP hD hS => ?_)
            have dk_19 : DK (pR (pR (pI (pI (pI (pI (pI T d 2 (nI (dr + 1))) d 2 (nI (dr + 1 + 1))) d 2 (nI (dr + 1 + 1 + 1))) d 2 (nI (dr + 1 + 1 + 1 + 1))) d 2 (nI (dr + 1 + 1 + 1 + 1 + 1))) (aOk Ad k) 7 (nI la)) (aOk Ad k) 8 (nI (100 * f10))) d x b Ad (n, na, (upd (upd (upd (upd (upd fF 2 (nI (dr + 1))) 2 (nI (dr + 1 + 1))) 2 (nI (dr + 1 + 1 + 1))) 2 (nI (dr + 1 + 1 + 1 + 1))) 2 (nI (dr + 1 + 1 + 1 + 1 + 1))), (u2 (u2 fO k 7 (nI la)) k 8 (nI (100 * f10))), fW, fC, fR, fB) := dk_18.one (show k < n by omega)
            refine lv_aload_n hx hb dX6_place_223 rfl (lv_at hl 2 rfl) ?_
            refine kd_gets (r := (aO Ad)) hx hb htT m_u_X6 hown hK hP dk_19.o rfl 6 (by decide) (by decide) rfl dk_19.q6 (htT _ m_fl_X6_18) dX6_place_224 ?_
            refine lv_iload_n hx hb dX6_place_227 rfl (lv_at hl 3 rfl) ?_
            refine ky_alda (r := some (aOk Ad k)) hx hb hK hP dk_19.ao (show vp_in (nI (k)) 8 from ki_in (by omega) (by omega)) ((congrArg _ (ki_cl (n := k) (by omega))).trans (dk_19.op (k := k) (show k < n by omega))) dX6_place_228 ?_
            refine lv_bipush (v := 9) hx hb dX6_place_229 (by decide) ?_
            refine lv_iload hx hb dX6_place_231 (lv_at hl 6 rfl) ?_
            refine ky_iastv hx hb hK hP hD hS (dk_19.oa (k := k) (show k < n by omega)) (Nat.le_of_ble_eq_true rfl) (Nat.le_of_ble_eq_true rfl) (show vp_in 9 12 from ki_in (n := 9) (by omega) (by omega)) (ki_cl (n := 9) (by omega)) dX6_place_233 (fun H locs hP hD hS => ?_)
            have dk_20 : DK (pR (pR (pR (pI (pI (pI (pI (pI T d 2 (nI (dr + 1))) d 2 (nI (dr + 1 + 1))) d 2 (nI (dr + 1 + 1 + 1))) d 2 (nI (dr + 1 + 1 + 1 + 1))) d 2 (nI (dr + 1 + 1 + 1 + 1 + 1))) (aOk Ad k) 7 (nI la)) (aOk Ad k) 8 (nI (100 * f10))) (aOk Ad k) 9 (nI tt)) d x b Ad (n, na, (upd (upd (upd (upd (upd fF 2 (nI (dr + 1))) 2 (nI (dr + 1 + 1))) 2 (nI (dr + 1 + 1 + 1))) 2 (nI (dr + 1 + 1 + 1 + 1))) 2 (nI (dr + 1 + 1 + 1 + 1 + 1))), (u2 (u2 (u2 fO k 7 (nI la)) k 8 (nI (100 * f10))) k 9 (nI tt)), fW, fC, fR, fB) := dk_19.one (show k < n by omega)
            refine lv_iconst (v := 1) hx hb dX6_place_234 (by decide) ?_
            refine W.widen (k := 1) (n := 6) (Nat.le_of_ble_eq_true rfl) (Nat.le_of_ble_eq_true rfl) ?_
            exact W.zret (v := 1) hx hb hr (rfl) (fun t ht hW => ⟨⟨1, (pR (pR (pR (pI (pI (pI (pI (pI T d 2 (nI (dr + 1))) d 2 (nI (dr + 1 + 1))) d 2 (nI (dr + 1 + 1 + 1))) d 2 (nI (dr + 1 + 1 + 1 + 1))) d 2 (nI (dr + 1 + 1 + 1 + 1 + 1))) (aOk Ad k) 7 (nI la)) (aOk Ad k) 8 (nI (100 * f10))) (aOk Ad k) 9 (nI tt), x_15), rfl, ⟨rfl, n, na, dr + 1 + 1 + 1 + 1 + 1, cM, sB, _, _, _, _, _, _, _, (mR (mR (mR M 12 k (nI la)) 13 k (nI (100 * f10))) 14 k (nI tt)), by omega, by omega, by omega, by omega, dk_20, ((((((hvm.draw (d2 := dr + 1)).draw (d2 := dr + 1 + 1)).draw (d2 := dr + 1 + 1 + 1)).draw (d2 := dr + 1 + 1 + 1 + 1)).draw (d2 := dr + 1 + 1 + 1 + 1 + 1)).place (k := k) (la := (nI la)) (f := nI (100 * f10)) (t := nI tt) (fun _ => ⟨rfl, rfl⟩)), gg2, (hM.place (Or.inr ⟨la, by omega, rfl⟩) ⟨100 * f10, by omega, rfl⟩ ⟨tt, htt, rfl⟩ (fun _ z hz hne hla bb hb9 => hmi.mp rfl z (by omega) hne hla bb (by rw [nv_nI (by omega), nv_nI (by omega)] at hb9; exact hb9)))⟩, by rw [ht]; exact hP, va_K.moved hW.alike hK, hD⟩, hS.F ht⟩) hS.2.2 dX6_place_235
      · replace c_13 : ¬ n ≤ o := fun h9 => c_13 ((nI_leI (a := n) (b := o) (by omega) (by omega)).mpr h9)
        have hon : o < n := by omega
        refine lv_iload_n hx hb dX6_place_79 rfl (lv_at hl 4 rfl) ?_
        refine lv_if_lt (tgt := 168) hx hb dX6_place_80 (by decide) (fun c_21 => ?_) (fun c_21 => ?_)
        · exact absurd ((nI_ltI (a := la) (b := 0) (by omega) (by omega)).mp c_21) (by omega)
        · replace c_21 : ¬ (la < 0) := fun h9 => c_21 ((nI_ltI (a := la) (b := 0) (by omega) (by omega)).mpr h9)
          refine lv_iload hx hb dX6_place_83 (lv_at hl 0 rfl) ?_
          refine lv_iload_n hx hb dX6_place_85 rfl (lv_at hl 3 rfl) ?_
          refine lv_icmp_eq (tgt := 162) hx hb dX6_place_86 (by decide) (fun c_22 => ?_) (fun c_22 => ?_)
          · replace c_22 := (nI_eq (a := o) (b := k) (by omega) (by omega)).mp c_22
            refine lv_iinc (v := nI (o + 1)) (lv' := [(6, .int (nI (o + 1))), (5, .int (nI mm)), (0, .ref d), (1, .int (nI k)), (2, .int (nI la)), (3, .int (nI (100 * f10))), (4, .int (nI tt))]) hx hb dX6_place_162 hl (k := 0) rfl (nI_1 _) (by decide) rfl (fun ls hl => ?_)
            refine lv_goto (tgt := 70) hx hb dX6_place_165 (by decide) ?_
            have hl := lv_sub hl [0, 1, 2, 3, 4, 5, 6] rfl
            exact ih_70 _ (by omega) H locs ls ⟨o + 1, mm, rfl, (by omega), (by omega), ⟨fun e9 z hz hne => hmi.mp e9 z (by omega) hne, fun e9 => hmi.mpr (fun z hz hne => e9 z (by omega) hne)⟩, hP, hD, hS, hl⟩
          · have hok9 : o ≠ k := fun h9 => c_22 ((nI_eq (a := o) (b := k) (by omega) (by omega)).mpr h9)
            refine lv_aload_n hx hb dX6_place_89 rfl (lv_at hl 2 rfl) ?_
            refine kd_gets (r := (aO Ad)) hx hb htT m_u_X6 hown hK hP dk_11.o rfl 6 (by decide) (by decide) rfl dk_11.q6 (htT _ m_fl_X6_18) dX6_place_90 ?_
            refine lv_iload hx hb dX6_place_93 (lv_at hl 0 rfl) ?_
            refine ky_alda (r := some (aOk Ad o)) hx hb hK hP dk_11.ao (show vp_in (nI (o)) 8 from ki_in (by omega) (by omega)) ((congrArg _ (ki_cl (n := o) (by omega))).trans (dk_11.op (k := o) (show o < n by omega))) dX6_place_95 ?_
            refine lv_bipush (v := 7) hx hb dX6_place_96 (by decide) ?_
            refine kx_ialdv (x := M.2 12 o) hx hb hK (kmy_P hP) (dk_11.oa (k := o) (show o < n by omega)) (Nat.le_of_ble_eq_true rfl) (Nat.le_of_ble_eq_true rfl) (show vp_in 7 12 from ki_in (n := 7) (by omega) (by omega)) ((congrArg _ (ki_cl (n := 7) (by omega))).trans ((dk_11.ov (k := o) (j := 7) (show o < n by omega) (show 7 < 12 by omega)).trans ((hvm.o hon (q := (7, 12)) (by decide))))) dX6_place_98 ?_
            refine lv_iload_n hx hb dX6_place_99 rfl (lv_at hl 4 rfl) ?_
            refine lv_icmp_eq (tgt := 106) hx hb dX6_place_100 (by decide) (fun c_23 => ?_) (fun c_23 => ?_)
            · have hol9 : M.2 12 o = nI la := c_23
              have hne9 : M.2 12 o ≠ -1 := fun e9 => nI_m1 (a := la) (by omega) (hol9.symm.trans e9)
              obtain ⟨-, ⟨fo, hfo, efo⟩, ⟨to, hto, eto⟩⟩ := hMl o hon
              have nvf : nv (M.2 13 o) = fo := by rw [efo]; exact nv_nI (by omega)
              have nvt : nv (M.2 14 o) = to := by rw [eto]; exact nv_nI (by omega)
              have oo8 : fO o 8 = nI fo := (hvm.2.1.2 o hon hne9).1.trans efo
              have oo9 : fO o 9 = nI to := (hvm.2.1.2 o hon hne9).2.trans eto
              refine lv_iload_n hx hb dX6_place_106 rfl (lv_at hl 5 rfl) ?_
              refine lv_istore (lv' := [(7, .int (nI (100 * f10))), (6, .int (nI o)), (5, .int (nI mm)), (0, .ref d), (1, .int (nI k)), (2, .int (nI la)), (3, .int (nI (100 * f10))), (4, .int (nI tt))]) hx hb dX6_place_107 hl (by decide) rfl (fun ls hl => ?_)
              refine kz_loop 109 (fun N9 H locs ls => ∃ (bb : Nat) (m2 : Nat), N9 = tt - bb ∧ 100 * f10 ≤ bb ∧ bb ≤ tt ∧ m2 ≤ 1 ∧ (m2 = 1 ↔ mm = 1 ∧ ∀ z, 100 * f10 ≤ z → z < bb → ¬ (nv (M.2 13 o) ≤ z ∧ z < nv (M.2 14 o))) ∧ va_P D vwCl (PW cA (pI (pI (pI (pI (pI T d 2 (nI (dr + 1))) d 2 (nI (dr + 1 + 1))) d 2 (nI (dr + 1 + 1 + 1))) d 2 (nI (dr + 1 + 1 + 1 + 1))) d 2 (nI (dr + 1 + 1 + 1 + 1 + 1))) ++ PW cA S) H ∧ va_D A (PW cA (pI (pI (pI (pI (pI T d 2 (nI (dr + 1))) d 2 (nI (dr + 1 + 1))) d 2 (nI (dr + 1 + 1 + 1))) d 2 (nI (dr + 1 + 1 + 1 + 1))) d 2 (nI (dr + 1 + 1 + 1 + 1 + 1))) ++ PW cA S) ∧ va_S A s.heap H locs ∧ lv_has ls 8 [(7, .int (nI bb)), (6, .int (nI o)), (5, .int (nI m2)), (0, .ref d), (1, .int (nI k)), (2, .int (nI la)), (3, .int (nI (100 * f10))), (4, .int (nI tt))]) (fun N9 ih_109 H locs ls hI => ?_) ⟨100 * f10, mm, rfl, Nat.le_refl _, hft, hmm, ⟨fun e9 => ⟨e9, fun z hz1 hz2 => absurd hz1 (by omega)⟩, fun e9 => e9.1⟩, hP, hD, hS, lv_sub hl [0, 1, 2, 3, 4, 5, 6, 7] rfl⟩
              obtain ⟨bb, m2, hn9, hb1, hb2, hm2, hm2i, hP, hD, hS, hl⟩ := hI
              refine lv_iload hx hb dX6_place_109 (lv_at hl 0 rfl) ?_
              refine lv_iload hx hb dX6_place_111 (lv_at hl 7 rfl) ?_
              refine lv_icmp_ge (tgt := 162) hx hb dX6_place_113 (by decide) (fun c_24 => ?_) (fun c_24 => ?_)
              · replace c_24 := (nI_leI (a := tt) (b := bb) (by omega) (by omega)).mp c_24
                refine lv_iinc (v := nI (o + 1)) (lv' := [(6, .int (nI (o + 1))), (7, .int (nI bb)), (5, .int (nI m2)), (0, .ref d), (1, .int (nI k)), (2, .int (nI la)), (3, .int (nI (100 * f10))), (4, .int (nI tt))]) hx hb dX6_place_162 hl (k := 1) rfl (nI_1 _) (by decide) rfl (fun ls hl => ?_)
                refine lv_goto (tgt := 70) hx hb dX6_place_165 (by decide) ?_
                have hl := lv_sub hl [0, 2, 3, 4, 5, 6, 7] rfl
                exact ih_70 _ (by omega) H locs ls ⟨o + 1, m2, rfl, (by omega), (by omega), ⟨fun e9 z hz hne hla => (Nat.lt_or_ge z o).elim (fun h9 => hmi.mp (hm2i.mp e9).1 z h9 hne hla) (fun h9 bb hb9 => (hm2i.mp e9).2 bb hb9.1 (by omega) (by rw [show o = z by omega]; exact ⟨hb9.2.2.1, hb9.2.2.2⟩)), fun e9 => hm2i.mpr ⟨hmi.mpr (fun z hz hne => e9 z (by omega) hne), fun z hz1 hz2 hz3 => e9 o (by omega) hok9 hol9 z ⟨hz1, by omega, hz3.1, hz3.2⟩⟩⟩, hP, hD, hS, hl⟩
              · replace c_24 : ¬ (tt ≤ bb) := fun h9 => c_24 ((nI_leI (a := tt) (b := bb) (by omega) (by omega)).mpr h9)
                refine lv_iload hx hb dX6_place_116 (lv_at hl 2 rfl) ?_
                refine lv_iload hx hb dX6_place_118 (lv_at hl 0 rfl) ?_
                refine lv_aload_n hx hb dX6_place_120 rfl (lv_at hl 3 rfl) ?_
                refine kd_gets (r := (aO Ad)) hx hb htT m_u_X6 hown hK hP dk_11.o rfl 6 (by decide) (by decide) rfl dk_11.q6 (htT _ m_fl_X6_18) dX6_place_121 ?_
                refine lv_iload hx hb dX6_place_124 (lv_at hl 1 rfl) ?_
                refine ky_alda (r := some (aOk Ad o)) hx hb hK hP dk_11.ao (show vp_in (nI (o)) 8 from ki_in (by omega) (by omega)) ((congrArg _ (ki_cl (n := o) (by omega))).trans (dk_11.op (k := o) (show o < n by omega))) dX6_place_126 ?_
                refine lv_bipush (v := 8) hx hb dX6_place_127 (by decide) ?_
                refine kx_ialdv (x := nI fo) hx hb hK (kmy_P hP) (dk_11.oa (k := o) (show o < n by omega)) (Nat.le_of_ble_eq_true rfl) (Nat.le_of_ble_eq_true rfl) (show vp_in 8 12 from ki_in (n := 8) (by omega) (by omega)) ((congrArg _ (ki_cl (n := 8) (by omega))).trans ((dk_11.ov (k := o) (j := 8) (show o < n by omega) (show 8 < 12 by omega)).trans (oo8))) dX6_place_129 ?_
                refine lv_icmp_lt (tgt := 148) hx hb dX6_place_130 (by decide) (fun c_25 => ?_) (fun c_25 => ?_)
                · replace c_25 := (nI_ltI (a := bb) (b := fo) (by omega) (by omega)).mp c_25
                  refine lv_iconst (v := 1) hx hb dX6_place_148 (by decide) ?_
                  refine lv_goto (tgt := 153) hx hb dX6_place_149 (by decide) ?_
                  refine lv_iand hx hb dX6_place_153 ?_
                  rw [show ((nI m2) &&& 1 : Int32) = nI m2 from and_1 hm2]
                  refine lv_istore (lv' := [(5, .int (nI m2)), (7, .int (nI bb)), (6, .int (nI o)), (0, .ref d), (1, .int (nI k)), (2, .int (nI la)), (3, .int (nI (100 * f10))), (4, .int (nI tt))]) hx hb dX6_place_154 hl (by decide) rfl (fun ls hl => ?_)
                  refine lv_iinc (v := nI (bb + 1)) (lv' := [(7, .int (nI (bb + 1))), (5, .int (nI m2)), (6, .int (nI o)), (0, .ref d), (1, .int (nI k)), (2, .int (nI la)), (3, .int (nI (100 * f10))), (4, .int (nI tt))]) hx hb dX6_place_156 hl (k := 1) rfl (nI_1 _) (by decide) rfl (fun ls hl => ?_)
                  refine lv_goto (tgt := 109) hx hb dX6_place_159 (by decide) ?_
                  have hl := lv_sub hl [0, 2, 1, 3, 4, 5, 6, 7] rfl
                  exact ih_109 _ (by omega) H locs ls ⟨bb + 1, m2, rfl, (by omega), (by omega), (by omega), ⟨fun e9 => ⟨(hm2i.mp e9).1, fun z hz1 hz2 hz3 => (Nat.lt_or_ge z bb).elim (fun h9 => (hm2i.mp e9).2 z hz1 h9 hz3) (fun h9 => absurd hz3 (by rw [show z = bb by omega, nvf, nvt]; omega))⟩, fun e9 => hm2i.mpr ⟨e9.1, fun z hz1 hz2 => e9.2 z hz1 (by omega)⟩⟩, hP, hD, hS, hl⟩
                · replace c_25 : ¬ (bb < fo) := fun h9 => c_25 ((nI_ltI (a := bb) (b := fo) (by omega) (by omega)).mpr h9)
                  refine lv_iload hx hb dX6_place_133 (lv_at hl 0 rfl) ?_
                  refine lv_aload_n hx hb dX6_place_135 rfl (lv_at hl 3 rfl) ?_
                  refine kd_gets (r := (aO Ad)) hx hb htT m_u_X6 hown hK hP dk_11.o rfl 6 (by decide) (by decide) rfl dk_11.q6 (htT _ m_fl_X6_18) dX6_place_136 ?_
                  refine lv_iload hx hb dX6_place_139 (lv_at hl 1 rfl) ?_
                  refine ky_alda (r := some (aOk Ad o)) hx hb hK hP dk_11.ao (show vp_in (nI (o)) 8 from ki_in (by omega) (by omega)) ((congrArg _ (ki_cl (n := o) (by omega))).trans (dk_11.op (k := o) (show o < n by omega))) dX6_place_141 ?_
                  refine lv_bipush (v := 9) hx hb dX6_place_142 (by decide) ?_
                  refine kx_ialdv (x := nI to) hx hb hK (kmy_P hP) (dk_11.oa (k := o) (show o < n by omega)) (Nat.le_of_ble_eq_true rfl) (Nat.le_of_ble_eq_true rfl) (show vp_in 9 12 from ki_in (n := 9) (by omega) (by omega)) ((congrArg _ (ki_cl (n := 9) (by omega))).trans ((dk_11.ov (k := o) (j := 9) (show o < n by omega) (show 9 < 12 by omega)).trans (oo9))) dX6_place_144 ?_
                  refine lv_icmp_lt (tgt := 152) hx hb dX6_place_145 (by decide) (fun c_26 => ?_) (fun c_26 => ?_)
                  · replace c_26 := (nI_ltI (a := bb) (b := to) (by omega) (by omega)).mp c_26
                    refine lv_iconst (v := 0) hx hb dX6_place_152 (by decide) ?_
                    refine lv_iand hx hb dX6_place_153 ?_
                    rw [show ((nI m2) &&& 0 : Int32) = nI 0 from and_0 hm2]
                    refine lv_istore (lv' := [(5, .int (nI 0)), (7, .int (nI bb)), (6, .int (nI o)), (0, .ref d), (1, .int (nI k)), (2, .int (nI la)), (3, .int (nI (100 * f10))), (4, .int (nI tt))]) hx hb dX6_place_154 hl (by decide) rfl (fun ls hl => ?_)
                    refine lv_iinc (v := nI (bb + 1)) (lv' := [(7, .int (nI (bb + 1))), (5, .int (nI 0)), (6, .int (nI o)), (0, .ref d), (1, .int (nI k)), (2, .int (nI la)), (3, .int (nI (100 * f10))), (4, .int (nI tt))]) hx hb dX6_place_156 hl (k := 1) rfl (nI_1 _) (by decide) rfl (fun ls hl => ?_)
                    refine lv_goto (tgt := 109) hx hb dX6_place_159 (by decide) ?_
                    have hl := lv_sub hl [0, 2, 1, 3, 4, 5, 6, 7] rfl
                    exact ih_109 _ (by omega) H locs ls ⟨bb + 1, 0, rfl, (by omega), (by omega), (by omega), ⟨fun e9 => absurd e9 (by decide), fun e9 => absurd (show nv (M.2 13 o) ≤ bb ∧ bb < nv (M.2 14 o) by rw [nvf, nvt]; omega) (e9.2 bb (by omega) (by omega))⟩, hP, hD, hS, hl⟩
                  · replace c_26 : ¬ (bb < to) := fun h9 => c_26 ((nI_ltI (a := bb) (b := to) (by omega) (by omega)).mpr h9)
                    refine lv_iconst (v := 1) hx hb dX6_place_148 (by decide) ?_
                    refine lv_goto (tgt := 153) hx hb dX6_place_149 (by decide) ?_
                    refine lv_iand hx hb dX6_place_153 ?_
                    rw [show ((nI m2) &&& 1 : Int32) = nI m2 from and_1 hm2]
                    refine lv_istore (lv' := [(5, .int (nI m2)), (7, .int (nI bb)), (6, .int (nI o)), (0, .ref d), (1, .int (nI k)), (2, .int (nI la)), (3, .int (nI (100 * f10))), (4, .int (nI tt))]) hx hb dX6_place_154 hl (by decide) rfl (fun ls hl => ?_)
                    refine lv_iinc (v := nI (bb + 1)) (lv' := [(7, .int (nI (bb + 1))), (5, .int (nI m2)), (6, .int (nI o)), (0, .ref d), (1, .int (nI k)), (2, .int (nI la)), (3, .int (nI (100 * f10))), (4, .int (nI tt))]) hx hb dX6_place_156 hl (k := 1) rfl (nI_1 _) (by decide) rfl (fun ls hl => ?_)
                    refine lv_goto (tgt := 109) hx hb dX6_place_159 (by decide) ?_
                    have hl := lv_sub hl [0, 2, 1, 3, 4, 5, 6, 7] rfl
                    exact ih_109 _ (by omega) H locs ls ⟨bb + 1, m2, rfl, (by omega), (by omega), (by omega), ⟨fun e9 => ⟨(hm2i.mp e9).1, fun z hz1 hz2 hz3 => (Nat.lt_or_ge z bb).elim (fun h9 => (hm2i.mp e9).2 z hz1 h9 hz3) (fun h9 => absurd hz3 (by rw [show z = bb by omega, nvf, nvt]; omega))⟩, fun e9 => hm2i.mpr ⟨e9.1, fun z hz1 hz2 => e9.2 z hz1 (by omega)⟩⟩, hP, hD, hS, hl⟩
            · refine lv_goto (tgt := 162) hx hb dX6_place_103 (by decide) ?_
              refine lv_iinc (v := nI (o + 1)) (lv' := [(6, .int (nI (o + 1))), (5, .int (nI mm)), (0, .ref d), (1, .int (nI k)), (2, .int (nI la)), (3, .int (nI (100 * f10))), (4, .int (nI tt))]) hx hb dX6_place_162 hl (k := 0) rfl (nI_1 _) (by decide) rfl (fun ls hl => ?_)
              refine lv_goto (tgt := 70) hx hb dX6_place_165 (by decide) ?_
              have hl := lv_sub hl [0, 1, 2, 3, 4, 5, 6] rfl
              exact ih_70 _ (by omega) H locs ls ⟨o + 1, mm, rfl, (by omega), (by omega), ⟨fun e9 z hz hne hla => (Nat.lt_or_ge z o).elim (fun h9 => hmi.mp e9 z h9 hne hla) (fun h9 => absurd (show M.2 12 o = nI la by rw [show o = z by omega]; exact hla) c_23), fun e9 => hmi.mpr (fun z hz hne => e9 z (by omega) hne)⟩, hP, hD, hS, hl⟩
  · replace c_5 := (nI_eq (a := w5) (b := 0) (by omega) (by omega)).mp c_5
    refine lv_iconst (v := (-1)) hx hb dX6_place_17 (by decide) ?_
    refine lv_goto (tgt := 26) hx hb dX6_place_18 (by decide) ?_
    refine lv_istore_n (lv' := [(2, .int (-1)), (1, .int (nI k)), (0, .ref d)]) hx hb dX6_place_26 rfl hl (by decide) rfl (fun ls hl => ?_)
    refine lv_bipush (v := 100) hx hb dX6_place_27 (by decide) ?_
    refine lv_aload_n hx hb dX6_place_29 rfl (lv_at hl 2 rfl) ?_
    refine lv_bipush (v := 10) hx hb dX6_place_30 (by decide) ?_
    refine kc_i (va_runV (As := [.int 10]) (rest := [.int 100]) ⟨hx, hb, hml, hown, htT⟩ (d_draw l D cA _ (PW cA S) b L xs hL (pI (pI T d 2 (nI (dr + 1))) d 2 (nI (dr + 1 + 1))) d x Ad n na (upd (upd fF 2 (nI (dr + 1))) 2 (nI (dr + 1 + 1))) fO fW fC fR fB dk_4 (dr + 1 + 1) rfl (by omega) (10) (by omega) (by omega)) (cwV 1 htT (kg_V m_ml_X6_60 m_im_X6_draw m_sl_X6_draw m_in_X6 m_cd_X6_draw) rfl rfl rfl (by decide +kernel) ⟨Nat.le_of_ble_eq_true rfl, Nat.le_of_ble_eq_true rfl⟩) (kpe_V hK hP hD hTB hTX hX hbl hbA hAO hS hA (kpe_rc hK hP dk_4.o rfl)) rfl rfl hl.1 rfl (lv_room (Nat.le_of_ble_eq_true rfl)) dX6_place_32 ⟨Nat.le_of_ble_eq_true rfl, Nat.le_of_ble_eq_true rfl⟩) hD hS hA (fun r_27 x_27 H locs hq_27 hP hD hS => ?_)
    obtain ⟨⟨f10, hf10, hr_27⟩, ht_27⟩ := hq_27
    rw [hr_27]
    rw [ht_27] at hP hD
    have dk_28 : DK (pI (pI (pI T d 2 (nI (dr + 1))) d 2 (nI (dr + 1 + 1))) d 2 (nI (dr + 1 + 1 + 1))) d x b Ad (n, na, (upd (upd (upd fF 2 (nI (dr + 1))) 2 (nI (dr + 1 + 1))) 2 (nI (dr + 1 + 1 + 1))), fO, fW, fC, fR, fB) := dk_4.num
    refine lv_imul hx hb dX6_place_35 ?_
    rw [show (100 * (nI f10) : Int32) = nI (100 * f10) from pk_mul 100 f10]
    refine lv_istore_n (lv' := [(3, .int (nI (100 * f10))), (2, .int (-1)), (1, .int (nI k)), (0, .ref d)]) hx hb dX6_place_36 rfl hl (by decide) rfl (fun ls hl => ?_)
    refine lv_sipush (v := 1000) hx hb dX6_place_37 (by decide) ?_
    refine lv_iload_n hx hb dX6_place_40 rfl (lv_at hl 0 rfl) ?_
    refine lv_aload_n hx hb dX6_place_41 rfl (lv_at hl 3 rfl) ?_
    refine lv_sipush (v := 500) hx hb dX6_place_42 (by decide) ?_
    refine kc_i (va_runV (As := [.int 500]) (rest := [.int (nI (100 * f10)), .int 1000]) ⟨hx, hb, hml, hown, htT⟩ (d_draw l D cA _ (PW cA S) b L xs hL (pI (pI (pI T d 2 (nI (dr + 1))) d 2 (nI (dr + 1 + 1))) d 2 (nI (dr + 1 + 1 + 1))) d x Ad n na (upd (upd (upd fF 2 (nI (dr + 1))) 2 (nI (dr + 1 + 1))) 2 (nI (dr + 1 + 1 + 1))) fO fW fC fR fB dk_28 (dr + 1 + 1 + 1) rfl (by omega) (500) (by omega) (by omega)) (cwV 1 htT (kg_V m_ml_X6_60 m_im_X6_draw m_sl_X6_draw m_in_X6 m_cd_X6_draw) rfl rfl rfl (by decide +kernel) ⟨Nat.le_of_ble_eq_true rfl, Nat.le_of_ble_eq_true rfl⟩) (kpe_V hK hP hD hTB hTX hX hbl hbA hAO hS hA (kpe_rc hK hP dk_28.o rfl)) rfl rfl hl.1 rfl (lv_room (Nat.le_of_ble_eq_true rfl)) dX6_place_45 ⟨Nat.le_of_ble_eq_true rfl, Nat.le_of_ble_eq_true rfl⟩) hD hS hA (fun r_29 x_29 H locs hq_29 hP hD hS => ?_)
    obtain ⟨⟨t500, ht500, hr_29⟩, ht_29⟩ := hq_29
    rw [hr_29]
    rw [ht_29] at hP hD
    have dk_30 : DK (pI (pI (pI (pI T d 2 (nI (dr + 1))) d 2 (nI (dr + 1 + 1))) d 2 (nI (dr + 1 + 1 + 1))) d 2 (nI (dr + 1 + 1 + 1 + 1))) d x b Ad (n, na, (upd (upd (upd (upd fF 2 (nI (dr + 1))) 2 (nI (dr + 1 + 1))) 2 (nI (dr + 1 + 1 + 1))) 2 (nI (dr + 1 + 1 + 1 + 1))), fO, fW, fC, fR, fB) := dk_28.num
    refine lv_iadd hx hb dX6_place_48 ?_
    rw [show ((nI (100 * f10)) + (nI t500) : Int32) = nI ((100 * f10) + t500) from nI_add (100 * f10) t500]
    refine va_mmin hx hb (hml.trans hl.1.symm) hown (htT _ m_ml_X6_85) (htT _ m_st_J9_min_7cf53) (htT _ m_in_Math) (htT _ m_cd_J9_min_7cf53) (Nat.le_of_ble_eq_true rfl) (Nat.le_of_ble_eq_true rfl) (Nat.le_of_ble_eq_true rfl) (Nat.le_of_ble_eq_true rfl) dX6_place_49 ?_
    obtain ⟨tt, ett⟩ : ∃ tt, tt = min 1000 (100 * f10 + t500) := ⟨_, rfl⟩
    rw [show ((if nI (100 * f10 + t500) < (1000 : Int32) then nI (100 * f10 + t500) else 1000) : Int32) = nI tt from (kMin_n (by omega)).trans (congrArg nI ett.symm)]
    have hft : 100 * f10 ≤ tt := by omega
    have htt : tt ≤ 1000 := by omega
    refine lv_istore (lv' := [(4, .int (nI tt)), (3, .int (nI (100 * f10))), (2, .int (-1)), (1, .int (nI k)), (0, .ref d)]) hx hb dX6_place_52 hl (by decide) rfl (fun ls hl => ?_)
    refine lv_iload_n hx hb dX6_place_54 rfl (lv_at hl 1 rfl) ?_
    refine lv_iload hx hb dX6_place_55 (lv_at hl 0 rfl) ?_
    refine lv_icmp_gt (tgt := 64) hx hb dX6_place_57 (by decide) (fun c_31 => ?_) (fun c_31 => ?_)
    · exact absurd ((nI_ltI (a := tt) (b := 100 * f10) (by omega) (by omega)).mp c_31) (by omega)
    · replace c_31 : ¬ (tt < 100 * f10) := fun h9 => c_31 ((nI_ltI (a := tt) (b := 100 * f10) (by omega) (by omega)).mpr h9)
      refine lv_iconst (v := 1) hx hb dX6_place_60 (by decide) ?_
      refine lv_goto (tgt := 65) hx hb dX6_place_61 (by decide) ?_
      refine lv_istore (lv' := [(5, .int 1), (4, .int (nI tt)), (3, .int (nI (100 * f10))), (2, .int (-1)), (1, .int (nI k)), (0, .ref d)]) hx hb dX6_place_65 hl (by decide) rfl (fun ls hl => ?_)
      refine lv_iconst (v := 0) hx hb dX6_place_67 (by decide) ?_
      refine lv_istore (lv' := [(6, .int 0), (5, .int 1), (4, .int (nI tt)), (3, .int (nI (100 * f10))), (2, .int (-1)), (1, .int (nI k)), (0, .ref d)]) hx hb dX6_place_68 hl (by decide) rfl (fun ls hl => ?_)
      refine lv_iload hx hb dX6_place_70 (lv_at hl 0 rfl) ?_
      refine lv_aload_n hx hb dX6_place_72 rfl (lv_at hl 6 rfl) ?_
      refine kd_getiv (x := nI n) hx hb htT m_u_X6 hown hK hP dk_30.o rfl 5 (by decide) (by decide) rfl (htT _ m_fl_X6_57) ((dk_30.f 5).trans ((show _ = fF 5 from rfl).trans oF5)) dX6_place_73 ?_
      refine lv_icmp_ge (tgt := 168) hx hb dX6_place_76 (by decide) (fun c_32 => ?_) (fun c_32 => ?_)
      · exact absurd ((nI_leI (a := n) (b := 0) (by omega) (by omega)).mp c_32) (by omega)
      · refine lv_iload_n hx hb dX6_place_79 rfl (lv_at hl 4 rfl) ?_
        refine lv_if_lt (tgt := 168) hx hb dX6_place_80 (by decide) (fun _ => ?_) (fun c_33 => absurd c_33 (by decide))
        refine lv_aload_n hx hb dX6_place_168 rfl (lv_at hl 6 rfl) ?_
        refine kd_gets (r := (aO Ad)) hx hb htT m_u_X6 hown hK hP dk_30.o rfl 6 (by decide) (by decide) rfl dk_30.q6 (htT _ m_fl_X6_18) dX6_place_169 ?_
        refine lv_iload_n hx hb dX6_place_172 rfl (lv_at hl 5 rfl) ?_
        refine ky_alda (r := some (aOk Ad k)) hx hb hK hP dk_30.ao (show vp_in (nI (k)) 8 from ki_in (by omega) (by omega)) ((congrArg _ (ki_cl (n := k) (by omega))).trans (dk_30.op (k := k) (show k < n by omega))) dX6_place_173 ?_
        refine lv_bipush (v := 7) hx hb dX6_place_174 (by decide) ?_
        refine kx_ialdv (x := M.2 12 k) hx hb hK (kmy_P hP) (dk_30.oa (k := k) (show k < n by omega)) (Nat.le_of_ble_eq_true rfl) (Nat.le_of_ble_eq_true rfl) (show vp_in 7 12 from ki_in (n := 7) (by omega) (by omega)) ((congrArg _ (ki_cl (n := 7) (by omega))).trans ((dk_30.ov (k := k) (j := 7) (show k < n by omega) (show 7 < 12 by omega)).trans ((hvm.o hk (q := (7, 12)) (by decide))))) dX6_place_176 ?_
        refine lv_istore (lv' := [(6, .int (M.2 12 k)), (5, .int 1), (4, .int (nI tt)), (3, .int (nI (100 * f10))), (2, .int (-1)), (1, .int (nI k)), (0, .ref d)]) hx hb dX6_place_177 hl (by decide) rfl (fun ls hl => ?_)
        refine lv_aload_n hx hb dX6_place_179 rfl (lv_at hl 6 rfl) ?_
        refine kd_gets (r := x) hx hb htT m_u_X6 hown hK hP dk_30.o rfl 0 (by decide) (by decide) rfl dk_30.q0 (htT _ m_fl_X6_10) dX6_place_180 ?_
        refine lv_iload_n hx hb dX6_place_183 rfl (lv_at hl 5 rfl) ?_
        refine lv_iload_n hx hb dX6_place_184 rfl (lv_at hl 4 rfl) ?_
        refine lv_iload_n hx hb dX6_place_185 rfl (lv_at hl 3 rfl) ?_
        refine lv_iload hx hb dX6_place_186 (lv_at hl 2 rfl) ?_
        refine kn_i (va_runV (As := [.int (nI k), .int (-1), .int (nI (100 * f10)), .int (nI tt)]) (rest := []) ⟨hx, hb, hml, hown, htT⟩ (c_place_n l D cA _ S x gg.c.hx ar gg.c.q0 ak gg.c.q1 gg.c.kk gg.c.R k q8_k a_k ja_k (nI k) sw_k (nI (100 * f10)) (nI tt)) (cwV 4 htT (kg_V m_ml_X6_90 m_im_X5_place m_sl_X5_place m_in_X5 m_cd_X5_place) rfl rfl rfl (by decide +kernel) ⟨Nat.le_of_ble_eq_true rfl, Nat.le_of_ble_eq_true rfl⟩) (kn_V hK hP hD hTB gg.c.hx (Nat.le_of_ble_eq_true rfl) rfl) rfl rfl hl.1 rfl (lv_room (Nat.le_of_ble_eq_true rfl)) dX6_place_188 ⟨Nat.le_of_ble_eq_true rfl, Nat.le_of_ble_eq_true rfl⟩) hP hD hS hA (fun r_34 x_34 H locs hq_34 hP hD hS => ?_)
        rw [hq_34.1.trans (gg.l.rn hk ja_k (q := (13, 12)) (by decide))]
        have gg2 : GG n na x_34 (mR (mR (mR M 12 k (-1)) 13 k 0) 14 k 0) x ar ak := by rw [hq_34.2]; exact gg.place hk ja_k ⟨0, by omega, rfl⟩
        refine lv_iload hx hb dX6_place_191 (lv_at hl 0 rfl) ?_
        refine lv_icmp_ne (tgt := 201) hx hb dX6_place_193 (by decide) (fun c_35 => ?_) (fun c_35 => ?_)
        · exact absurd rfl c_35
        · refine lv_iload hx hb dX6_place_196 (lv_at hl 1 rfl) ?_
          refine lv_if_ne (tgt := 203) hx hb dX6_place_198 (by decide) (fun _ => ?_) (fun c_36 => absurd c_36 (by decide))
          refine lv_aload_n hx hb dX6_place_203 rfl (lv_at hl 6 rfl) ?_
          refine kd_gets (r := (aO Ad)) hx hb htT m_u_X6 hown hK hP dk_30.o rfl 6 (by decide) (by decide) rfl dk_30.q6 (htT _ m_fl_X6_18) dX6_place_204 ?_
          refine lv_iload_n hx hb dX6_place_207 rfl (lv_at hl 5 rfl) ?_
          refine ky_alda (r := some (aOk Ad k)) hx hb hK hP dk_30.ao (show vp_in (nI (k)) 8 from ki_in (by omega) (by omega)) ((congrArg _ (ki_cl (n := k) (by omega))).trans (dk_30.op (k := k) (show k < n by omega))) dX6_place_208 ?_
          refine lv_bipush (v := 7) hx hb dX6_place_209 (by decide) ?_
          refine lv_iload_n hx hb dX6_place_211 rfl (lv_at hl 4 rfl) ?_
          refine ky_iastv hx hb hK hP hD hS (dk_30.oa (k := k) (show k < n by omega)) (Nat.le_of_ble_eq_true rfl) (Nat.le_of_ble_eq_true rfl) (show vp_in 7 12 from ki_in (n := 7) (by omega) (by omega)) (ki_cl (n := 7) (by omega)) dX6_place_212 (fun H locs hP hD hS => ?_)
          have dk_37 : DK (pR (pI (pI (pI (pI T d 2 (nI (dr + 1))) d 2 (nI (dr + 1 + 1))) d 2 (nI (dr + 1 + 1 + 1))) d 2 (nI (dr + 1 + 1 + 1 + 1))) (aOk Ad k) 7 (-1)) d x b Ad (n, na, (upd (upd (upd (upd fF 2 (nI (dr + 1))) 2 (nI (dr + 1 + 1))) 2 (nI (dr + 1 + 1 + 1))) 2 (nI (dr + 1 + 1 + 1 + 1))), (u2 fO k 7 (-1)), fW, fC, fR, fB) := dk_30.one (show k < n by omega)
          refine lv_aload_n hx hb dX6_place_213 rfl (lv_at hl 6 rfl) ?_
          refine kd_gets (r := (aO Ad)) hx hb htT m_u_X6 hown hK hP dk_37.o rfl 6 (by decide) (by decide) rfl dk_37.q6 (htT _ m_fl_X6_18) dX6_place_214 ?_
          refine lv_iload_n hx hb dX6_place_217 rfl (lv_at hl 5 rfl) ?_
          refine ky_alda (r := some (aOk Ad k)) hx hb hK hP dk_37.ao (show vp_in (nI (k)) 8 from ki_in (by omega) (by omega)) ((congrArg _ (ki_cl (n := k) (by omega))).trans (dk_37.op (k := k) (show k < n by omega))) dX6_place_218 ?_
          refine lv_bipush (v := 8) hx hb dX6_place_219 (by decide) ?_
          refine lv_iload_n hx hb dX6_place_221 rfl (lv_at hl 3 rfl) ?_
          refine ky_iastv hx hb hK hP hD hS (dk_37.oa (k := k) (show k < n by omega)) (Nat.le_of_ble_eq_true rfl) (Nat.le_of_ble_eq_true rfl) (show vp_in 8 12 from ki_in (n := 8) (by omega) (by omega)) (ki_cl (n := 8) (by omega)) dX6_place_222 (fun H locs hP hD hS => ?_)
          have dk_38 : DK (pR (pR (pI (pI (pI (pI T d 2 (nI (dr + 1))) d 2 (nI (dr + 1 + 1))) d 2 (nI (dr + 1 + 1 + 1))) d 2 (nI (dr + 1 + 1 + 1 + 1))) (aOk Ad k) 7 (-1)) (aOk Ad k) 8 (nI (100 * f10))) d x b Ad (n, na, (upd (upd (upd (upd fF 2 (nI (dr + 1))) 2 (nI (dr + 1 + 1))) 2 (nI (dr + 1 + 1 + 1))) 2 (nI (dr + 1 + 1 + 1 + 1))), (u2 (u2 fO k 7 (-1)) k 8 (nI (100 * f10))), fW, fC, fR, fB) := dk_37.one (show k < n by omega)
          refine lv_aload_n hx hb dX6_place_223 rfl (lv_at hl 6 rfl) ?_
          refine kd_gets (r := (aO Ad)) hx hb htT m_u_X6 hown hK hP dk_38.o rfl 6 (by decide) (by decide) rfl dk_38.q6 (htT _ m_fl_X6_18) dX6_place_224 ?_
          refine lv_iload_n hx hb dX6_place_227 rfl (lv_at hl 5 rfl) ?_
          refine ky_alda (r := some (aOk Ad k)) hx hb hK hP dk_38.ao (show vp_in (nI (k)) 8 from ki_in (by omega) (by omega)) ((congrArg _ (ki_cl (n := k) (by omega))).trans (dk_38.op (k := k) (show k < n by omega))) dX6_place_228 ?_
          refine lv_bipush (v := 9) hx hb dX6_place_229 (by decide) ?_
          refine lv_iload hx hb dX6_place_231 (lv_at hl 2 rfl) ?_
          refine ky_iastv hx hb hK hP hD hS (dk_38.oa (k := k) (show k < n by omega)) (Nat.le_of_ble_eq_true rfl) (Nat.le_of_ble_eq_true rfl) (show vp_in 9 12 from ki_in (n := 9) (by omega) (by omega)) (ki_cl (n := 9) (by omega)) dX6_place_233 (fun H locs hP hD hS => ?_)
          have dk_39 : DK (pR (pR (pR (pI (pI (pI (pI T d 2 (nI (dr + 1))) d 2 (nI (dr + 1 + 1))) d 2 (nI (dr + 1 + 1 + 1))) d 2 (nI (dr + 1 + 1 + 1 + 1))) (aOk Ad k) 7 (-1)) (aOk Ad k) 8 (nI (100 * f10))) (aOk Ad k) 9 (nI tt)) d x b Ad (n, na, (upd (upd (upd (upd fF 2 (nI (dr + 1))) 2 (nI (dr + 1 + 1))) 2 (nI (dr + 1 + 1 + 1))) 2 (nI (dr + 1 + 1 + 1 + 1))), (u2 (u2 (u2 fO k 7 (-1)) k 8 (nI (100 * f10))) k 9 (nI tt)), fW, fC, fR, fB) := dk_38.one (show k < n by omega)
          refine lv_iconst (v := 1) hx hb dX6_place_234 (by decide) ?_
          refine W.widen (k := 1) (n := 6) (Nat.le_of_ble_eq_true rfl) (Nat.le_of_ble_eq_true rfl) ?_
          exact W.zret (v := 1) hx hb hr (rfl) (fun t ht hW => ⟨⟨1, (pR (pR (pR (pI (pI (pI (pI T d 2 (nI (dr + 1))) d 2 (nI (dr + 1 + 1))) d 2 (nI (dr + 1 + 1 + 1))) d 2 (nI (dr + 1 + 1 + 1 + 1))) (aOk Ad k) 7 (-1)) (aOk Ad k) 8 (nI (100 * f10))) (aOk Ad k) 9 (nI tt), x_34), rfl, ⟨rfl, n, na, dr + 1 + 1 + 1 + 1, cM, sB, _, _, _, _, _, _, _, (mR (mR (mR M 12 k (-1)) 13 k 0) 14 k 0), by omega, by omega, by omega, by omega, dk_39, (((((hvm.draw (d2 := dr + 1)).draw (d2 := dr + 1 + 1)).draw (d2 := dr + 1 + 1 + 1)).draw (d2 := dr + 1 + 1 + 1 + 1)).place (k := k) (la := (-1)) (f := nI (100 * f10)) (t := nI tt) (f2 := 0) (t2 := 0) (fun h9 => absurd rfl h9)), gg2, (hM.place (Or.inl rfl) nB.z nB.z (fun h9 => absurd rfl h9))⟩, by rw [ht]; exact hP, va_K.moved hW.alike hK, hD⟩, hS.F ht⟩) hS.2.2 dX6_place_235

