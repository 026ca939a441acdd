/-! told: both sides -/
def cTold (S : Pool) (a : Nat) (v : Int32) (q : Nat) : Int32 := if q = 0 then cTal S (tkA S a 0) v else if q = 1 then cTal S (tkA S a 1) v else if q = 2 then cTal S (tkA S a 2) v else (cTalJ S (tkA S a 3) v).toInt32
set_option maxRecDepth 100000 in
set_option maxHeartbeats 4000000 in
/-- told -/
theorem c_toldX (l : Launch) (D : va_G) (cA : Nat → ClassId) (sz : Nat) (S : Pool) (x : Nat) (hx5 : isO S x 5) (ar : Nat) (hq0 : gQ S x 0 = some ar) (ak : Nat) (hq1 : gQ S x 1 = some ak) (hak : isO S ak 1) (hR : okR S ar) (j : Nat) (hj : j < 8) (a : Nat) (hja : gP S ar j = some a) (p0 : Int32) (hsw : kSw S ar p0 = some a) (p1 : Int32) (hv : kOut p1 0 (gI S a 2 - 1) = 0) (q : Nat) (hq : q < 4) : Met l yX5_told (Cond.code yX5_told cX5_told 5 (some .int) :: TT) ({ frames := 2, cells := 0, slots := 0, locals := 43 }) (va_Pc [.ref x, .int p0, .int p1, .int (nI q)] (kPre D cA (PW cA S) sz)) (va_Qi (fun (r_ : Int32) (x_ : Pool) => r_ = cTold S a p1 q ∧ x_ = S) (fun x_ => kB D cA (va_A (PW cA S) sz) (PW cA x_)) (va_A (PW cA S) sz)) 0 0 (va_A (PW cA S) sz) := by
  refine Met.ofW (cc := cX5_told) (maxL := 5) (ret := (some .int)) (by decide) rfl ?_
  intro p e s m args below meth c s₁ B hml hv
  obtain ⟨rfl, hsz, hP, hK, hD0, hTB⟩ := hv
  have hx := B.exec
  have hb := B.bytes
  have hr := B.returns
  have hts := atoms_spec (ws := Cond.code yX5_told cX5_told 5 (some .int) :: TT) B.pre
  have htT : ∀ w ∈ TT, w.before _ s = true := fun w h => hts w (List.mem_cons_of_mem _ h)
  have hown : s.vm.findClass RX5 = some m.cls := findClass_of_methodNamed B.named
  have hlocks := B.notSynchronized
  subst hsz
  have hD := hD0.self (sz := s.heap.size)
  generalize hAe : va_A (PW cA S) s.heap.size = A at hD ⊢
  have hA : ∀ q : Nat, s.heap.size ≤ q → A q := fun q h => by rw [← hAe]; exact Or.inr h
  have hS : va_S A s.heap s.heap [] := va_S.rf
  have hl := lv_entry ([.ref x, .int p0, .int p1, .int (nI q)]) (n := 5) (Nat.le_of_ble_eq_true rfl)
  rw [lg_entry_eq]
  generalize (lg_sl ([.ref x, .int p0, .int p1, .int (nI q)]) ++ List.replicate (5 - (lg_sl ([.ref x, .int p0, .int p1, .int (nI q)])).length) Slot.unset).toArray = ls at hl ⊢
  have hl : lv_has ls 5 [(0, .ref x), (1, .int p0), (2, .int p1), (3, .int (nI q))] := hl
  obtain ⟨-, ⟨wt, hq4, hwt⟩, -, -, ⟨ty, hq6, hty, ⟨t0, hqt0, ht0⟩, ⟨t1, hqt1, ht1⟩, ⟨t2, hqt2, ht2⟩, ⟨t3, hqt3, ht3⟩⟩, -⟩ := (hR.2 j hj a hja).1
  have e0k : tkA S a 0 = t0 := by simp [tkA, tyA, hq6, hqt0]
  have e1k : tkA S a 1 = t1 := by simp [tkA, tyA, hq6, hqt1]
  have e2k : tkA S a 2 = t2 := by simp [tkA, tyA, hq6, hqt2]
  have e3k : tkA S a 3 = t3 := by simp [tkA, tyA, hq6, hqt3]
  have ewk : wtA S a = wt := by simp [wtA, hq4]
  have eyk : tyA S a = ty := by simp [tyA, hq6]
  refine lv_aload_n hx hb dX5_told_0 rfl (lv_at hl 0 rfl) ?_
  refine lv_iload_n hx hb dX5_told_1 rfl (lv_at hl 1 rfl) ?_
  refine kc_q (va_runV (As := [.int p0]) (rest := []) ⟨hx, hb, hml, hown, htT⟩ (c_known l D cA _ S x hx5 ar hq0 hR.1 p0 a hsw) (cwV 1 htT (kg_V m_ml_X5_45 m_im_X5_known m_sl_X5_known m_in_X5 m_cd_X5_known) rfl rfl rfl (by decide +kernel) ⟨Nat.le_of_ble_eq_true rfl, Nat.le_of_ble_eq_true rfl⟩) (kp_V hK hP hD hTB (kp_rc hK hP hx5 (Nat.le_of_ble_eq_true rfl) rfl)) rfl rfl hl.1 rfl (lv_room (Nat.le_of_ble_eq_true rfl)) dX5_told_2 ⟨Nat.le_of_ble_eq_true rfl, Nat.le_of_ble_eq_true rfl⟩) hD hS hA (fun r_1 x_1 H locs hq_1 hP hD hS => ?_)
  rw [hq_1.1]
  rw [hq_1.2] at hP hD
  refine lv_astore (lv' := [(4, .ref a), (0, .ref x), (1, .int p0), (2, .int p1), (3, .int (nI q))]) hx hb dX5_told_5 hl (by decide) rfl (fun ls hl => ?_)
  refine lv_aload hx hb dX5_told_7 (lv_at hl 0 rfl) ?_
  refine lv_iload_n hx hb dX5_told_9 rfl (lv_at hl 3 rfl) ?_
  refine kc_v (va_runS (As := [.ref a, .int p1]) (rest := []) ⟨hx, hb, hml, hown, htT⟩ (c_checkVariant l D cA _ S a (hR.2 j hj a hja).1.1 p1 hv) (cwS 2 htT (kg_S m_ml_X5_49 m_st_X5_checkVariant m_in_X5 m_cd_X5_checkVariant) rfl rfl rfl (by decide +kernel) ⟨Nat.le_of_ble_eq_true rfl, Nat.le_of_ble_eq_true rfl⟩) (kp_S hK hP hD hTB) rfl rfl hl.1 rfl (lv_room (Nat.le_of_ble_eq_true rfl)) dX5_told_10 ⟨Nat.le_of_ble_eq_true rfl, Nat.le_of_ble_eq_true rfl⟩) hD hS hA (fun x_2 H locs hq_2 hP hD hS => ?_)
  rw [hq_2] at hP hD
  refine lv_iload_n hx hb dX5_told_13 rfl (lv_at hl 4 rfl) ?_
  rcases (show q = 0 ∨ q = 1 ∨ q = 2 ∨ q = 3 by omega) with rfl | rfl | rfl | rfl
  · refine lv_tableIn (off := 30) (tgt := 44) hx hb dX5_told_14 (by decide) (by decide) (by decide) (by decide) ?_
    refine lv_aload hx hb dX5_told_44 (lv_at hl 0 rfl) ?_
    refine kx_getsN hx hb htT m_u_X3 hown hK hP ((hR.2 j hj a hja).1.1) (Nat.le_of_ble_eq_true rfl) rfl 6 (by decide) (by decide) rfl hq6 (hTB.use m_fl_X5_188) dX5_told_46 ?_
    refine lv_iload_n hx hb dX5_told_49 rfl (lv_at hl 3 rfl) ?_
    refine kc_i (va_runV (As := [.int p1]) (rest := []) ⟨hx, hb, hml, hown, htT⟩ (c_countOf l D cA _ S ty hty t0 hqt0 ht0 p1) (cwV 1 htT (kg_V m_ml_X5_192 m_im_X4_countOf m_sl_X4_countOf m_in_X4 m_cd_X4_countOf) rfl rfl rfl (by decide +kernel) ⟨Nat.le_of_ble_eq_true rfl, Nat.le_of_ble_eq_true rfl⟩) (kp_V hK hP hD hTB (kp_rc hK hP hty (Nat.le_of_ble_eq_true rfl) rfl)) rfl rfl hl.1 rfl (lv_room (Nat.le_of_ble_eq_true rfl)) dX5_told_50 ⟨Nat.le_of_ble_eq_true rfl, Nat.le_of_ble_eq_true rfl⟩) hD hS hA (fun r_3 x_3 H locs hq_3 hP hD hS => ?_)
    rw [hq_3.2] at hP hD
    exact W.iret (v := r_3) hx hb hr (fun t ht hW => ⟨⟨r_3, S, rfl, ⟨hq_3.1.trans (by rw [← e0k]; rfl), rfl⟩, by rw [ht]; exact hP, va_K.moved hW.alike hK, hD⟩, hS.F ht⟩) hS.2.2 dX5_told_53
  · refine lv_tableIn (off := 40) (tgt := 54) hx hb dX5_told_14 (by decide) (by decide) (by decide) (by decide) ?_
    refine lv_aload hx hb dX5_told_54 (lv_at hl 0 rfl) ?_
    refine kx_getsN hx hb htT m_u_X3 hown hK hP ((hR.2 j hj a hja).1.1) (Nat.le_of_ble_eq_true rfl) rfl 6 (by decide) (by decide) rfl hq6 (hTB.use m_fl_X5_188) dX5_told_56 ?_
    refine lv_iload_n hx hb dX5_told_59 rfl (lv_at hl 3 rfl) ?_
    refine kc_i (va_runV (As := [.int p1]) (rest := []) ⟨hx, hb, hml, hown, htT⟩ (c_actedOf l D cA _ S ty hty t1 hqt1 ht1 p1) (cwV 1 htT (kg_V m_ml_X5_197 m_im_X4_actedOf m_sl_X4_actedOf m_in_X4 m_cd_X4_actedOf) rfl rfl rfl (by decide +kernel) ⟨Nat.le_of_ble_eq_true rfl, Nat.le_of_ble_eq_true rfl⟩) (kp_V hK hP hD hTB (kp_rc hK hP hty (Nat.le_of_ble_eq_true rfl) rfl)) rfl rfl hl.1 rfl (lv_room (Nat.le_of_ble_eq_true rfl)) dX5_told_60 ⟨Nat.le_of_ble_eq_true rfl, Nat.le_of_ble_eq_true rfl⟩) hD hS hA (fun r_4 x_4 H locs hq_4 hP hD hS => ?_)
    rw [hq_4.2] at hP hD
    exact W.iret (v := r_4) hx hb hr (fun t ht hW => ⟨⟨r_4, S, rfl, ⟨hq_4.1.trans (by rw [← e1k]; rfl), rfl⟩, by rw [ht]; exact hP, va_K.moved hW.alike hK, hD⟩, hS.F ht⟩) hS.2.2 dX5_told_63
  · refine lv_tableIn (off := 50) (tgt := 64) hx hb dX5_told_14 (by decide) (by decide) (by decide) (by decide) ?_
    refine lv_aload hx hb dX5_told_64 (lv_at hl 0 rfl) ?_
    refine kx_getsN hx hb htT m_u_X3 hown hK hP ((hR.2 j hj a hja).1.1) (Nat.le_of_ble_eq_true rfl) rfl 6 (by decide) (by decide) rfl hq6 (hTB.use m_fl_X5_188) dX5_told_66 ?_
    refine lv_iload_n hx hb dX5_told_69 rfl (lv_at hl 3 rfl) ?_
    refine kc_i (va_runV (As := [.int p1]) (rest := []) ⟨hx, hb, hml, hown, htT⟩ (c_sumOf l D cA _ S ty hty t2 hqt2 ht2 p1) (cwV 1 htT (kg_V m_ml_X5_200 m_im_X4_sumOf m_sl_X4_sumOf m_in_X4 m_cd_X4_sumOf) rfl rfl rfl (by decide +kernel) ⟨Nat.le_of_ble_eq_true rfl, Nat.le_of_ble_eq_true rfl⟩) (kp_V hK hP hD hTB (kp_rc hK hP hty (Nat.le_of_ble_eq_true rfl) rfl)) rfl rfl hl.1 rfl (lv_room (Nat.le_of_ble_eq_true rfl)) dX5_told_70 ⟨Nat.le_of_ble_eq_true rfl, Nat.le_of_ble_eq_true rfl⟩) hD hS hA (fun r_5 x_5 H locs hq_5 hP hD hS => ?_)
    rw [hq_5.2] at hP hD
    exact W.iret (v := r_5) hx hb hr (fun t ht hW => ⟨⟨r_5, S, rfl, ⟨hq_5.1.trans (by rw [← e2k]; rfl), rfl⟩, by rw [ht]; exact hP, va_K.moved hW.alike hK, hD⟩, hS.F ht⟩) hS.2.2 dX5_told_73
  · refine lv_tableIn (off := 60) (tgt := 74) hx hb dX5_told_14 (by decide) (by decide) (by decide) (by decide) ?_
    refine lv_aload hx hb dX5_told_74 (lv_at hl 0 rfl) ?_
    refine kx_getsN hx hb htT m_u_X3 hown hK hP ((hR.2 j hj a hja).1.1) (Nat.le_of_ble_eq_true rfl) rfl 6 (by decide) (by decide) rfl hq6 (hTB.use m_fl_X5_188) dX5_told_76 ?_
    refine lv_iload_n hx hb dX5_told_79 rfl (lv_at hl 3 rfl) ?_
    refine kc_l (va_runV (As := [.int p1]) (rest := []) ⟨hx, hb, hml, hown, htT⟩ (c_squaresOf l D cA _ S ty hty t3 hqt3 ht3 p1) (cwV 1 htT (kg_V m_ml_X5_203 m_im_X4_squaresOf m_sl_X4_squaresOf m_in_X4 m_cd_X4_squaresOf) rfl rfl rfl (by decide +kernel) ⟨Nat.le_of_ble_eq_true rfl, Nat.le_of_ble_eq_true rfl⟩) (kp_V hK hP hD hTB (kp_rc hK hP hty (Nat.le_of_ble_eq_true rfl) rfl)) rfl rfl hl.1 rfl (lv_room (Nat.le_of_ble_eq_true rfl)) dX5_told_80 ⟨Nat.le_of_ble_eq_true rfl, Nat.le_of_ble_eq_true rfl⟩) hD hS hA (fun r_6 x_6 H locs hq_6 hP hD hS => ?_)
    rw [hq_6.2] at hP hD
    refine lv_l2i (v := r_6.toInt32) hx hb dX5_told_83 rfl ?_
    exact W.iret (v := r_6.toInt32) hx hb hr (fun t ht hW => ⟨⟨r_6.toInt32, S, rfl, ⟨(congrArg Int64.toInt32 hq_6.1).trans (by rw [← e3k]; rfl), rfl⟩, by rw [ht]; exact hP, va_K.moved hW.alike hK, hD⟩, hS.F ht⟩) hS.2.2 dX5_told_84

theorem told_eq {n na i a v q : Nat} {S : Pool} {M : MSt} {ar : Nat} (h : TAL n na S M ar) (hi : i < n) (ha : gP S ar i = some a) (hv : v < 4) (hq : q < 4) : cTold S a (nI v) q = rTold M.2 (nI i) (nI v) (nI q) na 0 0 := by
  obtain ⟨y0, y1, y2, y3⟩ := (h.1 i hi a ha).1 v hv
  unfold cTold
  rcases (show q = 0 ∨ q = 1 ∨ q = 2 ∨ q = 3 by omega) with rfl | rfl | rfl | rfl
  · rw [if_pos rfl, cTal_n hv]; exact y0
  · rw [if_neg (by decide), if_pos rfl, cTal_n hv]; exact y1
  · rw [if_neg (by decide), if_neg (by decide), if_pos rfl, cTal_n hv]; exact y2
  · rw [if_neg (by decide), if_neg (by decide), if_neg (by decide), cTalJ_n hv]; exact y3
