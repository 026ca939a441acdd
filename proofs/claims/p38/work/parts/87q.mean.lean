/-! means: both sides -/
theorem nan_dec {a : UInt64} (h : isNaN64 a = true) : FP.Core.decode FP.Core.b64 a.toNat = .nan := by
  have h1 : 0x7ff0000000000000 < a.toNat &&& 0x7fffffffffffffff := isNaN64_iff.mp h
  have h2 : a.toNat &&& 0x7fffffffffffffff = a.toNat % (2 ^ 52 * 2 ^ 11) := Nat.and_two_pow_sub_one_eq_mod a.toNat 63
  rw [h2] at h1
  have hE : FP.Core.fieldE FP.Core.b64 a.toNat = 2 ^ 11 - 1 := by
    show a.toNat / 2 ^ 52 % 2 ^ 11 = 2 ^ 11 - 1
    rw [← Nat.mod_mul_right_div_self]
    refine Nat.le_antisymm (Nat.le_of_lt_succ (Nat.div_lt_of_lt_mul (Nat.mod_lt _ (by decide)))) ?_
    exact (Nat.le_div_iff_mul_le (by decide)).mpr (Nat.le_of_lt h1)
  have hT : FP.Core.fieldT FP.Core.b64 a.toNat ≠ 0 := by
    show a.toNat % 2 ^ 52 ≠ 0
    intro z
    have e1 : a.toNat % (2 ^ 52 * 2 ^ 11) % 2 ^ 52 = 0 := by rw [Nat.mod_mul_right_mod]; exact z
    have e2 := Nat.div_add_mod (a.toNat % (2 ^ 52 * 2 ^ 11)) (2 ^ 52)
    rw [e1, Nat.add_zero, Nat.mod_mul_right_div_self] at e2
    have e3 : a.toNat / 2 ^ 52 % 2 ^ 11 = 2 ^ 11 - 1 := hE
    rw [e3] at e2
    exact absurd h1 (by rw [← e2]; decide)
  unfold FP.Core.decode
  rw [if_pos (show FP.Core.fieldE FP.Core.b64 a.toNat = FP.Core.b64.exps - 1 from hE), if_neg hT]
theorem dcmp_nl {a b : UInt64} (h : isNaN64 a = true) : FP.dcmp a b = none := by
  show FP.Core.order (FP.Core.decode FP.Core.b64 a.toNat) (FP.Core.decode FP.Core.b64 b.toNat) = none
  rw [nan_dec h]
  rfl
theorem dcmp_nr {a b : UInt64} (h : isNaN64 b = true) : FP.dcmp a b = none := by
  show FP.Core.order (FP.Core.decode FP.Core.b64 a.toNat) (FP.Core.decode FP.Core.b64 b.toNat) = none
  rw [nan_dec h]
  generalize FP.Core.decode FP.Core.b64 a.toNat = d
  cases d <;> rfl
theorem alike_or {x y : UInt64} (h : alike64 x y = true) : x = y ∨ (isNaN64 x = true ∧ isNaN64 y = true) := by
  unfold alike64 at h
  rcases Bool.or_eq_true_iff.mp h with h | h
  · exact Or.inl (of_decide_eq_true h)
  · exact Or.inr (Bool.and_eq_true_iff.mp h)
theorem dcmp_alike {x y u v : UInt64} (h1 : alike64 x u = true) (h2 : alike64 y v = true) : FP.dcmp x y = FP.dcmp u v := by
  rcases alike_or h1 with rfl | ⟨a1, a2⟩
  · rcases alike_or h2 with rfl | ⟨b1, b2⟩
    · rfl
    · rw [dcmp_nr b1, dcmp_nr b2]
  · rw [dcmp_nl a1, dcmp_nl a2]
def kMean (sum cnt : Int32) : UInt64 := if cnt = 0 then FP.dconst0 else FP.ddiv (FP.i2d sum) (FP.i2d cnt)
theorem mean_alike {sum cnt : Int32} {r : UInt64} (h : dMean sum cnt r) : alike64 r (kMean sum cnt) = true := by
  unfold kMean
  rcases h with ⟨h1, rfl⟩ | ⟨h1, h2⟩
  · rw [if_pos h1]; exact alike64_refl _
  · rw [if_neg h1]; exact h2
set_option maxRecDepth 100000 in
set_option maxHeartbeats 4000000 in
/-- mean -/
theorem c_meanX (l : Launch) (D : va_G) (cA : Nat → ClassId) (sz : Nat) (S : Pool) (x : Nat) (hx5 : isO S x 5) (ar : Nat) (hq0 : gQ S x 0 = some ar) (ak : Nat) (hq1 : gQ S x 1 = some ak) (hak : isO S ak 1) (hR : okR S ar) (j : Nat) (hj : j < 8) (a : Nat) (hja : gP S ar j = some a) (p0 : Int32) (hsw : kSw S ar p0 = some a) (p1 : Int32) (hv : kOut p1 0 (gI S a 2 - 1) = 0)  : MetD lw_cs l yX5_mean (Cond.code yX5_mean cX5_mean 4 (some .double) :: TT) ({ frames := 3, cells := 0, slots := 0, locals := 63 }) (va_Pc [.ref x, .int p0, .int p1] (kPre D cA (PW cA S) sz)) (va_Qd (fun (r_ : UInt64) (x_ : Pool) => dMean (cTal S (tkA S a 2) p1) (cTal S (tkA S a 0) p1) r_ ∧ x_ = S) (fun x_ => kB D cA (va_A (PW cA S) sz) (PW cA x_)) (va_A (PW cA S) sz)) 0 0 (va_A (PW cA S) sz) := by
  refine MetD.ofW (cc := cX5_mean) (maxL := 4) (ret := (some .double)) (by decide) rfl ?_
  intro p e s m args below meth c s₁ B hml hv hd0
  obtain ⟨rfl, hsz, hP, hK, hD0, hTB⟩ := hv
  have hx := B.exec
  have hb := B.bytes
  have hr := B.returns
  have hts := atoms_spec (ws := Cond.code yX5_mean cX5_mean 4 (some .double) :: TT) B.pre
  have htT : ∀ w ∈ TT, w.before _ s = true := fun w h => hts w (List.mem_cons_of_mem _ h)
  have hown : s.vm.findClass RX5 = some m.cls := findClass_of_methodNamed B.named
  have hlocks := B.notSynchronized
  subst hsz
  have hD := hD0.self (sz := s.heap.size)
  generalize hAe : va_A (PW cA S) s.heap.size = A at hD ⊢
  have hA : ∀ q : Nat, s.heap.size ≤ q → A q := fun q h => by rw [← hAe]; exact Or.inr h
  have hS : va_S A s.heap s.heap [] := va_S.rf
  have hl := lv_entry ([.ref x, .int p0, .int p1]) (n := 4) (Nat.le_of_ble_eq_true rfl)
  rw [lg_entry_eq]
  generalize (lg_sl ([.ref x, .int p0, .int p1]) ++ List.replicate (4 - (lg_sl ([.ref x, .int p0, .int p1])).length) Slot.unset).toArray = ls at hl ⊢
  have hl : lv_has ls 4 [(0, .ref x), (1, .int p0), (2, .int p1)] := hl
  have htT0 := htT
  have hTB0 := hTB
  have hK0 := hK
  have hown0 := hown
  have htT : ∀ w ∈ TT, w.before _ (s.setDrawn s.drawn) = true := dr_words htT0 s.drawn
  have hTB : TBok (s.setDrawn s.drawn) := TBok.same (u := s) (U := s.setDrawn s.drawn) rfl (Vm.Alike.refl s.vm) hTB0
  have hK : va_K D vwCl (ty6 cA) (s.setDrawn s.drawn) := hK0
  have hown : (s.setDrawn s.drawn).vm.findClass RX5 = some m.cls := hown0
  obtain ⟨-, ⟨wt, hq4, hwt⟩, -, -, ⟨ty, hq6, hty, ⟨t0, hqt0, ht0⟩, ⟨t1, hqt1, ht1⟩, ⟨t2, hqt2, ht2⟩, ⟨t3, hqt3, ht3⟩⟩, -⟩ := (hR.2 j hj a hja).1
  have e0k : tkA S a 0 = t0 := by simp [tkA, tyA, hq6, hqt0]
  have e1k : tkA S a 1 = t1 := by simp [tkA, tyA, hq6, hqt1]
  have e2k : tkA S a 2 = t2 := by simp [tkA, tyA, hq6, hqt2]
  have e3k : tkA S a 3 = t3 := by simp [tkA, tyA, hq6, hqt3]
  have ewk : wtA S a = wt := by simp [wtA, hq4]
  have eyk : tyA S a = ty := by simp [tyA, hq6]
  refine lv_aload_n hx hb dX5_mean_0 rfl (lv_at hl 0 rfl) ?_
  refine lv_iload_n hx hb dX5_mean_1 rfl (lv_at hl 1 rfl) ?_
  refine kc_q (va_runV (As := [.int p0]) (rest := []) ⟨hx, hb, hml, hown, htT⟩ (c_known l D cA _ S x hx5 ar hq0 hR.1 p0 a hsw) (cwV 1 htT (kg_V m_ml_X5_45 m_im_X5_known m_sl_X5_known m_in_X5 m_cd_X5_known) rfl rfl rfl (by decide +kernel) ⟨Nat.le_of_ble_eq_true rfl, Nat.le_of_ble_eq_true rfl⟩) (kp_V hK hP hD hTB (kp_rc hK hP hx5 (Nat.le_of_ble_eq_true rfl) rfl)) rfl rfl hl.1 rfl (lv_room (Nat.le_of_ble_eq_true rfl)) dX5_mean_2 ⟨Nat.le_of_ble_eq_true rfl, Nat.le_of_ble_eq_true rfl⟩) hD hS hA (fun r_1 x_1 H locs hq_1 hP hD hS => ?_)
  rw [hq_1.1]
  rw [hq_1.2] at hP hD
  refine lv_astore_n (lv' := [(3, .ref a), (0, .ref x), (1, .int p0), (2, .int p1)]) hx hb dX5_mean_5 rfl hl (by decide) rfl (fun ls hl => ?_)
  refine lv_aload_n hx hb dX5_mean_6 rfl (lv_at hl 0 rfl) ?_
  refine lv_iload_n hx hb dX5_mean_7 rfl (lv_at hl 3 rfl) ?_
  refine kc_v (va_runS (As := [.ref a, .int p1]) (rest := []) ⟨hx, hb, hml, hown, htT⟩ (c_checkVariant l D cA _ S a (hR.2 j hj a hja).1.1 p1 hv) (cwS 2 htT (kg_S m_ml_X5_49 m_st_X5_checkVariant m_in_X5 m_cd_X5_checkVariant) rfl rfl rfl (by decide +kernel) ⟨Nat.le_of_ble_eq_true rfl, Nat.le_of_ble_eq_true rfl⟩) (kp_S hK hP hD hTB) rfl rfl hl.1 rfl (lv_room (Nat.le_of_ble_eq_true rfl)) dX5_mean_8 ⟨Nat.le_of_ble_eq_true rfl, Nat.le_of_ble_eq_true rfl⟩) hD hS hA (fun x_2 H locs hq_2 hP hD hS => ?_)
  rw [hq_2] at hP hD
  refine lv_aload_n hx hb dX5_mean_11 rfl (lv_at hl 0 rfl) ?_
  refine kx_getsN hx hb htT m_u_X3 hown hK hP ((hR.2 j hj a hja).1.1) (Nat.le_of_ble_eq_true rfl) rfl 6 (by decide) (by decide) rfl hq6 (hTB.use m_fl_X5_188) dX5_mean_12 ?_
  refine lv_iload_n hx hb dX5_mean_15 rfl (lv_at hl 3 rfl) ?_
  refine kcD_d hd0 (va_runV_D (As := [.int p1]) (rest := []) ⟨hx, hb, hml, hown, htT⟩ (c_meanOf l D cA _ S ty hty t0 hqt0 ht0 t2 hqt2 ht2 p1) (cwV 1 htT (kg_V m_ml_X5_209 m_im_X4_meanOf m_sl_X4_meanOf m_in_X4 m_cd_X4_meanOf) rfl rfl rfl (by decide +kernel) ⟨Nat.le_of_ble_eq_true rfl, Nat.le_of_ble_eq_true rfl⟩) (kp_V hK hP hD hTB (kp_rc hK hP hty (Nat.le_of_ble_eq_true rfl) rfl)) rfl rfl hl.1 rfl (lv_room (Nat.le_of_ble_eq_true rfl)) dX5_mean_16 ⟨Nat.le_of_ble_eq_true rfl, Nat.le_of_ble_eq_true rfl⟩) hD hS hA (fun r_3 x_3 H locs hq_3 hP hD hS d_3 hd0 => ?_)
  have htT : ∀ w ∈ TT, w.before _ (s.setDrawn d_3) = true := dr_words htT0 d_3
  have hTB : TBok (s.setDrawn d_3) := TBok.same (u := s) (U := s.setDrawn d_3) rfl (Vm.Alike.refl s.vm) hTB0
  have hK : va_K D vwCl (ty6 cA) (s.setDrawn d_3) := hK0
  have hown : (s.setDrawn d_3).vm.findClass RX5 = some m.cls := hown0
  rw [hq_3.2] at hP hD
  refine W.endD hd0 ?_
  exact W.dret (v := r_3) hx hb hr (fun t ht hW => ⟨⟨r_3, S, rfl, ⟨by rw [e0k, e2k]; exact hq_3.1, rfl⟩, by rw [ht]; exact hP, va_K.moved hW.alike hK, hD⟩, hS.F ht⟩) hS.2.2 dX5_mean_19

set_option maxRecDepth 100000 in
set_option maxHeartbeats 4000000 in
/-- lift -/
theorem c_liftX (l : Launch) (D : va_G) (cA : Nat → ClassId) (sz : Nat) (S : Pool) (x : Nat) (hx5 : isO S x 5) (ar : Nat) (hq0 : gQ S x 0 = some ar) (ak : Nat) (hq1 : gQ S x 1 = some ak) (hak : isO S ak 1) (hR : okR S ar) (j : Nat) (hj : j < 8) (a : Nat) (hja : gP S ar j = some a) (p0 : Int32) (hsw : kSw S ar p0 = some a) (p1 : Int32) (hv : kOut p1 0 (gI S a 2 - 1) = 0)  : MetD lw_cs l yX5_lift (Cond.code yX5_lift cX5_lift 4 (some .double) :: TT) ({ frames := 4, cells := 0, slots := 0, locals := 84 }) (va_Pc [.ref x, .int p0, .int p1] (kPre D cA (PW cA S) sz)) (va_Qd (fun (r_ : UInt64) (x_ : Pool) => (∃ m1 m0, dMean (cTal S (tkA S a 2) p1) (cTal S (tkA S a 0) p1) m1 ∧ dMean (cTal S (tkA S a 2) 0) (cTal S (tkA S a 0) 0) m0 ∧ alike64 r_ (FP.dsub m1 m0) = true) ∧ x_ = S) (fun x_ => kB D cA (va_A (PW cA S) sz) (PW cA x_)) (va_A (PW cA S) sz)) 0 0 (va_A (PW cA S) sz) := by
  refine MetD.ofW (cc := cX5_lift) (maxL := 4) (ret := (some .double)) (by decide) rfl ?_
  intro p e s m args below meth c s₁ B hml hv hd0
  obtain ⟨rfl, hsz, hP, hK, hD0, hTB⟩ := hv
  have hx := B.exec
  have hb := B.bytes
  have hr := B.returns
  have hts := atoms_spec (ws := Cond.code yX5_lift cX5_lift 4 (some .double) :: TT) B.pre
  have htT : ∀ w ∈ TT, w.before _ s = true := fun w h => hts w (List.mem_cons_of_mem _ h)
  have hown : s.vm.findClass RX5 = some m.cls := findClass_of_methodNamed B.named
  have hlocks := B.notSynchronized
  subst hsz
  have hD := hD0.self (sz := s.heap.size)
  generalize hAe : va_A (PW cA S) s.heap.size = A at hD ⊢
  have hA : ∀ q : Nat, s.heap.size ≤ q → A q := fun q h => by rw [← hAe]; exact Or.inr h
  have hS : va_S A s.heap s.heap [] := va_S.rf
  have hl := lv_entry ([.ref x, .int p0, .int p1]) (n := 4) (Nat.le_of_ble_eq_true rfl)
  rw [lg_entry_eq]
  generalize (lg_sl ([.ref x, .int p0, .int p1]) ++ List.replicate (4 - (lg_sl ([.ref x, .int p0, .int p1])).length) Slot.unset).toArray = ls at hl ⊢
  have hl : lv_has ls 4 [(0, .ref x), (1, .int p0), (2, .int p1)] := hl
  have htT0 := htT
  have hTB0 := hTB
  have hK0 := hK
  have hown0 := hown
  have htT : ∀ w ∈ TT, w.before _ (s.setDrawn s.drawn) = true := dr_words htT0 s.drawn
  have hTB : TBok (s.setDrawn s.drawn) := TBok.same (u := s) (U := s.setDrawn s.drawn) rfl (Vm.Alike.refl s.vm) hTB0
  have hK : va_K D vwCl (ty6 cA) (s.setDrawn s.drawn) := hK0
  have hown : (s.setDrawn s.drawn).vm.findClass RX5 = some m.cls := hown0
  obtain ⟨-, ⟨wt, hq4, hwt⟩, -, -, ⟨ty, hq6, hty, ⟨t0, hqt0, ht0⟩, ⟨t1, hqt1, ht1⟩, ⟨t2, hqt2, ht2⟩, ⟨t3, hqt3, ht3⟩⟩, -⟩ := (hR.2 j hj a hja).1
  have e0k : tkA S a 0 = t0 := by simp [tkA, tyA, hq6, hqt0]
  have e1k : tkA S a 1 = t1 := by simp [tkA, tyA, hq6, hqt1]
  have e2k : tkA S a 2 = t2 := by simp [tkA, tyA, hq6, hqt2]
  have e3k : tkA S a 3 = t3 := by simp [tkA, tyA, hq6, hqt3]
  have ewk : wtA S a = wt := by simp [wtA, hq4]
  have eyk : tyA S a = ty := by simp [tyA, hq6]
  refine lv_aload_n hx hb dX5_lift_0 rfl (lv_at hl 0 rfl) ?_
  refine lv_iload_n hx hb dX5_lift_1 rfl (lv_at hl 1 rfl) ?_
  refine kc_q (va_runV (As := [.int p0]) (rest := []) ⟨hx, hb, hml, hown, htT⟩ (c_known l D cA _ S x hx5 ar hq0 hR.1 p0 a hsw) (cwV 1 htT (kg_V m_ml_X5_45 m_im_X5_known m_sl_X5_known m_in_X5 m_cd_X5_known) rfl rfl rfl (by decide +kernel) ⟨Nat.le_of_ble_eq_true rfl, Nat.le_of_ble_eq_true rfl⟩) (kp_V hK hP hD hTB (kp_rc hK hP hx5 (Nat.le_of_ble_eq_true rfl) rfl)) rfl rfl hl.1 rfl (lv_room (Nat.le_of_ble_eq_true rfl)) dX5_lift_2 ⟨Nat.le_of_ble_eq_true rfl, Nat.le_of_ble_eq_true rfl⟩) hD hS hA (fun r_1 x_1 H locs hq_1 hP hD hS => ?_)
  rw [hq_1.1]
  rw [hq_1.2] at hP hD
  refine lv_astore_n (lv' := [(3, .ref a), (0, .ref x), (1, .int p0), (2, .int p1)]) hx hb dX5_lift_5 rfl hl (by decide) rfl (fun ls hl => ?_)
  refine lv_aload_n hx hb dX5_lift_6 rfl (lv_at hl 0 rfl) ?_
  refine lv_iload_n hx hb dX5_lift_7 rfl (lv_at hl 3 rfl) ?_
  refine kc_v (va_runS (As := [.ref a, .int p1]) (rest := []) ⟨hx, hb, hml, hown, htT⟩ (c_checkVariant l D cA _ S a (hR.2 j hj a hja).1.1 p1 hv) (cwS 2 htT (kg_S m_ml_X5_49 m_st_X5_checkVariant m_in_X5 m_cd_X5_checkVariant) rfl rfl rfl (by decide +kernel) ⟨Nat.le_of_ble_eq_true rfl, Nat.le_of_ble_eq_true rfl⟩) (kp_S hK hP hD hTB) rfl rfl hl.1 rfl (lv_room (Nat.le_of_ble_eq_true rfl)) dX5_lift_8 ⟨Nat.le_of_ble_eq_true rfl, Nat.le_of_ble_eq_true rfl⟩) hD hS hA (fun x_2 H locs hq_2 hP hD hS => ?_)
  rw [hq_2] at hP hD
  refine lv_aload_n hx hb dX5_lift_11 rfl (lv_at hl 0 rfl) ?_
  refine kx_getsN hx hb htT m_u_X3 hown hK hP ((hR.2 j hj a hja).1.1) (Nat.le_of_ble_eq_true rfl) rfl 6 (by decide) (by decide) rfl hq6 (hTB.use m_fl_X5_188) dX5_lift_12 ?_
  refine lv_iload_n hx hb dX5_lift_15 rfl (lv_at hl 3 rfl) ?_
  refine kcD_d hd0 (va_runV_D (As := [.int p1]) (rest := []) ⟨hx, hb, hml, hown, htT⟩ (c_liftOf l D cA _ S ty hty t0 hqt0 ht0 t2 hqt2 ht2 p1) (cwV 1 htT (kg_V m_ml_X5_213 m_im_X4_liftOf m_sl_X4_liftOf m_in_X4 m_cd_X4_liftOf) rfl rfl rfl (by decide +kernel) ⟨Nat.le_of_ble_eq_true rfl, Nat.le_of_ble_eq_true rfl⟩) (kp_V hK hP hD hTB (kp_rc hK hP hty (Nat.le_of_ble_eq_true rfl) rfl)) rfl rfl hl.1 rfl (lv_room (Nat.le_of_ble_eq_true rfl)) dX5_lift_16 ⟨Nat.le_of_ble_eq_true rfl, Nat.le_of_ble_eq_true rfl⟩) hD hS hA (fun r_3 x_3 H locs hq_3 hP hD hS d_3 hd0 => ?_)
  have htT : ∀ w ∈ TT, w.before _ (s.setDrawn d_3) = true := dr_words htT0 d_3
  have hTB : TBok (s.setDrawn d_3) := TBok.same (u := s) (U := s.setDrawn d_3) rfl (Vm.Alike.refl s.vm) hTB0
  have hK : va_K D vwCl (ty6 cA) (s.setDrawn d_3) := hK0
  have hown : (s.setDrawn d_3).vm.findClass RX5 = some m.cls := hown0
  rw [hq_3.2] at hP hD
  refine W.endD hd0 ?_
  exact W.dret (v := r_3) hx hb hr (fun t ht hW => ⟨⟨r_3, S, rfl, ⟨by rw [e0k, e2k]; exact hq_3.1, rfl⟩, by rw [ht]; exact hP, va_K.moved hW.alike hK, hD⟩, hS.F ht⟩) hS.2.2 dX5_lift_19

/-! means and lifts: both sides alike -/
theorem dec_alike {x u : UInt64} (h : alike64 x u = true) : FP.Core.decode FP.Core.b64 x.toNat = FP.Core.decode FP.Core.b64 u.toNat := by
  rcases alike_or h with rfl | ⟨a1, a2⟩
  · rfl
  · rw [nan_dec a1, nan_dec a2]
theorem dsub_alike {x y u v : UInt64} (h1 : alike64 x u = true) (h2 : alike64 y v = true) : FP.dsub x y = FP.dsub u v := by
  show UInt64.ofNat (FP.Core.sub FP.Core.b64 x.toNat y.toNat) = UInt64.ofNat (FP.Core.sub FP.Core.b64 u.toNat v.toNat)
  unfold FP.Core.sub
  rw [dec_alike h1, dec_alike h2]
theorem lift_alike {s c s0 c0 : Int32} {r : UInt64} (h : ∃ m1 m0, dMean s c m1 ∧ dMean s0 c0 m0 ∧ alike64 r (FP.dsub m1 m0) = true) : alike64 r (FP.dsub (kMean s c) (kMean s0 c0)) = true := by
  obtain ⟨m1, m0, h1, h0, h2⟩ := h
  rw [← dsub_alike (mean_alike h1) (mean_alike h0)]
  exact h2
theorem mean_like {n na i a v : Nat} {S : Pool} {M : MSt} {ar : Nat} {r : UInt64} (h : TAL n na S M ar) (hi : i < n) (ha : gP S ar i = some a) (hv : v < 4) (hm : dMean (cTal S (tkA S a 2) (nI v)) (cTal S (tkA S a 0) (nI v)) r) : alike64 r (kMean (rTold M.2 (nI i) (nI v) 2 na 0 0) (rTold M.2 (nI i) (nI v) 0 na 0 0)) = true := by
  have h1 := mean_alike hm
  obtain ⟨y0, -, y2, -⟩ := (h.1 i hi a ha).1 v hv
  rw [cTal_n hv, cTal_n hv, y2, y0] at h1
  exact h1
theorem lift_like {n na i a v : Nat} {S : Pool} {M : MSt} {ar : Nat} {r : UInt64} (h : TAL n na S M ar) (hi : i < n) (ha : gP S ar i = some a) (hv : v < 4) (hm : ∃ m1 m0, dMean (cTal S (tkA S a 2) (nI v)) (cTal S (tkA S a 0) (nI v)) m1 ∧ dMean (cTal S (tkA S a 2) 0) (cTal S (tkA S a 0) 0) m0 ∧ alike64 r (FP.dsub m1 m0) = true) : alike64 r (FP.dsub (kMean (rTold M.2 (nI i) (nI v) 2 na 0 0) (rTold M.2 (nI i) (nI v) 0 na 0 0)) (kMean (rTold M.2 (nI i) 0 2 na 0 0) (rTold M.2 (nI i) 0 0 na 0 0))) = true := by
  have h1 := lift_alike hm
  obtain ⟨y0, -, y2, -⟩ := (h.1 i hi a ha).1 v hv
  obtain ⟨z0, -, z2, -⟩ := (h.1 i hi a ha).1 0 (by decide)
  have q2 : cTal S (tkA S a 2) 0 = rTold M.2 (nI i) 0 2 na 0 0 := (cTal_n (v := 0) (by decide)).trans z2
  have q0 : cTal S (tkA S a 0) 0 = rTold M.2 (nI i) 0 0 na 0 0 := (cTal_n (v := 0) (by decide)).trans z0
  rw [cTal_n hv, cTal_n hv, y2, y0, q2, q0] at h1
  exact h1
section DW
variable {p : Program} {l : Launch} {e : Env} {R : Room} {s : State} {m : MethodId} {args : Array Value} {below : List Frame} {meth : Method} {c : Code} {H : Heap} {locs : List Loc} {cells slots mc ms : Nat} {Q : State → Prop}
variable {cc : ByteArray} {pc : Nat} {ls : Array Slot} {st0 rest : List Value} {D : va_G} {A : Nat → Prop} {a b : Nat} {H0 : Heap} {cA : Nat → ClassId} {wa wb : va_W}
end DW
