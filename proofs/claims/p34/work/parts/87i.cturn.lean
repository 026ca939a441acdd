/-! the class: would turn, exact -/
def rChg (F G : Nat → Int32) : Nat → Nat → Int32
  | 0, _ => 0
  | c + 1, k => if G k = F k then rChg F G c (k + 1) else 1
theorem rChg_01 (F G : Nat → Int32) : ∀ c k, rChg F G c k = 0 ∨ rChg F G c k = 1 := by
  intro c
  induction c with
  | zero => intro k; exact Or.inl rfl
  | succ c ih =>
    intro k
    unfold rChg
    by_cases h : G k = F k
    · rw [if_pos h]; exact ih _
    · rw [if_neg h]; exact Or.inr rfl
set_option maxRecDepth 100000 in
set_option maxHeartbeats 4000000 in
/-- changesByTurning, exact -/
theorem c_changesByTurningX (l : Launch) (D : va_G) (cA : Nat → ClassId) (sz : Nat) (S : Pool) (x : Nat) (hx5 : isO S x 5) (ar : Nat) (hq0 : gQ S x 0 = some ar) (ak : Nat) (hq1 : gQ S x 1 = some ak) (hak : isO S ak 1) (hR : okR S ar) (n : Nat) (hn8 : n ≤ 8) (h2n : gI S x 2 = nI n) (i : Nat) (hi : i ≤ n) (u : Nat) (hu : u ≤ 9999) (F G : Nat → Int32) (hF : ∀ U, eqA S U ak → ∀ k b, k < n → gP S ar k = some b → cV (cBec U ak (nI u) (nI u - nI u / 10 * 10) (nI u / 10 - nI u / 10 / 10 * 10)) x ar ak 8 b = F k) (hG : ∀ U, eqA S U ak → ∀ k b, k < n → gP S ar k = some b → cV (pI (cBec U ak (nI u) (nI u - nI u / 10 * 10) (nI u / 10 - nI u / 10 / 10 * 10)) ak 3 (nI i)) x ar ak 8 b = G k) (hrow : ∀ k, k < n → ∃ b, gP S ar k = some b)  : Met l yX5_changesByTurning (Cond.code yX5_changesByTurning cX5_changesByTurning 6 (some .boolean) :: TT) ({ frames := 26, cells := 0, slots := 0, locals := 620 }) (va_Pc [.ref x, .int (nI i), .int (nI u)] (kPre D cA (PW cA S) sz)) (va_Qi (fun (r_ : Int32) (x_ : Pool) => r_ = rChg F G (n - i) i ∧ eqA S x_ ak) (fun x_ => kB D cA (va_A (PW cA S) sz) (PW cA x_)) (va_A (PW cA S) sz)) 0 0 (va_A (PW cA S) sz) := by
  refine Met.ofW (cc := cX5_changesByTurning) (maxL := 6) (ret := (some .boolean)) (by decide) rfl ?_
  intro p e s m args below meth c s₁ B hml hv
  obtain ⟨rfl, hsz, hP, hK, hD0, hTB⟩ := hv
  have hx := B.exec
  have hb := B.bytes
  have hr := B.returns
  have hts := atoms_spec (ws := Cond.code yX5_changesByTurning cX5_changesByTurning 6 (some .boolean) :: TT) B.pre
  have htT : ∀ w ∈ TT, w.before _ s = true := fun w h => hts w (List.mem_cons_of_mem _ h)
  have hown : s.vm.findClass RX5 = some m.cls := findClass_of_methodNamed B.named
  have hlocks := B.notSynchronized
  subst hsz
  have hD := hD0.self (sz := s.heap.size)
  generalize hAe : va_A (PW cA S) s.heap.size = A at hD ⊢
  have hA : ∀ q : Nat, s.heap.size ≤ q → A q := fun q h => by rw [← hAe]; exact Or.inr h
  have hS : va_S A s.heap s.heap [] := va_S.rf
  have hl := lv_entry ([.ref x, .int (nI i), .int (nI u)]) (n := 6) (Nat.le_of_ble_eq_true rfl)
  rw [lg_entry_eq]
  generalize (lg_sl ([.ref x, .int (nI i), .int (nI u)]) ++ List.replicate (6 - (lg_sl ([.ref x, .int (nI i), .int (nI u)])).length) Slot.unset).toArray = ls at hl ⊢
  have hl : lv_has ls 6 [(0, .ref x), (1, .int (nI i)), (2, .int (nI u))] := hl
  refine lv_iload_n hx hb dX5_changesByTurning_0 rfl (lv_at hl 1 rfl) ?_
  refine lv_istore_n (lv' := [(3, .int (nI i)), (0, .ref x), (1, .int (nI i)), (2, .int (nI u))]) hx hb dX5_changesByTurning_1 rfl hl (by decide) rfl (fun ls hl => ?_)
  refine kz_loop 2 (fun N9 H locs ls => ∃ (k : Nat) (T : Pool), N9 = n - k ∧ k ≤ n ∧ rChg F G (n - i) i = rChg F G (n - k) k ∧ eqA S T ak ∧ va_P D vwCl (PW cA T) H ∧ va_D A (PW cA T) ∧ va_S A s.heap H locs ∧ lv_has ls 6 [(3, .int (nI k)), (2, .int (nI u)), (1, .int (nI i)), (0, .ref x)]) (fun N9 ih_2 H locs ls hI => ?_) ⟨i, S, rfl, by omega, rfl, eqA.rf, hP, hD, hS, lv_sub hl [0, 3, 2, 1] rfl⟩
  obtain ⟨k, T, hn9, hk, hC9, hE, hP, hD, hS, hl⟩ := hI
  have hx5_1 := hE.o hx5
  have hak_1 := hE.o hak
  have hR_1 := hE.okR hak hR
  have hq0_1 := (hE.q x 0).trans hq0
  have hq1_1 := (hE.q x 1).trans hq1
  have h2n_9 : gI T x 2 = nI n := (hE.i hak hx5 (by decide) 2).trans h2n
  refine lv_iload_n hx hb dX5_changesByTurning_2 rfl (lv_at hl 0 rfl) ?_
  refine lv_aload_n hx hb dX5_changesByTurning_3 rfl (lv_at hl 3 rfl) ?_
  refine kx_getiv hx hb htT m_u_X5 hown hK hP hx5_1 (Nat.le_of_ble_eq_true rfl) rfl 2 (by decide) (by decide) rfl (htT _ m_fl_X5_33) h2n_9 dX5_changesByTurning_4 ?_
  refine lv_icmp_ge (tgt := 67) hx hb dX5_changesByTurning_7 (by decide) (fun c_2 => ?_) (fun c_2 => ?_)
  · replace c_2 := (nI_leI (a := n) (b := k) (by omega) (by omega)).mp c_2
    refine lv_iconst (v := 0) hx hb dX5_changesByTurning_67 (by decide) ?_
    exact W.zret (v := 0) hx hb hr (rfl) (fun t ht hW => ⟨⟨0, T, rfl, ⟨by rw [hC9, show n - k = 0 by omega]; rfl, hE⟩, by rw [ht]; exact hP, va_K.moved hW.alike hK, hD⟩, hS.F ht⟩) hS.2.2 dX5_changesByTurning_68
  · replace c_2 : ¬ (n ≤ k) := fun h9 => c_2 ((nI_leI (a := n) (b := k) (by omega) (by omega)).mpr h9)
    refine lv_aload_n hx hb dX5_changesByTurning_10 rfl (lv_at hl 3 rfl) ?_
    refine lv_iload_n hx hb dX5_changesByTurning_11 rfl (lv_at hl 0 rfl) ?_
    obtain ⟨y_9, hja⟩ := hrow k (by omega)
    have hj : k < 8 := by omega
    refine kc_q (va_runV (As := [.int (nI k)]) (rest := []) ⟨hx, hb, hml, hown, htT⟩ (c_switchAt l D cA _ T x hx5_1 ar hq0_1 hR_1.1 (nI k)) (cwV 1 htT (kg_V m_ml_X5_301 m_im_X5_switchAt m_sl_X5_switchAt m_in_X5 m_cd_X5_switchAt) rfl rfl rfl (by decide +kernel) ⟨Nat.le_of_ble_eq_true rfl, Nat.le_of_ble_eq_true rfl⟩) (kp_V hK hP hD hTB (kp_rc hK hP hx5_1 (Nat.le_of_ble_eq_true rfl) rfl)) rfl rfl hl.1 rfl (lv_room (Nat.le_of_ble_eq_true rfl)) dX5_changesByTurning_12 ⟨Nat.le_of_ble_eq_true rfl, Nat.le_of_ble_eq_true rfl⟩) hD hS hA (fun r_3 x_3 H locs hq_3 hP hD hS => ?_)
    rw [hq_3.1, show kSw T ar (nI k) = some y_9 from (kSw_at (by omega)).trans ((hE.p ar k).trans hja)]
    rw [hq_3.2] at hP hD
    have hja_1 := (hE.p ar k).trans hja
    refine lv_astore (lv' := [(4, .ref y_9), (3, .int (nI k)), (2, .int (nI u)), (1, .int (nI i)), (0, .ref x)]) hx hb dX5_changesByTurning_15 hl (by decide) rfl (fun ls hl => ?_)
    refine lv_aload hx hb dX5_changesByTurning_17 (lv_at hl 0 rfl) ?_
    refine lv_ifnonnull (tgt := 24) hx hb dX5_changesByTurning_19 (by decide) ?_
    refine lv_aload_n hx hb dX5_changesByTurning_24 rfl (lv_at hl 4 rfl) ?_
    refine kx_gets hx hb htT m_u_X5 hown hK hP hx5_1 (Nat.le_of_ble_eq_true rfl) rfl 1 (by decide) (by decide) rfl hq1_1 (htT _ m_fl_X5_18) dX5_changesByTurning_25 ?_
    refine lv_iload_n hx hb dX5_changesByTurning_28 rfl (lv_at hl 2 rfl) ?_
    refine kc_v (va_runV (As := [.int (nI u)]) (rest := []) ⟨hx, hb, hml, hown, htT⟩ (c_becomeCounted l D cA _ T ak hak_1 (nI u)) (cwV 1 htT (kg_V m_ml_X5_233 m_im_X1_becomeCounted m_sl_X1_becomeCounted m_in_X1 m_cd_X1_becomeCounted) rfl rfl rfl (by decide +kernel) ⟨Nat.le_of_ble_eq_true rfl, Nat.le_of_ble_eq_true rfl⟩) (kp_V hK hP hD hTB (kp_rc hK hP hak_1 (Nat.le_of_ble_eq_true rfl) rfl)) rfl rfl hl.1 rfl (lv_room (Nat.le_of_ble_eq_true rfl)) dX5_changesByTurning_29 ⟨Nat.le_of_ble_eq_true rfl, Nat.le_of_ble_eq_true rfl⟩) hD hS hA (fun x_4 H locs hq_4 hP hD hS => ?_)
    have hE_4 : eqA S x_4 ak := by rw [hq_4]; exact hE.tr eqA.bec
    have hx5_5 := hE_4.o hx5
    have hak_5 := hE_4.o hak
    have hR_5 := hE_4.okR hak hR
    have hq0_5 := (hE_4.q x 0).trans hq0
    have hq1_5 := (hE_4.q x 1).trans hq1
    have hja_5 := (hE_4.p ar k).trans hja
    refine lv_aload_n hx hb dX5_changesByTurning_32 rfl (lv_at hl 4 rfl) ?_
    refine lv_aload hx hb dX5_changesByTurning_33 (lv_at hl 0 rfl) ?_
    refine kc_i (va_runV (As := [.ref y_9]) (rest := []) ⟨hx, hb, hml, hown, htT⟩ (c_PV l D cA x_4 x hx5_5 ar hq0_5 ak hq1_5 hak_5 hR_5 7 _ k y_9 hj (by omega) hja_5) (cwV 1 htT (kg_V m_ml_X5_151 m_im_X5_variantOf m_sl_X5_variantOf m_in_X5 m_cd_X5_variantOf) rfl rfl rfl (by decide +kernel) ⟨Nat.le_of_ble_eq_true rfl, Nat.le_of_ble_eq_true rfl⟩) (kp_V hK hP hD hTB (kp_rc hK hP hx5_5 (Nat.le_of_ble_eq_true rfl) rfl)) rfl rfl hl.1 rfl (lv_room (Nat.le_of_ble_eq_true rfl)) dX5_changesByTurning_35 ⟨Nat.le_of_ble_eq_true rfl, Nat.le_of_ble_eq_true rfl⟩) hD hS hA (fun r_6 x_6 H locs hq_6 hP hD hS => ?_)
    rw [hq_6.2] at hP hD
    rw [show r_6 = F k from hq_6.1.trans (by rw [hq_4]; exact hF _ hE k y_9 (by omega) hja)]
    refine lv_istore (lv' := [(5, .int (F k)), (4, .ref y_9), (3, .int (nI k)), (2, .int (nI u)), (1, .int (nI i)), (0, .ref x)]) hx hb dX5_changesByTurning_38 hl (by decide) rfl (fun ls hl => ?_)
    refine lv_aload_n hx hb dX5_changesByTurning_40 rfl (lv_at hl 5 rfl) ?_
    refine kx_gets hx hb htT m_u_X5 hown hK hP hx5_5 (Nat.le_of_ble_eq_true rfl) rfl 1 (by decide) (by decide) rfl hq1_5 (htT _ m_fl_X5_18) dX5_changesByTurning_41 ?_
    refine lv_iload_n hx hb dX5_changesByTurning_44 rfl (lv_at hl 4 rfl) ?_
    refine kc_v (va_runV (As := [.int (nI i)]) (rest := []) ⟨hx, hb, hml, hown, htT⟩ (c_supposeTurned l D cA _ x_4 ak hak_5 (nI i)) (cwV 1 htT (kg_V m_ml_X5_356 m_im_X1_supposeTurned m_sl_X1_supposeTurned m_in_X1 m_cd_X1_supposeTurned) rfl rfl rfl (by decide +kernel) ⟨Nat.le_of_ble_eq_true rfl, Nat.le_of_ble_eq_true rfl⟩) (kp_V hK hP hD hTB (kp_rc hK hP hak_5 (Nat.le_of_ble_eq_true rfl) rfl)) rfl rfl hl.1 rfl (lv_room (Nat.le_of_ble_eq_true rfl)) dX5_changesByTurning_45 ⟨Nat.le_of_ble_eq_true rfl, Nat.le_of_ble_eq_true rfl⟩) hD hS hA (fun x_7 H locs hq_7 hP hD hS => ?_)
    have hE_7 : eqA S x_7 ak := by rw [hq_7]; exact hE_4.tr eqA.pI
    have hx5_8 := hE_7.o hx5
    have hak_8 := hE_7.o hak
    have hR_8 := hE_7.okR hak hR
    have hq0_8 := (hE_7.q x 0).trans hq0
    have hq1_8 := (hE_7.q x 1).trans hq1
    have hja_8 := (hE_7.p ar k).trans hja
    refine lv_aload_n hx hb dX5_changesByTurning_48 rfl (lv_at hl 5 rfl) ?_
    refine lv_aload hx hb dX5_changesByTurning_49 (lv_at hl 1 rfl) ?_
    refine kc_i (va_runV (As := [.ref y_9]) (rest := []) ⟨hx, hb, hml, hown, htT⟩ (c_PV l D cA x_7 x hx5_8 ar hq0_8 ak hq1_8 hak_8 hR_8 7 _ k y_9 hj (by omega) hja_8) (cwV 1 htT (kg_V m_ml_X5_151 m_im_X5_variantOf m_sl_X5_variantOf m_in_X5 m_cd_X5_variantOf) rfl rfl rfl (by decide +kernel) ⟨Nat.le_of_ble_eq_true rfl, Nat.le_of_ble_eq_true rfl⟩) (kp_V hK hP hD hTB (kp_rc hK hP hx5_8 (Nat.le_of_ble_eq_true rfl) rfl)) rfl rfl hl.1 rfl (lv_room (Nat.le_of_ble_eq_true rfl)) dX5_changesByTurning_51 ⟨Nat.le_of_ble_eq_true rfl, Nat.le_of_ble_eq_true rfl⟩) hD hS hA (fun r_9 x_9 H locs hq_9 hP hD hS => ?_)
    rw [hq_9.2] at hP hD
    rw [show r_9 = G k from hq_9.1.trans (by rw [hq_7, hq_4]; exact hG _ hE k y_9 (by omega) hja)]
    refine lv_iload hx hb dX5_changesByTurning_54 (lv_at hl 0 rfl) ?_
    refine lv_icmp_eq (tgt := 61) hx hb dX5_changesByTurning_56 (by decide) (fun c_10 => ?_) (fun c_10 => ?_)
    · refine lv_iinc (v := nI (k + 1)) (lv' := [(3, .int (nI (k + 1))), (5, .int (F k)), (4, .ref y_9), (2, .int (nI u)), (1, .int (nI i)), (0, .ref x)]) hx hb dX5_changesByTurning_61 hl (k := 2) rfl (nI_1 _) (by decide) rfl (fun ls hl => ?_)
      refine lv_goto (tgt := 2) hx hb dX5_changesByTurning_64 (by decide) ?_
      have hl := lv_sub hl [0, 3, 4, 5] rfl
      exact ih_2 _ (by omega) H locs ls ⟨k + 1, x_7, rfl, by omega, by rw [hC9, show n - k = (n - (k + 1)) + 1 by omega]; simp [rChg, c_10], hE_7, hP, hD, hS, hl⟩
    · refine lv_iconst (v := 1) hx hb dX5_changesByTurning_59 (by decide) ?_
      exact W.zret (v := 1) hx hb hr (rfl) (fun t ht hW => ⟨⟨1, x_7, rfl, ⟨by rw [hC9, show n - k = (n - (k + 1)) + 1 by omega]; simp [rChg, c_10], hE_7⟩, by rw [ht]; exact hP, va_K.moved hW.alike hK, hD⟩, hS.F ht⟩) hS.2.2 dX5_changesByTurning_60

set_option maxRecDepth 100000 in
set_option maxHeartbeats 4000000 in
/-- wouldTurn, exact -/
theorem c_wouldTurnX (l : Launch) (D : va_G) (cA : Nat → ClassId) (sz : Nat) (S : Pool) (x : Nat) (hx5 : isO S x 5) (ar : Nat) (hq0 : gQ S x 0 = some ar) (ak : Nat) (hq1 : gQ S x 1 = some ak) (hak : isO S ak 1) (hR : okR S ar) (j : Nat) (hj : j < 8) (a : Nat) (hja : gP S ar j = some a) (i : Nat) (hsw : kSw S ar (nI i) = some a) (n : Nat) (hn8 : n ≤ 8) (h2n : gI S x 2 = nI n) (hi : i < n) (mm : Nat) (hm1 : 1 ≤ mm) (hmm : mm ≤ 200) (h1 : kOut (nI mm) 1 200 = 0) (F G : Nat → Nat → Int32) (hF : ∀ U, eqA S U ak → ∀ u, u < 200 → ∀ k b, k < n → gP S ar k = some b → cV (cBec U ak (nI u) (nI u - nI u / 10 * 10) (nI u / 10 - nI u / 10 / 10 * 10)) x ar ak 8 b = F u k) (hG : ∀ U, eqA S U ak → ∀ u, u < 200 → ∀ k b, k < n → gP S ar k = some b → cV (pI (cBec U ak (nI u) (nI u - nI u / 10 * 10) (nI u / 10 - nI u / 10 / 10 * 10)) ak 3 (nI i)) x ar ak 8 b = G u k) (hrow : ∀ k, k < n → ∃ b, gP S ar k = some b)  : Met l yX5_wouldTurn (Cond.code yX5_wouldTurn cX5_wouldTurn 5 (some .int) :: TT) ({ frames := 27, cells := 0, slots := 0, locals := 645 }) (va_Pc [.ref x, .int (nI i), .int (nI mm)] (kPre D cA (PW cA S) sz)) (va_Qi (fun (r_ : Int32) (x_ : Pool) => r_ = rCnt (fun u => rChg (F u) (G u) (n - i) i) mm 0 0 ∧ eqA S x_ ak) (fun x_ => kB D cA (va_A (PW cA S) sz) (PW cA x_)) (va_A (PW cA S) sz)) 0 0 (va_A (PW cA S) sz) := by
  refine Met.ofW (cc := cX5_wouldTurn) (maxL := 5) (ret := (some .int)) (by decide) rfl ?_
  intro p e s m args below meth c s₁ B hml hv
  obtain ⟨rfl, hsz, hP, hK, hD0, hTB⟩ := hv
  have hx := B.exec
  have hb := B.bytes
  have hr := B.returns
  have hts := atoms_spec (ws := Cond.code yX5_wouldTurn cX5_wouldTurn 5 (some .int) :: TT) B.pre
  have htT : ∀ w ∈ TT, w.before _ s = true := fun w h => hts w (List.mem_cons_of_mem _ h)
  have hown : s.vm.findClass RX5 = some m.cls := findClass_of_methodNamed B.named
  have hlocks := B.notSynchronized
  subst hsz
  have hD := hD0.self (sz := s.heap.size)
  generalize hAe : va_A (PW cA S) s.heap.size = A at hD ⊢
  have hA : ∀ q : Nat, s.heap.size ≤ q → A q := fun q h => by rw [← hAe]; exact Or.inr h
  have hS : va_S A s.heap s.heap [] := va_S.rf
  have hl := lv_entry ([.ref x, .int (nI i), .int (nI mm)]) (n := 5) (Nat.le_of_ble_eq_true rfl)
  rw [lg_entry_eq]
  generalize (lg_sl ([.ref x, .int (nI i), .int (nI mm)]) ++ List.replicate (5 - (lg_sl ([.ref x, .int (nI i), .int (nI mm)])).length) Slot.unset).toArray = ls at hl ⊢
  have hl : lv_has ls 5 [(0, .ref x), (1, .int (nI i)), (2, .int (nI mm))] := hl
  refine lv_aload_n hx hb dX5_wouldTurn_0 rfl (lv_at hl 0 rfl) ?_
  refine lv_iload_n hx hb dX5_wouldTurn_1 rfl (lv_at hl 1 rfl) ?_
  refine kc_q (va_runV (As := [.int (nI i)]) (rest := []) ⟨hx, hb, hml, hown, htT⟩ (c_known l D cA _ S x hx5 ar hq0 hR.1 (nI i) a hsw) (cwV 1 htT (kg_V m_ml_X5_45 m_im_X5_known m_sl_X5_known m_in_X5 m_cd_X5_known) rfl rfl rfl (by decide +kernel) ⟨Nat.le_of_ble_eq_true rfl, Nat.le_of_ble_eq_true rfl⟩) (kp_V hK hP hD hTB (kp_rc hK hP hx5 (Nat.le_of_ble_eq_true rfl) rfl)) rfl rfl hl.1 rfl (lv_room (Nat.le_of_ble_eq_true rfl)) dX5_wouldTurn_2 ⟨Nat.le_of_ble_eq_true rfl, Nat.le_of_ble_eq_true rfl⟩) hD hS hA (fun r_1 x_1 H locs hq_1 hP hD hS => ?_)
  rw [hq_1.1]
  rw [hq_1.2] at hP hD
  refine lv_pop hx hb dX5_wouldTurn_5 rfl ?_
  refine lv_iload_n hx hb dX5_wouldTurn_6 rfl (lv_at hl 2 rfl) ?_
  refine kc_v (va_runS (As := [.int (nI mm)]) (rest := []) ⟨hx, hb, hml, hown, htT⟩ (c_checkMany l D cA _ S (nI mm) h1) (cwS 1 htT (kg_S m_ml_X5_230 m_st_X5_checkMany m_in_X5 m_cd_X5_checkMany) rfl rfl rfl (by decide +kernel) ⟨Nat.le_of_ble_eq_true rfl, Nat.le_of_ble_eq_true rfl⟩) (kp_S hK hP hD hTB) rfl rfl hl.1 rfl (lv_room (Nat.le_of_ble_eq_true rfl)) dX5_wouldTurn_7 ⟨Nat.le_of_ble_eq_true rfl, Nat.le_of_ble_eq_true rfl⟩) hD hS hA (fun x_2 H locs hq_2 hP hD hS => ?_)
  rw [hq_2] at hP hD
  refine lv_iconst (v := 0) hx hb dX5_wouldTurn_10 (by decide) ?_
  refine lv_istore_n (lv' := [(3, .int 0), (0, .ref x), (1, .int (nI i)), (2, .int (nI mm))]) hx hb dX5_wouldTurn_11 rfl hl (by decide) rfl (fun ls hl => ?_)
  refine lv_iconst (v := 0) hx hb dX5_wouldTurn_12 (by decide) ?_
  refine lv_istore (lv' := [(4, .int 0), (3, .int 0), (0, .ref x), (1, .int (nI i)), (2, .int (nI mm))]) hx hb dX5_wouldTurn_13 hl (by decide) rfl (fun ls hl => ?_)
  refine kz_loop 15 (fun N9 H locs ls => ∃ (u : Nat) (acc : Int32) (T : Pool), N9 = mm - u ∧ u ≤ mm ∧ rCnt (fun u => rChg (F u) (G u) (n - i) i) mm 0 0 = rCnt (fun u => rChg (F u) (G u) (n - i) i) (mm - u) u acc ∧ eqA S T ak ∧ va_P D vwCl (PW cA T) H ∧ va_D A (PW cA T) ∧ va_S A s.heap H locs ∧ lv_has ls 5 [(4, .int (nI u)), (3, .int acc), (2, .int (nI mm)), (1, .int (nI i)), (0, .ref x)]) (fun N9 ih_15 H locs ls hI => ?_) ⟨0, 0, S, rfl, by omega, rfl, eqA.rf, hP, hD, hS, lv_sub hl [0, 1, 4, 3, 2] rfl⟩
  obtain ⟨u, acc, T, hn9, hu, hC9, hE, hP, hD, hS, hl⟩ := hI
  have hx5_3 := hE.o hx5
  have hak_3 := hE.o hak
  have hR_3 := hE.okR hak hR
  have hq0_3 := (hE.q x 0).trans hq0
  have hq1_3 := (hE.q x 1).trans hq1
  refine lv_iload hx hb dX5_wouldTurn_15 (lv_at hl 0 rfl) ?_
  refine lv_iload_n hx hb dX5_wouldTurn_17 rfl (lv_at hl 2 rfl) ?_
  refine lv_icmp_ge (tgt := 40) hx hb dX5_wouldTurn_18 (by decide) (fun c_4 => ?_) (fun c_4 => ?_)
  · replace c_4 := (nI_leI (a := mm) (b := u) (by omega) (by omega)).mp c_4
    refine lv_iload_n hx hb dX5_wouldTurn_40 rfl (lv_at hl 1 rfl) ?_
    exact W.iret (v := acc) hx hb hr (fun t ht hW => ⟨⟨acc, T, rfl, ⟨by rw [hC9, show mm - u = 0 by omega]; rfl, hE⟩, by rw [ht]; exact hP, va_K.moved hW.alike hK, hD⟩, hS.F ht⟩) hS.2.2 dX5_wouldTurn_41
  · replace c_4 : ¬ (mm ≤ u) := fun h9 => c_4 ((nI_leI (a := mm) (b := u) (by omega) (by omega)).mpr h9)
    refine lv_aload_n hx hb dX5_wouldTurn_21 rfl (lv_at hl 4 rfl) ?_
    refine lv_iload_n hx hb dX5_wouldTurn_22 rfl (lv_at hl 3 rfl) ?_
    refine lv_iload hx hb dX5_wouldTurn_23 (lv_at hl 0 rfl) ?_
    refine kc_i (va_runV (As := [.int (nI i), .int (nI u)]) (rest := []) ⟨hx, hb, hml, hown, htT⟩ (c_changesByTurningX l D cA _ T x hx5_3 ar hq0_3 ak hq1_3 hak_3 hR_3 n hn8 ((hE.i hak hx5 (by decide) 2).trans h2n) i (by omega) u (by omega) (F u) (G u) (fun U hU k b hk hb => hF U (hE.tr hU) u (by omega) k b hk ((hE.p ar k).symm.trans hb)) (fun U hU k b hk hb => hG U (hE.tr hU) u (by omega) k b hk ((hE.p ar k).symm.trans hb)) (fun k hk => by obtain ⟨b, hb⟩ := hrow k hk; exact ⟨b, (hE.p ar k).trans hb⟩)) (cwV 2 htT (kg_V m_ml_X5_241 m_im_X5_changesByTurning m_sl_X5_changesByTurning m_in_X5 m_cd_X5_changesByTurning) rfl rfl rfl (by decide +kernel) ⟨Nat.le_of_ble_eq_true rfl, Nat.le_of_ble_eq_true rfl⟩) (kp_V hK hP hD hTB (kp_rc hK hP hx5_3 (Nat.le_of_ble_eq_true rfl) rfl)) rfl rfl hl.1 rfl (lv_room (Nat.le_of_ble_eq_true rfl)) dX5_wouldTurn_25 ⟨Nat.le_of_ble_eq_true rfl, Nat.le_of_ble_eq_true rfl⟩) hD hS hA (fun r_5 x_5 H locs hq_5 hP hD hS => ?_)
    have hE_5 := hE.tr hq_5.2
    have hx5_6 := hE_5.o hx5
    have hak_6 := hE_5.o hak
    have hR_6 := hE_5.okR hak hR
    have hq0_6 := (hE_5.q x 0).trans hq0
    have hq1_6 := (hE_5.q x 1).trans hq1
    have hz_5 : r_5 = 0 ∨ r_5 = 1 := by rw [hq_5.1]; exact rChg_01 _ _ _ _
    rcases hz_5 with hz_5 | hz_5
    · have e9 : rChg (F u) (G u) (n - i) i = 0 := hq_5.1.symm.trans hz_5
      rw [hz_5]
      refine lv_if_eq (tgt := 34) hx hb dX5_wouldTurn_28 (by decide) (fun _ => ?_) (fun c_7 => absurd c_7 (by decide))
      refine lv_iinc (v := nI (u + 1)) (lv' := [(4, .int (nI (u + 1))), (3, .int acc), (2, .int (nI mm)), (1, .int (nI i)), (0, .ref x)]) hx hb dX5_wouldTurn_34 hl (k := 0) rfl (nI_1 _) (by decide) rfl (fun ls hl => ?_)
      refine lv_goto (tgt := 15) hx hb dX5_wouldTurn_37 (by decide) ?_
      have hl := lv_sub hl [0, 1, 2, 3, 4] rfl
      exact ih_15 _ (by omega) H locs ls ⟨u + 1, _, x_5, rfl, by omega, by rw [hC9, show mm - u = (mm - (u + 1)) + 1 by omega]; simp [rCnt, e9], hE_5, hP, hD, hS, hl⟩
    · have e9 : rChg (F u) (G u) (n - i) i = 1 := hq_5.1.symm.trans hz_5
      rw [hz_5]
      refine lv_if_eq (tgt := 34) hx hb dX5_wouldTurn_28 (by decide) (fun c_8 => absurd c_8 (by decide)) (fun _ => ?_)
      obtain ⟨i_9, ei_9⟩ : ∃ y : Int32, y = acc + 1 := ⟨_, rfl⟩
      refine lv_iinc (v := i_9) (lv' := [(3, .int i_9), (4, .int (nI u)), (2, .int (nI mm)), (1, .int (nI i)), (0, .ref x)]) hx hb dX5_wouldTurn_31 hl (k := 1) rfl (by rw [ei_9]; rfl) (by decide) rfl (fun ls hl => ?_)
      refine lv_iinc (v := nI (u + 1)) (lv' := [(4, .int (nI (u + 1))), (3, .int i_9), (2, .int (nI mm)), (1, .int (nI i)), (0, .ref x)]) hx hb dX5_wouldTurn_34 hl (k := 1) rfl (nI_1 _) (by decide) rfl (fun ls hl => ?_)
      refine lv_goto (tgt := 15) hx hb dX5_wouldTurn_37 (by decide) ?_
      have hl := lv_sub hl [0, 1, 2, 3, 4] rfl
      exact ih_15 _ (by omega) H locs ls ⟨u + 1, _, x_5, rfl, by omega, by rw [hC9, show mm - u = (mm - (u + 1)) + 1 by omega]; simp [rCnt, e9, ei_9], hE_5, hP, hD, hS, hl⟩

