/-! Desk: what is drawn -/
theorem bel_and (v : Int32) : ∃ k, k < 2 ^ 31 ∧ v &&& 2147483647 = nI k := by
  have h : (v.toBitVec &&& 2147483647#32).toNat = v.toBitVec.toNat % 2 ^ 31 := by
    rw [BitVec.toNat_and]
    exact Nat.and_two_pow_sub_one_eq_mod _ 31
  have hk : v.toBitVec.toNat % 2 ^ 31 < 2 ^ 31 := Nat.mod_lt _ (by decide)
  refine ⟨v.toBitVec.toNat % 2 ^ 31, hk, ?_⟩
  apply Int32.toBitVec_inj.mp
  show v.toBitVec &&& 2147483647#32 = BitVec.ofNat 32 (v.toBitVec.toNat % 2 ^ 31)
  apply BitVec.eq_of_toNat_eq
  rw [h, BitVec.toNat_ofNat, Nat.mod_eq_of_lt (Nat.lt_trans hk (by decide))]
theorem rem_nI {a n : Nat} (ha : a < 2 ^ 31) (h0 : 0 < n) (hn : n < 2 ^ 31) : nI a - nI a / nI n * nI n = nI (a % n) := by
  rw [pk_div ha h0 hn, pk_mul, pk_sub (Nat.div_mul_le_self a n)]
  congr 1
  have h := Nat.div_add_mod a n
  rw [Nat.mul_comm] at h
  omega
theorem bel_rng (v : Int32) {N : Nat} (h0 : 0 < N) (hN : N < 2 ^ 31) : ∃ w, w < N ∧ (v &&& 2147483647) - (v &&& 2147483647) / nI N * nI N = nI w := by
  obtain ⟨k, hk, e⟩ := bel_and v
  rw [e]
  exact ⟨k % N, Nat.mod_lt _ h0, rem_nI hk h0 hN⟩
set_option maxRecDepth 100000 in
set_option maxHeartbeats 4000000 in
/-- below -/
theorem l_below (l : Launch) (D : va_G) (cA : Nat → ClassId) (sz : Nat) (ws : va_W) (v : Int32) (N : Nat) (hN0 : 0 < N) (hN : N < 2 ^ 31) : Met l yL_below (Cond.code yL_below cL_below 2 (some .int) :: TT) ({ frames := 0, cells := 0, slots := 0, locals := 0 }) (va_Pc [.int v, .int (nI N)] (kPre D cA ws sz)) (va_Qi (fun (r_ : Int32) (x_ : Unit) => ∃ w, w < N ∧ r_ = nI w) (fun x_ => kB D cA (va_A ws sz) (ws)) (va_A ws sz)) 0 0 (va_A ws sz) := by
  refine Met.ofW (cc := cL_below) (maxL := 2) (ret := (some .int)) (by decide) rfl ?_
  intro p e s m args below meth c s₁ B hml hv
  obtain ⟨rfl, hsz, hP, hK, hD0, hTB⟩ := hv
  have hx := B.exec
  have hb := B.bytes
  have hr := B.returns
  have hts := atoms_spec (ws := Cond.code yL_below cL_below 2 (some .int) :: TT) B.pre
  have htT : ∀ w ∈ TT, w.before _ s = true := fun w h => hts w (List.mem_cons_of_mem _ h)
  have hown : s.vm.findClass RL = some m.cls := findClass_of_methodNamed B.named
  have hlocks := B.notSynchronized
  subst hsz
  have hD := hD0.self (sz := s.heap.size)
  generalize hAe : va_A ws s.heap.size = A at hD ⊢
  have hA : ∀ q : Nat, s.heap.size ≤ q → A q := fun q h => by rw [← hAe]; exact Or.inr h
  have hS : va_S A s.heap s.heap [] := va_S.rf
  have hl := lv_entry ([.int v, .int (nI N)]) (n := 2) (Nat.le_of_ble_eq_true rfl)
  rw [lg_entry_eq]
  generalize (lg_sl ([.int v, .int (nI N)]) ++ List.replicate (2 - (lg_sl ([.int v, .int (nI N)])).length) Slot.unset).toArray = ls at hl ⊢
  have hl : lv_has ls 2 [(0, .int v), (1, .int (nI N))] := hl
  refine lv_iload_n hx hb dL_below_0 rfl (lv_at hl 0 rfl) ?_
  refine lv_ldc (v := 2147483647) hx hb hown (htT _ m_kc_L_7) dL_below_1 ?_
  refine lv_iand hx hb dL_below_3 ?_
  refine lv_iload_n hx hb dL_below_4 rfl (lv_at hl 1 rfl) ?_
  refine lv_irem hx hb dL_below_5 (fun h9 => by have := (nI_eq (a := N) (b := 0) (by omega) (by omega)).mp h9; omega) ?_
  exact W.iret (v := (v &&& 2147483647) - (v &&& 2147483647) / (nI N) * (nI N)) hx hb hr (fun t ht hW => ⟨⟨(v &&& 2147483647) - (v &&& 2147483647) / (nI N) * (nI N), (), rfl, bel_rng v hN0 hN, by rw [ht]; exact hP, va_K.moved hW.alike hK, hD⟩, hS.F ht⟩) hS.2.2 dL_below_6

set_option maxRecDepth 100000 in
set_option maxHeartbeats 4000000 in
/-- cell -/
theorem l_cell (l : Launch) (D : va_G) (cA : Nat → ClassId) (sz : Nat) (ws : va_W) (b L : Nat) (xs : Nat → Int32) (hL : L < 2 ^ 31) (k : Nat) (hk : k < 2 ^ 31) : Met l yL_cell (Cond.code yL_cell cL_cell 2 (some .int) :: TT) ({ frames := 0, cells := 0, slots := 0, locals := 0 }) (va_Pc [.ref b, .int (nI k)] (kPreE D cA ws b L xs sz)) (va_Qi (fun (r_ : Int32) (x_ : Unit) => True) (fun x_ => kB D cA (va_A ws sz) (ws)) (va_A ws sz)) 0 0 (va_A ws sz) := by
  refine Met.ofW (cc := cL_cell) (maxL := 2) (ret := (some .int)) (by decide) rfl ?_
  intro p e s m args below meth c s₁ B hml hv
  obtain ⟨rfl, ⟨⟨hsz, hP, hK, hD0, hTB⟩, hTX⟩, hX, hbl, hbA, hAO⟩ := hv
  have hx := B.exec
  have hb := B.bytes
  have hr := B.returns
  have hts := atoms_spec (ws := Cond.code yL_cell cL_cell 2 (some .int) :: TT) B.pre
  have htT : ∀ w ∈ TT, w.before _ s = true := fun w h => hts w (List.mem_cons_of_mem _ h)
  have hown : s.vm.findClass RL = some m.cls := findClass_of_methodNamed B.named
  have hlocks := B.notSynchronized
  subst hsz
  have hD := hD0.self (sz := s.heap.size)
  generalize hAe : va_A ws s.heap.size = A at hD hTX hbA ⊢
  have hA : ∀ q : Nat, s.heap.size ≤ q → A q := fun q h => by rw [← hAe]; exact Or.inr h
  have hS : va_S A s.heap s.heap [] := va_S.rf
  have hl := lv_entry ([.ref b, .int (nI k)]) (n := 2) (Nat.le_of_ble_eq_true rfl)
  rw [lg_entry_eq]
  generalize (lg_sl ([.ref b, .int (nI k)]) ++ List.replicate (2 - (lg_sl ([.ref b, .int (nI k)])).length) Slot.unset).toArray = ls at hl ⊢
  have hl : lv_has ls 2 [(0, .ref b), (1, .int (nI k))] := hl
  refine lv_iload_n hx hb dL_cell_0 rfl (lv_at hl 1 rfl) ?_
  refine lv_aload_n hx hb dL_cell_1 rfl (lv_at hl 0 rfl) ?_
  refine va_slen hx hb hX hbl hbA hS dL_cell_2 ?_
  refine lv_icmp_ge (tgt := 12) hx hb dL_cell_3 (by decide) (fun c_1 => ?_) (fun c_1 => ?_)
  · replace c_1 := (nI_leI (a := L) (b := k) (by omega) (by omega)).mp c_1
    refine lv_ldc (v := 790386105) hx hb hown (htT _ m_kc_L_8) dL_cell_12 ?_
    refine lv_iload_n hx hb dL_cell_14 rfl (lv_at hl 1 rfl) ?_
    refine lv_iconst (v := 3) hx hb dL_cell_15 (by decide) ?_
    refine lv_iadd hx hb dL_cell_16 ?_
    rw [show ((nI k) + 3 : Int32) = nI (k + 3) from nI_add k 3]
    refine lv_imul hx hb dL_cell_17 ?_
    rw [show (790386105 * (nI (k + 3)) : Int32) = nI (790386105 * (k + 3)) from pk_mul 790386105 (k + 3)]
    exact W.iret (v := nI (790386105 * (k + 3))) hx hb hr (fun t ht hW => ⟨⟨nI (790386105 * (k + 3)), (), rfl, trivial, by rw [ht]; exact hP, va_K.moved hW.alike hK, hD⟩, hS.F ht⟩) hS.2.2 dL_cell_18
  · replace c_1 : ¬ (L ≤ k) := fun h9 => c_1 ((nI_leI (a := L) (b := k) (by omega) (by omega)).mpr h9)
    refine lv_aload_n hx hb dL_cell_6 rfl (lv_at hl 0 rfl) ?_
    refine lv_iload_n hx hb dL_cell_7 rfl (lv_at hl 1 rfl) ?_
    refine va_sld hx hb hX hbl hbA hS (show vp_in (nI k) L from ki_in (by omega) (by omega)) dL_cell_8 ?_
    refine lv_goto (tgt := 18) hx hb dL_cell_9 (by decide) ?_
    exact W.iret (v := xs (nI k).toNatClampNeg) hx hb hr (fun t ht hW => ⟨⟨xs (nI k).toNatClampNeg, (), rfl, trivial, by rw [ht]; exact hP, va_K.moved hW.alike hK, hD⟩, hS.F ht⟩) hS.2.2 dL_cell_18

set_option maxRecDepth 100000 in
set_option maxHeartbeats 4000000 in
/-- draw -/
theorem d_draw (l : Launch) (D : va_G) (cA : Nat → ClassId) (sz : Nat) (wb : va_W) (b L : Nat) (xs : Nat → Int32) (hL : L < 2 ^ 31) (T : Pool) (d x : Nat) (Ad : DA) (n na : Nat) (fF : Nat → Int32) (fO fW : Nat → Nat → Int32) (fC : Nat → Nat) (fR : Nat → Nat → Nat → Int32) (fB : Nat → Nat → Int32) (dk : DK T d x b Ad (n, na, fF, fO, fW, fC, fR, fB)) (dr : Nat) (hdr : fF 2 = nI dr) (hd9 : dr < 2000000) (N : Nat) (hN0 : 0 < N) (hN : N < 2 ^ 31) : Met l yX6_draw (Cond.code yX6_draw cX6_draw 3 (some .int) :: TT) ({ frames := 1, cells := 0, slots := 0, locals := 21 }) (va_Pc [.ref d, .int (nI N)] (kPreE D cA (PW cA T ++ wb) b L xs sz)) (va_Qi (fun (r_ : Int32) (x_ : Pool) => (∃ w, w < N ∧ r_ = nI w) ∧ x_ = pI T d 2 (nI (dr + 1))) (fun x_ => kB D cA (va_A (PW cA T ++ wb) sz) (PW cA x_ ++ wb)) (va_A (PW cA T ++ wb) sz)) 0 0 (va_A (PW cA T ++ wb) sz) := by
  refine Met.ofW (cc := cX6_draw) (maxL := 3) (ret := (some .int)) (by decide) rfl ?_
  intro p e s m args below meth c s₁ B hml hv
  obtain ⟨rfl, ⟨⟨hsz, hP, hK, hD0, hTB⟩, hTX⟩, hX, hbl, hbA, hAO⟩ := hv
  have hx := B.exec
  have hb := B.bytes
  have hr := B.returns
  have hts := atoms_spec (ws := Cond.code yX6_draw cX6_draw 3 (some .int) :: TT) B.pre
  have htT : ∀ w ∈ TT, w.before _ s = true := fun w h => hts w (List.mem_cons_of_mem _ h)
  have hown : s.vm.findClass RX6 = some m.cls := findClass_of_methodNamed B.named
  have hlocks := B.notSynchronized
  subst hsz
  have hD := hD0.self (sz := s.heap.size)
  generalize hAe : va_A (PW cA T ++ wb) s.heap.size = A at hD hTX hbA ⊢
  have hA : ∀ q : Nat, s.heap.size ≤ q → A q := fun q h => by rw [← hAe]; exact Or.inr h
  have hS : va_S A s.heap s.heap [] := va_S.rf
  have hl := lv_entry ([.ref d, .int (nI N)]) (n := 3) (Nat.le_of_ble_eq_true rfl)
  rw [lg_entry_eq]
  generalize (lg_sl ([.ref d, .int (nI N)]) ++ List.replicate (3 - (lg_sl ([.ref d, .int (nI N)])).length) Slot.unset).toArray = ls at hl ⊢
  have hl : lv_has ls 3 [(0, .ref d), (1, .int (nI N))] := hl
  refine lv_aload_n hx hb dX6_draw_0 rfl (lv_at hl 0 rfl) ?_
  refine kd_gets (r := b) hx hb htT m_u_X6 hown hK hP dk.o rfl 1 (by decide) (by decide) rfl dk.q1 (htT _ m_fl_X6_34) dX6_draw_1 ?_
  refine lv_aload_n hx hb dX6_draw_4 rfl (lv_at hl 0 rfl) ?_
  refine kd_getiv (x := nI dr) hx hb htT m_u_X6 hown hK hP dk.o rfl 2 (by decide) (by decide) rfl (htT _ m_fl_X6_37) ((dk.f 2).trans ((show _ = fF 2 from rfl).trans hdr)) dX6_draw_5 ?_
  refine lv_bipush (v := 24) hx hb dX6_draw_8 (by decide) ?_
  refine lv_irem hx hb dX6_draw_10 (by decide) ?_
  rw [show ((nI dr) - (nI dr) / 24 * 24 : Int32) = nI (dr % 24) from rem_nI (n := 24) (by omega) (by decide) (by decide)]
  refine kc_i (va_runSN (As := [.ref b, .int (nI (dr % 24))]) (rest := []) ⟨hx, hb, hml, hown, htT⟩ (l_cell l D cA _ (PW cA T ++ wb) b L xs hL (dr % 24) (by omega)) (⟨va_cnB 2 htT (kg_I m_cd_L_cell) rfl rfl rfl (hTB.1 _ m_ml_X6_41) (htT _ m_in_L) (by decide +kernel) ⟨Nat.le_of_ble_eq_true rfl, Nat.le_of_ble_eq_true rfl⟩, htT _ m_st_L_cell, trivial⟩) (kpe_S hK hP hD hTB hTX hX hbl hbA hAO hS hA) rfl rfl hl.1 rfl (lv_room (Nat.le_of_ble_eq_true rfl)) dX6_draw_11 ⟨Nat.le_of_ble_eq_true rfl, Nat.le_of_ble_eq_true rfl⟩) hD hS hA (fun r_1 x_1 H locs hq_1 hP hD hS => ?_)
  refine lv_aload_n hx hb dX6_draw_14 rfl (lv_at hl 0 rfl) ?_
  refine kd_getiv (x := nI dr) hx hb htT m_u_X6 hown hK hP dk.o rfl 2 (by decide) (by decide) rfl (htT _ m_fl_X6_37) ((dk.f 2).trans ((show _ = fF 2 from rfl).trans hdr)) dX6_draw_15 ?_
  refine lv_bipush (v := 24) hx hb dX6_draw_18 (by decide) ?_
  refine lv_idiv hx hb dX6_draw_20 (by decide) ?_
  refine lv_bipush (v := 8) hx hb dX6_draw_21 (by decide) ?_
  refine lv_irem hx hb dX6_draw_23 (by decide) ?_
  refine lv_ishr hx hb dX6_draw_24 ?_
  refine lv_bipush (v := 127) hx hb dX6_draw_25 (by decide) ?_
  refine lv_aload_n hx hb dX6_draw_27 rfl (lv_at hl 0 rfl) ?_
  refine kd_getiv (x := nI dr) hx hb htT m_u_X6 hown hK hP dk.o rfl 2 (by decide) (by decide) rfl (htT _ m_fl_X6_37) ((dk.f 2).trans ((show _ = fF 2 from rfl).trans hdr)) dX6_draw_28 ?_
  refine lv_imul hx hb dX6_draw_31 ?_
  rw [show (127 * (nI dr) : Int32) = nI (127 * dr) from pk_mul 127 dr]
  refine lv_iadd hx hb dX6_draw_32 ?_
  refine lv_iload_n hx hb dX6_draw_33 rfl (lv_at hl 1 rfl) ?_
  refine kc_i (va_runSN (As := [.int ((r_1 >>> ((((nI dr) / 24) - ((nI dr) / 24) / 8 * 8) &&& 31)) + (nI (127 * dr))), .int (nI N)]) (rest := []) ⟨hx, hb, hml, hown, htT⟩ (l_below l D cA _ (PW cA T ++ wb) ((r_1 >>> ((((nI dr) / 24) - ((nI dr) / 24) / 8 * 8) &&& 31)) + (nI (127 * dr))) N hN0 hN) (⟨va_cnB 2 htT (kg_I m_cd_L_below) rfl rfl rfl (hTB.1 _ m_ml_X6_47) (htT _ m_in_L) (by decide +kernel) ⟨Nat.le_of_ble_eq_true rfl, Nat.le_of_ble_eq_true rfl⟩, htT _ m_st_L_below, trivial⟩) (kp_S hK hP hD hTB) rfl rfl hl.1 rfl (lv_room (Nat.le_of_ble_eq_true rfl)) dX6_draw_34 ⟨Nat.le_of_ble_eq_true rfl, Nat.le_of_ble_eq_true rfl⟩) hD hS hA (fun r_2 x_2 H locs hq_2 hP hD hS => ?_)
  refine lv_istore_n (lv' := [(2, .int r_2), (0, .ref d), (1, .int (nI N))]) hx hb dX6_draw_37 rfl hl (by decide) rfl (fun ls hl => ?_)
  refine lv_aload_n hx hb dX6_draw_38 rfl (lv_at hl 1 rfl) ?_
  refine lv_dup hx hb dX6_draw_39 rfl ?_
  refine kd_getiv (x := nI dr) hx hb htT m_u_X6 hown hK hP dk.o rfl 2 (by decide) (by decide) rfl (htT _ m_fl_X6_37) ((dk.f 2).trans ((show _ = fF 2 from rfl).trans hdr)) dX6_draw_40 ?_
  refine lv_iconst (v := 1) hx hb dX6_draw_43 (by decide) ?_
  refine lv_iadd hx hb dX6_draw_44 ?_
  rw [show ((nI dr) + 1 : Int32) = nI (dr + 1) from nI_add dr 1]
  refine kd_puti (ty := .int) hx hb htT m_u_X6 tyX6 tyX6_ok nmX6 hown hK hP hD hS dk.o rfl 2 (by decide) (by decide) rfl (htT _ m_fl_X6_37) rfl (by decide +kernel) rfl rfl dX6_draw_45 (fun H locs hP hD hS => ?_)
  have dk_3 : DK (pI T d 2 (nI (dr + 1))) d x b Ad (n, na, (upd fF 2 (nI (dr + 1))), fO, fW, fC, fR, fB) := dk.num
  refine lv_iload_n hx hb dX6_draw_48 rfl (lv_at hl 0 rfl) ?_
  exact W.iret (v := r_2) hx hb hr (fun t ht hW => ⟨⟨r_2, pI T d 2 (nI (dr + 1)), rfl, ⟨hq_2, rfl⟩, by rw [ht]; exact hP, va_K.moved hW.alike hK, hD⟩, hS.F ht⟩) hS.2.2 dX6_draw_49

