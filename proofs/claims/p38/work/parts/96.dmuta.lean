set_option maxRecDepth 100000 in
set_option maxHeartbeats 4000000 in
/-- d_turn -/
theorem d_turn (l : Launch) (D : va_G) (cA : Nat → ClassId) (sz : Nat) (b L : Nat) (xs : Nat → Int32) (hL : L < 2 ^ 31) (T S : Pool) (d x ar ak D0 c0 s0 n0 : Nat) (hD0 : D0 < 1000000) (hc0 : c0 < 100000) (hs0 : s0 < 1000000) (hJ : J38 d x b ar ak D0 c0 s0 n0 T S) (hn0 : 1 ≤ n0)  : Met l yX6_turn (Cond.code yX6_turn cX6_turn 3 (some .boolean) :: TT) ({ frames := 3, cells := 0, slots := 0, locals := 67 }) (va_Pc [.ref d] (kPreE D cA (PW cA T ++ PW cA S) b L xs sz)) (va_Qi (fun (r_ : Int32) (x_ : Pool × Pool) => r_ = 1 ∧ J38 d x b ar ak (D0 + 8) (c0) (s0) (n0) x_.1 x_.2) (fun x_ => kB D cA (va_A (PW cA T ++ PW cA S) sz) (PW cA x_.1 ++ PW cA x_.2)) (va_A (PW cA T ++ PW cA S) sz)) 0 0 (va_A (PW cA T ++ PW cA S) sz) := by
  refine Met.ofW (cc := cX6_turn) (maxL := 3) (ret := (some .boolean)) (by decide) rfl ?_
  intro p e s m args below meth c s₁ B hml hv
  obtain ⟨rfl, ⟨⟨hsz, hP, hK, hD0, hTB⟩, hTX⟩, hX, hbl, hbA, hAO⟩ := hv
  have hx := B.exec
  have hb := B.bytes
  have hr := B.returns
  have hts := atoms_spec (ws := Cond.code yX6_turn cX6_turn 3 (some .boolean) :: TT) B.pre
  have htT : ∀ w ∈ TT, w.before _ s = true := fun w h => hts w (List.mem_cons_of_mem _ h)
  have hown : s.vm.findClass RX6 = some m.cls := findClass_of_methodNamed B.named
  have hlocks := B.notSynchronized
  subst hsz
  have hD := hD0.self (sz := s.heap.size)
  generalize hAe : va_A (PW cA T ++ PW cA S) s.heap.size = A at hD hTX hbA ⊢
  have hA : ∀ q : Nat, s.heap.size ≤ q → A q := fun q h => by rw [← hAe]; exact Or.inr h
  have hS : va_S A s.heap s.heap [] := va_S.rf
  have hl := lv_entry ([.ref d]) (n := 3) (Nat.le_of_ble_eq_true rfl)
  rw [lg_entry_eq]
  generalize (lg_sl ([.ref d]) ++ List.replicate (3 - (lg_sl ([.ref d])).length) Slot.unset).toArray = ls at hl ⊢
  have hl : lv_has ls 3 [(0, .ref d)] := hl
  obtain ⟨n, na, dr, cM, sB, Ad, fF, fO, fW, fC, fR, fB, M, hn9, hdr9, hcM9, hsB9, dk, hvm, gg, hM⟩ := hJ
  have hn8 : n ≤ 8 := dk.n8
  have hna : na ≤ 100 := gg.r.na
  have hdr : fF 2 = nI dr := hvm.f2
  have oF5 : fF 5 = nI n := hvm.f5
  have oF3 : fF 3 = nI cM := hvm.f3.trans hM.1.1
  refine lv_aload_n hx hb dX6_turn_0 rfl (lv_at hl 0 rfl) ?_
  refine lv_aload_n hx hb dX6_turn_1 rfl (lv_at hl 0 rfl) ?_
  refine kd_getiv (x := nI n) hx hb htT m_u_X6 hown hK hP dk.o rfl 5 (by decide) (by decide) rfl (htT _ m_fl_X6_57) ((dk.f 5).trans ((show _ = fF 5 from rfl).trans oF5)) dX6_turn_2 ?_
  refine kc_i (va_runV (As := [.int (nI n)]) (rest := []) ⟨hx, hb, hml, hown, htT⟩ (d_draw l D cA _ (PW cA S) b L xs hL T d x Ad n na fF fO fW fC fR fB dk (dr) hdr (by omega) (n) (by omega) (by omega)) (cwV 1 htT (kg_V m_ml_X6_60 m_im_X6_draw m_sl_X6_draw m_in_X6 m_cd_X6_draw) rfl rfl rfl (by decide +kernel) ⟨Nat.le_of_ble_eq_true rfl, Nat.le_of_ble_eq_true rfl⟩) (kpe_V hK hP hD hTB hTX hX hbl hbA hAO hS hA (kpe_rc hK hP dk.o rfl)) rfl rfl hl.1 rfl (lv_room (Nat.le_of_ble_eq_true rfl)) dX6_turn_5 ⟨Nat.le_of_ble_eq_true rfl, Nat.le_of_ble_eq_true rfl⟩) hD hS hA (fun r_1 x_1 H locs hq_1 hP hD hS => ?_)
  obtain ⟨⟨k, hk, hr_1⟩, ht_1⟩ := hq_1
  rw [hr_1]
  rw [ht_1] at hP hD
  have dk_2 : DK (pI T d 2 (nI (dr + 1))) d x b Ad (n, na, (upd fF 2 (nI (dr + 1))), fO, fW, fC, fR, fB) := dk.num
  have q8_k : k < 8 := by omega
  obtain ⟨a_k, ja_k⟩ := gg.c.row k (by omega)
  have sw_k := gg.sw2 (by omega) ja_k
  rcases (gg.r.2.1 k hk).2 with h11 | h11
  · refine lv_istore_n (lv' := [(1, .int (nI k)), (0, .ref d)]) hx hb dX6_turn_8 rfl hl (by decide) rfl (fun ls hl => ?_)
    refine lv_aload_n hx hb dX6_turn_9 rfl (lv_at hl 1 rfl) ?_
    refine kd_gets (r := (aO Ad)) hx hb htT m_u_X6 hown hK hP dk_2.o rfl 6 (by decide) (by decide) rfl dk_2.q6 (htT _ m_fl_X6_18) dX6_turn_10 ?_
    refine lv_iload_n hx hb dX6_turn_13 rfl (lv_at hl 0 rfl) ?_
    refine ky_alda (r := some (aOk Ad k)) hx hb hK hP dk_2.ao (show vp_in (nI (k)) 8 from ki_in (by omega) (by omega)) ((congrArg _ (ki_cl (n := k) (by omega))).trans (dk_2.op (k := k) (show k < n by omega))) dX6_turn_14 ?_
    refine lv_iconst (v := 3) hx hb dX6_turn_15 (by decide) ?_
    refine kx_ialdv (x := 0) hx hb hK (kmy_P hP) (dk_2.oa (k := k) (show k < n by omega)) (Nat.le_of_ble_eq_true rfl) (Nat.le_of_ble_eq_true rfl) (show vp_in 3 12 from ki_in (n := 3) (by omega) (by omega)) ((congrArg _ (ki_cl (n := 3) (by omega))).trans ((dk_2.ov (k := k) (j := 3) (show k < n by omega) (show 3 < 12 by omega)).trans (((hvm.o hk (q := (3, 11)) (by decide)).trans h11)))) dX6_turn_16 ?_
    refine lv_istore_n (lv' := [(2, .int 0), (1, .int (nI k)), (0, .ref d)]) hx hb dX6_turn_17 rfl hl (by decide) rfl (fun ls hl => ?_)
    refine lv_aload_n hx hb dX6_turn_18 rfl (lv_at hl 2 rfl) ?_
    refine kd_gets (r := (aO Ad)) hx hb htT m_u_X6 hown hK hP dk_2.o rfl 6 (by decide) (by decide) rfl dk_2.q6 (htT _ m_fl_X6_18) dX6_turn_19 ?_
    refine lv_iload_n hx hb dX6_turn_22 rfl (lv_at hl 1 rfl) ?_
    refine ky_alda (r := some (aOk Ad k)) hx hb hK hP dk_2.ao (show vp_in (nI (k)) 8 from ki_in (by omega) (by omega)) ((congrArg _ (ki_cl (n := k) (by omega))).trans (dk_2.op (k := k) (show k < n by omega))) dX6_turn_23 ?_
    refine lv_iconst (v := 3) hx hb dX6_turn_24 (by decide) ?_
    refine lv_aload_n hx hb dX6_turn_25 rfl (lv_at hl 2 rfl) ?_
    refine lv_iconst (v := 5) hx hb dX6_turn_26 (by decide) ?_
    refine kc_i (va_runV (As := [.int 5]) (rest := [.int 3, .ref (aOk Ad k)]) ⟨hx, hb, hml, hown, htT⟩ (d_draw l D cA _ (PW cA S) b L xs hL (pI T d 2 (nI (dr + 1))) d x Ad n na (upd fF 2 (nI (dr + 1))) fO fW fC fR fB dk_2 (dr + 1) rfl (by omega) (5) (by omega) (by omega)) (cwV 1 htT (kg_V m_ml_X6_60 m_im_X6_draw m_sl_X6_draw m_in_X6 m_cd_X6_draw) rfl rfl rfl (by decide +kernel) ⟨Nat.le_of_ble_eq_true rfl, Nat.le_of_ble_eq_true rfl⟩) (kpe_V hK hP hD hTB hTX hX hbl hbA hAO hS hA (kpe_rc hK hP dk_2.o rfl)) rfl rfl hl.1 rfl (lv_room (Nat.le_of_ble_eq_true rfl)) dX6_turn_27 ⟨Nat.le_of_ble_eq_true rfl, Nat.le_of_ble_eq_true rfl⟩) hD hS hA (fun r_3 x_3 H locs hq_3 hP hD hS => ?_)
    obtain ⟨⟨w5, hw5, hr_3⟩, ht_3⟩ := hq_3
    rw [hr_3]
    rw [ht_3] at hP hD
    have dk_4 : DK (pI (pI T d 2 (nI (dr + 1))) d 2 (nI (dr + 1 + 1))) d x b Ad (n, na, (upd (upd fF 2 (nI (dr + 1))) 2 (nI (dr + 1 + 1))), fO, fW, fC, fR, fB) := dk_2.num
    refine lv_if_le (tgt := 37) hx hb dX6_turn_30 (by decide) (fun c_5 => ?_) (fun c_5 => ?_)
    · replace c_5 := (nI_leI (a := w5) (b := 0) (by omega) (by omega)).mp c_5
      refine lv_iconst (v := 0) hx hb dX6_turn_37 (by decide) ?_
      refine ky_iastv hx hb hK hP hD hS (dk_4.oa (k := k) (show k < n by omega)) (Nat.le_of_ble_eq_true rfl) (Nat.le_of_ble_eq_true rfl) (show vp_in 3 12 from ki_in (n := 3) (by omega) (by omega)) (ki_cl (n := 3) (by omega)) dX6_turn_38 (fun H locs hP hD hS => ?_)
      have dk_6 : DK (pR (pI (pI T d 2 (nI (dr + 1))) d 2 (nI (dr + 1 + 1))) (aOk Ad k) 3 0) d x b Ad (n, na, (upd (upd fF 2 (nI (dr + 1))) 2 (nI (dr + 1 + 1))), (u2 fO k 3 0), fW, fC, fR, fB) := dk_4.one (show k < n by omega)
      refine lv_aload_n hx hb dX6_turn_39 rfl (lv_at hl 2 rfl) ?_
      refine kd_gets (r := x) hx hb htT m_u_X6 hown hK hP dk_6.o rfl 0 (by decide) (by decide) rfl dk_6.q0 (htT _ m_fl_X6_10) dX6_turn_40 ?_
      refine lv_iload_n hx hb dX6_turn_43 rfl (lv_at hl 1 rfl) ?_
      refine lv_aload_n hx hb dX6_turn_44 rfl (lv_at hl 2 rfl) ?_
      refine kd_gets (r := (aO Ad)) hx hb htT m_u_X6 hown hK hP dk_6.o rfl 6 (by decide) (by decide) rfl dk_6.q6 (htT _ m_fl_X6_18) dX6_turn_45 ?_
      refine lv_iload_n hx hb dX6_turn_48 rfl (lv_at hl 1 rfl) ?_
      refine ky_alda (r := some (aOk Ad k)) hx hb hK hP dk_6.ao (show vp_in (nI (k)) 8 from ki_in (by omega) (by omega)) ((congrArg _ (ki_cl (n := k) (by omega))).trans (dk_6.op (k := k) (show k < n by omega))) dX6_turn_49 ?_
      refine lv_iconst (v := 3) hx hb dX6_turn_50 (by decide) ?_
      refine kx_ialdv (x := 0) hx hb hK (kmy_P hP) (dk_6.oa (k := k) (show k < n by omega)) (Nat.le_of_ble_eq_true rfl) (Nat.le_of_ble_eq_true rfl) (show vp_in 3 12 from ki_in (n := 3) (by omega) (by omega)) ((congrArg _ (ki_cl (n := 3) (by omega))).trans ((dk_6.ov (k := k) (j := 3) (show k < n by omega) (show 3 < 12 by omega)).trans (u2_s))) dX6_turn_51 ?_
      refine lv_iconst (v := 1) hx hb dX6_turn_52 (by decide) ?_
      refine lv_icmp_ne (tgt := 60) hx hb dX6_turn_53 (by decide) (fun _ => ?_) (fun c_7 => absurd c_7 (by decide))
      refine lv_iconst (v := 0) hx hb dX6_turn_60 (by decide) ?_
      refine kn_i (va_runV (As := [.int (nI k), .int 0]) (rest := []) ⟨hx, hb, hml, hown, htT⟩ (c_turn l D cA _ S x gg.c.hx ar gg.c.q0 ak gg.c.q1 gg.c.kk gg.c.R k q8_k a_k ja_k (nI k) sw_k 0 (Or.inl rfl)) (cwV 2 htT (kg_V m_ml_X6_75 m_im_X5_turn m_sl_X5_turn m_in_X5 m_cd_X5_turn) rfl rfl rfl (by decide +kernel) ⟨Nat.le_of_ble_eq_true rfl, Nat.le_of_ble_eq_true rfl⟩) (kn_V hK hP hD hTB gg.c.hx (Nat.le_of_ble_eq_true rfl) rfl) rfl rfl hl.1 rfl (lv_room (Nat.le_of_ble_eq_true rfl)) dX6_turn_61 ⟨Nat.le_of_ble_eq_true rfl, Nat.le_of_ble_eq_true rfl⟩) hP hD hS hA (fun r_8 x_8 H locs hq_8 hP hD hS => ?_)
      rw [hq_8.1.trans ((gg.l.rn hk ja_k (q := (9, 11)) (by decide)).trans h11)]
      have gg2 : GG n na x_8 (mR M 11 k 0) x ar ak := by rw [hq_8.2]; exact gg.turn hk ja_k (Or.inl rfl)
      refine lv_iload_n hx hb dX6_turn_64 rfl (lv_at hl 0 rfl) ?_
      refine lv_iconst (v := 1) hx hb dX6_turn_65 (by decide) ?_
      refine lv_icmp_ne (tgt := 73) hx hb dX6_turn_66 (by decide) (fun _ => ?_) (fun c_9 => absurd c_9 (by decide))
      refine lv_iconst (v := 0) hx hb dX6_turn_73 (by decide) ?_
      refine lv_icmp_ne (tgt := 81) hx hb dX6_turn_74 (by decide) (fun c_10 => absurd c_10 (by decide)) (fun _ => ?_)
      refine lv_iconst (v := 1) hx hb dX6_turn_77 (by decide) ?_
      refine lv_goto (tgt := 82) hx hb dX6_turn_78 (by decide) ?_
      exact W.zret (v := 1) hx hb hr (rfl) (fun t ht hW => ⟨⟨1, (pR (pI (pI T d 2 (nI (dr + 1))) d 2 (nI (dr + 1 + 1))) (aOk Ad k) 3 0, x_8), rfl, ⟨rfl, n, na, dr + 1 + 1, cM, sB, _, _, _, _, _, _, _, (mR M 11 k 0), by omega, by omega, by omega, by omega, dk_6, (((hvm.draw (d2 := dr + 1)).draw (d2 := dr + 1 + 1)).one (q := (3, 11)) (by decide) (by decide)), gg2, hM.turn⟩, by rw [ht]; exact hP, va_K.moved hW.alike hK, hD⟩, hS.F ht⟩) hS.2.2 dX6_turn_82
    · replace c_5 : ¬ (w5 ≤ 0) := fun h9 => c_5 ((nI_leI (a := w5) (b := 0) (by omega) (by omega)).mpr h9)
      refine lv_iconst (v := 1) hx hb dX6_turn_33 (by decide) ?_
      refine lv_goto (tgt := 38) hx hb dX6_turn_34 (by decide) ?_
      refine ky_iastv hx hb hK hP hD hS (dk_4.oa (k := k) (show k < n by omega)) (Nat.le_of_ble_eq_true rfl) (Nat.le_of_ble_eq_true rfl) (show vp_in 3 12 from ki_in (n := 3) (by omega) (by omega)) (ki_cl (n := 3) (by omega)) dX6_turn_38 (fun H locs hP hD hS => ?_)
      have dk_11 : DK (pR (pI (pI T d 2 (nI (dr + 1))) d 2 (nI (dr + 1 + 1))) (aOk Ad k) 3 1) d x b Ad (n, na, (upd (upd fF 2 (nI (dr + 1))) 2 (nI (dr + 1 + 1))), (u2 fO k 3 1), fW, fC, fR, fB) := dk_4.one (show k < n by omega)
      refine lv_aload_n hx hb dX6_turn_39 rfl (lv_at hl 2 rfl) ?_
      refine kd_gets (r := x) hx hb htT m_u_X6 hown hK hP dk_11.o rfl 0 (by decide) (by decide) rfl dk_11.q0 (htT _ m_fl_X6_10) dX6_turn_40 ?_
      refine lv_iload_n hx hb dX6_turn_43 rfl (lv_at hl 1 rfl) ?_
      refine lv_aload_n hx hb dX6_turn_44 rfl (lv_at hl 2 rfl) ?_
      refine kd_gets (r := (aO Ad)) hx hb htT m_u_X6 hown hK hP dk_11.o rfl 6 (by decide) (by decide) rfl dk_11.q6 (htT _ m_fl_X6_18) dX6_turn_45 ?_
      refine lv_iload_n hx hb dX6_turn_48 rfl (lv_at hl 1 rfl) ?_
      refine ky_alda (r := some (aOk Ad k)) hx hb hK hP dk_11.ao (show vp_in (nI (k)) 8 from ki_in (by omega) (by omega)) ((congrArg _ (ki_cl (n := k) (by omega))).trans (dk_11.op (k := k) (show k < n by omega))) dX6_turn_49 ?_
      refine lv_iconst (v := 3) hx hb dX6_turn_50 (by decide) ?_
      refine kx_ialdv (x := 1) hx hb hK (kmy_P hP) (dk_11.oa (k := k) (show k < n by omega)) (Nat.le_of_ble_eq_true rfl) (Nat.le_of_ble_eq_true rfl) (show vp_in 3 12 from ki_in (n := 3) (by omega) (by omega)) ((congrArg _ (ki_cl (n := 3) (by omega))).trans ((dk_11.ov (k := k) (j := 3) (show k < n by omega) (show 3 < 12 by omega)).trans (u2_s))) dX6_turn_51 ?_
      refine lv_iconst (v := 1) hx hb dX6_turn_52 (by decide) ?_
      refine lv_icmp_ne (tgt := 60) hx hb dX6_turn_53 (by decide) (fun c_12 => absurd c_12 (by decide)) (fun _ => ?_)
      refine lv_iconst (v := 1) hx hb dX6_turn_56 (by decide) ?_
      refine lv_goto (tgt := 61) hx hb dX6_turn_57 (by decide) ?_
      refine kn_i (va_runV (As := [.int (nI k), .int 1]) (rest := []) ⟨hx, hb, hml, hown, htT⟩ (c_turn l D cA _ S x gg.c.hx ar gg.c.q0 ak gg.c.q1 gg.c.kk gg.c.R k q8_k a_k ja_k (nI k) sw_k 1 (Or.inr rfl)) (cwV 2 htT (kg_V m_ml_X6_75 m_im_X5_turn m_sl_X5_turn m_in_X5 m_cd_X5_turn) rfl rfl rfl (by decide +kernel) ⟨Nat.le_of_ble_eq_true rfl, Nat.le_of_ble_eq_true rfl⟩) (kn_V hK hP hD hTB gg.c.hx (Nat.le_of_ble_eq_true rfl) rfl) rfl rfl hl.1 rfl (lv_room (Nat.le_of_ble_eq_true rfl)) dX6_turn_61 ⟨Nat.le_of_ble_eq_true rfl, Nat.le_of_ble_eq_true rfl⟩) hP hD hS hA (fun r_13 x_13 H locs hq_13 hP hD hS => ?_)
      rw [hq_13.1.trans ((gg.l.rn hk ja_k (q := (9, 11)) (by decide)).trans h11)]
      have gg2 : GG n na x_13 (mR M 11 k 1) x ar ak := by rw [hq_13.2]; exact gg.turn hk ja_k (Or.inr rfl)
      refine lv_iload_n hx hb dX6_turn_64 rfl (lv_at hl 0 rfl) ?_
      refine lv_iconst (v := 1) hx hb dX6_turn_65 (by decide) ?_
      refine lv_icmp_ne (tgt := 73) hx hb dX6_turn_66 (by decide) (fun _ => ?_) (fun c_14 => absurd c_14 (by decide))
      refine lv_iconst (v := 0) hx hb dX6_turn_73 (by decide) ?_
      refine lv_icmp_ne (tgt := 81) hx hb dX6_turn_74 (by decide) (fun c_15 => absurd c_15 (by decide)) (fun _ => ?_)
      refine lv_iconst (v := 1) hx hb dX6_turn_77 (by decide) ?_
      refine lv_goto (tgt := 82) hx hb dX6_turn_78 (by decide) ?_
      exact W.zret (v := 1) hx hb hr (rfl) (fun t ht hW => ⟨⟨1, (pR (pI (pI T d 2 (nI (dr + 1))) d 2 (nI (dr + 1 + 1))) (aOk Ad k) 3 1, x_13), rfl, ⟨rfl, n, na, dr + 1 + 1, cM, sB, _, _, _, _, _, _, _, (mR M 11 k 1), by omega, by omega, by omega, by omega, dk_11, (((hvm.draw (d2 := dr + 1)).draw (d2 := dr + 1 + 1)).one (q := (3, 11)) (by decide) (by decide)), gg2, hM.turn⟩, by rw [ht]; exact hP, va_K.moved hW.alike hK, hD⟩, hS.F ht⟩) hS.2.2 dX6_turn_82
  · refine lv_istore_n (lv' := [(1, .int (nI k)), (0, .ref d)]) hx hb dX6_turn_8 rfl hl (by decide) rfl (fun ls hl => ?_)
    refine lv_aload_n hx hb dX6_turn_9 rfl (lv_at hl 1 rfl) ?_
    refine kd_gets (r := (aO Ad)) hx hb htT m_u_X6 hown hK hP dk_2.o rfl 6 (by decide) (by decide) rfl dk_2.q6 (htT _ m_fl_X6_18) dX6_turn_10 ?_
    refine lv_iload_n hx hb dX6_turn_13 rfl (lv_at hl 0 rfl) ?_
    refine ky_alda (r := some (aOk Ad k)) hx hb hK hP dk_2.ao (show vp_in (nI (k)) 8 from ki_in (by omega) (by omega)) ((congrArg _ (ki_cl (n := k) (by omega))).trans (dk_2.op (k := k) (show k < n by omega))) dX6_turn_14 ?_
    refine lv_iconst (v := 3) hx hb dX6_turn_15 (by decide) ?_
    refine kx_ialdv (x := 1) hx hb hK (kmy_P hP) (dk_2.oa (k := k) (show k < n by omega)) (Nat.le_of_ble_eq_true rfl) (Nat.le_of_ble_eq_true rfl) (show vp_in 3 12 from ki_in (n := 3) (by omega) (by omega)) ((congrArg _ (ki_cl (n := 3) (by omega))).trans ((dk_2.ov (k := k) (j := 3) (show k < n by omega) (show 3 < 12 by omega)).trans (((hvm.o hk (q := (3, 11)) (by decide)).trans h11)))) dX6_turn_16 ?_
    refine lv_istore_n (lv' := [(2, .int 1), (1, .int (nI k)), (0, .ref d)]) hx hb dX6_turn_17 rfl hl (by decide) rfl (fun ls hl => ?_)
    refine lv_aload_n hx hb dX6_turn_18 rfl (lv_at hl 2 rfl) ?_
    refine kd_gets (r := (aO Ad)) hx hb htT m_u_X6 hown hK hP dk_2.o rfl 6 (by decide) (by decide) rfl dk_2.q6 (htT _ m_fl_X6_18) dX6_turn_19 ?_
    refine lv_iload_n hx hb dX6_turn_22 rfl (lv_at hl 1 rfl) ?_
    refine ky_alda (r := some (aOk Ad k)) hx hb hK hP dk_2.ao (show vp_in (nI (k)) 8 from ki_in (by omega) (by omega)) ((congrArg _ (ki_cl (n := k) (by omega))).trans (dk_2.op (k := k) (show k < n by omega))) dX6_turn_23 ?_
    refine lv_iconst (v := 3) hx hb dX6_turn_24 (by decide) ?_
    refine lv_aload_n hx hb dX6_turn_25 rfl (lv_at hl 2 rfl) ?_
    refine lv_iconst (v := 5) hx hb dX6_turn_26 (by decide) ?_
    refine kc_i (va_runV (As := [.int 5]) (rest := [.int 3, .ref (aOk Ad k)]) ⟨hx, hb, hml, hown, htT⟩ (d_draw l D cA _ (PW cA S) b L xs hL (pI T d 2 (nI (dr + 1))) d x Ad n na (upd fF 2 (nI (dr + 1))) fO fW fC fR fB dk_2 (dr + 1) rfl (by omega) (5) (by omega) (by omega)) (cwV 1 htT (kg_V m_ml_X6_60 m_im_X6_draw m_sl_X6_draw m_in_X6 m_cd_X6_draw) rfl rfl rfl (by decide +kernel) ⟨Nat.le_of_ble_eq_true rfl, Nat.le_of_ble_eq_true rfl⟩) (kpe_V hK hP hD hTB hTX hX hbl hbA hAO hS hA (kpe_rc hK hP dk_2.o rfl)) rfl rfl hl.1 rfl (lv_room (Nat.le_of_ble_eq_true rfl)) dX6_turn_27 ⟨Nat.le_of_ble_eq_true rfl, Nat.le_of_ble_eq_true rfl⟩) hD hS hA (fun r_16 x_16 H locs hq_16 hP hD hS => ?_)
    obtain ⟨⟨w5, hw5, hr_16⟩, ht_16⟩ := hq_16
    rw [hr_16]
    rw [ht_16] at hP hD
    have dk_17 : DK (pI (pI T d 2 (nI (dr + 1))) d 2 (nI (dr + 1 + 1))) d x b Ad (n, na, (upd (upd fF 2 (nI (dr + 1))) 2 (nI (dr + 1 + 1))), fO, fW, fC, fR, fB) := dk_2.num
    refine lv_if_le (tgt := 37) hx hb dX6_turn_30 (by decide) (fun c_18 => ?_) (fun c_18 => ?_)
    · replace c_18 := (nI_leI (a := w5) (b := 0) (by omega) (by omega)).mp c_18
      refine lv_iconst (v := 0) hx hb dX6_turn_37 (by decide) ?_
      refine ky_iastv hx hb hK hP hD hS (dk_17.oa (k := k) (show k < n by omega)) (Nat.le_of_ble_eq_true rfl) (Nat.le_of_ble_eq_true rfl) (show vp_in 3 12 from ki_in (n := 3) (by omega) (by omega)) (ki_cl (n := 3) (by omega)) dX6_turn_38 (fun H locs hP hD hS => ?_)
      have dk_19 : DK (pR (pI (pI T d 2 (nI (dr + 1))) d 2 (nI (dr + 1 + 1))) (aOk Ad k) 3 0) d x b Ad (n, na, (upd (upd fF 2 (nI (dr + 1))) 2 (nI (dr + 1 + 1))), (u2 fO k 3 0), fW, fC, fR, fB) := dk_17.one (show k < n by omega)
      refine lv_aload_n hx hb dX6_turn_39 rfl (lv_at hl 2 rfl) ?_
      refine kd_gets (r := x) hx hb htT m_u_X6 hown hK hP dk_19.o rfl 0 (by decide) (by decide) rfl dk_19.q0 (htT _ m_fl_X6_10) dX6_turn_40 ?_
      refine lv_iload_n hx hb dX6_turn_43 rfl (lv_at hl 1 rfl) ?_
      refine lv_aload_n hx hb dX6_turn_44 rfl (lv_at hl 2 rfl) ?_
      refine kd_gets (r := (aO Ad)) hx hb htT m_u_X6 hown hK hP dk_19.o rfl 6 (by decide) (by decide) rfl dk_19.q6 (htT _ m_fl_X6_18) dX6_turn_45 ?_
      refine lv_iload_n hx hb dX6_turn_48 rfl (lv_at hl 1 rfl) ?_
      refine ky_alda (r := some (aOk Ad k)) hx hb hK hP dk_19.ao (show vp_in (nI (k)) 8 from ki_in (by omega) (by omega)) ((congrArg _ (ki_cl (n := k) (by omega))).trans (dk_19.op (k := k) (show k < n by omega))) dX6_turn_49 ?_
      refine lv_iconst (v := 3) hx hb dX6_turn_50 (by decide) ?_
      refine kx_ialdv (x := 0) hx hb hK (kmy_P hP) (dk_19.oa (k := k) (show k < n by omega)) (Nat.le_of_ble_eq_true rfl) (Nat.le_of_ble_eq_true rfl) (show vp_in 3 12 from ki_in (n := 3) (by omega) (by omega)) ((congrArg _ (ki_cl (n := 3) (by omega))).trans ((dk_19.ov (k := k) (j := 3) (show k < n by omega) (show 3 < 12 by omega)).trans (u2_s))) dX6_turn_51 ?_
      refine lv_iconst (v := 1) hx hb dX6_turn_52 (by decide) ?_
      refine lv_icmp_ne (tgt := 60) hx hb dX6_turn_53 (by decide) (fun _ => ?_) (fun c_20 => absurd c_20 (by decide))
      refine lv_iconst (v := 0) hx hb dX6_turn_60 (by decide) ?_
      refine kn_i (va_runV (As := [.int (nI k), .int 0]) (rest := []) ⟨hx, hb, hml, hown, htT⟩ (c_turn l D cA _ S x gg.c.hx ar gg.c.q0 ak gg.c.q1 gg.c.kk gg.c.R k q8_k a_k ja_k (nI k) sw_k 0 (Or.inl rfl)) (cwV 2 htT (kg_V m_ml_X6_75 m_im_X5_turn m_sl_X5_turn m_in_X5 m_cd_X5_turn) rfl rfl rfl (by decide +kernel) ⟨Nat.le_of_ble_eq_true rfl, Nat.le_of_ble_eq_true rfl⟩) (kn_V hK hP hD hTB gg.c.hx (Nat.le_of_ble_eq_true rfl) rfl) rfl rfl hl.1 rfl (lv_room (Nat.le_of_ble_eq_true rfl)) dX6_turn_61 ⟨Nat.le_of_ble_eq_true rfl, Nat.le_of_ble_eq_true rfl⟩) hP hD hS hA (fun r_21 x_21 H locs hq_21 hP hD hS => ?_)
      rw [hq_21.1.trans ((gg.l.rn hk ja_k (q := (9, 11)) (by decide)).trans h11)]
      have gg2 : GG n na x_21 (mR M 11 k 0) x ar ak := by rw [hq_21.2]; exact gg.turn hk ja_k (Or.inl rfl)
      refine lv_iload_n hx hb dX6_turn_64 rfl (lv_at hl 0 rfl) ?_
      refine lv_iconst (v := 1) hx hb dX6_turn_65 (by decide) ?_
      refine lv_icmp_ne (tgt := 73) hx hb dX6_turn_66 (by decide) (fun c_22 => absurd c_22 (by decide)) (fun _ => ?_)
      refine lv_iconst (v := 1) hx hb dX6_turn_69 (by decide) ?_
      refine lv_goto (tgt := 74) hx hb dX6_turn_70 (by decide) ?_
      refine lv_icmp_ne (tgt := 81) hx hb dX6_turn_74 (by decide) (fun c_23 => absurd c_23 (by decide)) (fun _ => ?_)
      refine lv_iconst (v := 1) hx hb dX6_turn_77 (by decide) ?_
      refine lv_goto (tgt := 82) hx hb dX6_turn_78 (by decide) ?_
      exact W.zret (v := 1) hx hb hr (rfl) (fun t ht hW => ⟨⟨1, (pR (pI (pI T d 2 (nI (dr + 1))) d 2 (nI (dr + 1 + 1))) (aOk Ad k) 3 0, x_21), rfl, ⟨rfl, n, na, dr + 1 + 1, cM, sB, _, _, _, _, _, _, _, (mR M 11 k 0), by omega, by omega, by omega, by omega, dk_19, (((hvm.draw (d2 := dr + 1)).draw (d2 := dr + 1 + 1)).one (q := (3, 11)) (by decide) (by decide)), gg2, hM.turn⟩, by rw [ht]; exact hP, va_K.moved hW.alike hK, hD⟩, hS.F ht⟩) hS.2.2 dX6_turn_82
    · replace c_18 : ¬ (w5 ≤ 0) := fun h9 => c_18 ((nI_leI (a := w5) (b := 0) (by omega) (by omega)).mpr h9)
      refine lv_iconst (v := 1) hx hb dX6_turn_33 (by decide) ?_
      refine lv_goto (tgt := 38) hx hb dX6_turn_34 (by decide) ?_
      refine ky_iastv hx hb hK hP hD hS (dk_17.oa (k := k) (show k < n by omega)) (Nat.le_of_ble_eq_true rfl) (Nat.le_of_ble_eq_true rfl) (show vp_in 3 12 from ki_in (n := 3) (by omega) (by omega)) (ki_cl (n := 3) (by omega)) dX6_turn_38 (fun H locs hP hD hS => ?_)
      have dk_24 : DK (pR (pI (pI T d 2 (nI (dr + 1))) d 2 (nI (dr + 1 + 1))) (aOk Ad k) 3 1) d x b Ad (n, na, (upd (upd fF 2 (nI (dr + 1))) 2 (nI (dr + 1 + 1))), (u2 fO k 3 1), fW, fC, fR, fB) := dk_17.one (show k < n by omega)
      refine lv_aload_n hx hb dX6_turn_39 rfl (lv_at hl 2 rfl) ?_
      refine kd_gets (r := x) hx hb htT m_u_X6 hown hK hP dk_24.o rfl 0 (by decide) (by decide) rfl dk_24.q0 (htT _ m_fl_X6_10) dX6_turn_40 ?_
      refine lv_iload_n hx hb dX6_turn_43 rfl (lv_at hl 1 rfl) ?_
      refine lv_aload_n hx hb dX6_turn_44 rfl (lv_at hl 2 rfl) ?_
      refine kd_gets (r := (aO Ad)) hx hb htT m_u_X6 hown hK hP dk_24.o rfl 6 (by decide) (by decide) rfl dk_24.q6 (htT _ m_fl_X6_18) dX6_turn_45 ?_
      refine lv_iload_n hx hb dX6_turn_48 rfl (lv_at hl 1 rfl) ?_
      refine ky_alda (r := some (aOk Ad k)) hx hb hK hP dk_24.ao (show vp_in (nI (k)) 8 from ki_in (by omega) (by omega)) ((congrArg _ (ki_cl (n := k) (by omega))).trans (dk_24.op (k := k) (show k < n by omega))) dX6_turn_49 ?_
      refine lv_iconst (v := 3) hx hb dX6_turn_50 (by decide) ?_
      refine kx_ialdv (x := 1) hx hb hK (kmy_P hP) (dk_24.oa (k := k) (show k < n by omega)) (Nat.le_of_ble_eq_true rfl) (Nat.le_of_ble_eq_true rfl) (show vp_in 3 12 from ki_in (n := 3) (by omega) (by omega)) ((congrArg _ (ki_cl (n := 3) (by omega))).trans ((dk_24.ov (k := k) (j := 3) (show k < n by omega) (show 3 < 12 by omega)).trans (u2_s))) dX6_turn_51 ?_
      refine lv_iconst (v := 1) hx hb dX6_turn_52 (by decide) ?_
      refine lv_icmp_ne (tgt := 60) hx hb dX6_turn_53 (by decide) (fun c_25 => absurd c_25 (by decide)) (fun _ => ?_)
      refine lv_iconst (v := 1) hx hb dX6_turn_56 (by decide) ?_
      refine lv_goto (tgt := 61) hx hb dX6_turn_57 (by decide) ?_
      refine kn_i (va_runV (As := [.int (nI k), .int 1]) (rest := []) ⟨hx, hb, hml, hown, htT⟩ (c_turn l D cA _ S x gg.c.hx ar gg.c.q0 ak gg.c.q1 gg.c.kk gg.c.R k q8_k a_k ja_k (nI k) sw_k 1 (Or.inr rfl)) (cwV 2 htT (kg_V m_ml_X6_75 m_im_X5_turn m_sl_X5_turn m_in_X5 m_cd_X5_turn) rfl rfl rfl (by decide +kernel) ⟨Nat.le_of_ble_eq_true rfl, Nat.le_of_ble_eq_true rfl⟩) (kn_V hK hP hD hTB gg.c.hx (Nat.le_of_ble_eq_true rfl) rfl) rfl rfl hl.1 rfl (lv_room (Nat.le_of_ble_eq_true rfl)) dX6_turn_61 ⟨Nat.le_of_ble_eq_true rfl, Nat.le_of_ble_eq_true rfl⟩) hP hD hS hA (fun r_26 x_26 H locs hq_26 hP hD hS => ?_)
      rw [hq_26.1.trans ((gg.l.rn hk ja_k (q := (9, 11)) (by decide)).trans h11)]
      have gg2 : GG n na x_26 (mR M 11 k 1) x ar ak := by rw [hq_26.2]; exact gg.turn hk ja_k (Or.inr rfl)
      refine lv_iload_n hx hb dX6_turn_64 rfl (lv_at hl 0 rfl) ?_
      refine lv_iconst (v := 1) hx hb dX6_turn_65 (by decide) ?_
      refine lv_icmp_ne (tgt := 73) hx hb dX6_turn_66 (by decide) (fun c_27 => absurd c_27 (by decide)) (fun _ => ?_)
      refine lv_iconst (v := 1) hx hb dX6_turn_69 (by decide) ?_
      refine lv_goto (tgt := 74) hx hb dX6_turn_70 (by decide) ?_
      refine lv_icmp_ne (tgt := 81) hx hb dX6_turn_74 (by decide) (fun c_28 => absurd c_28 (by decide)) (fun _ => ?_)
      refine lv_iconst (v := 1) hx hb dX6_turn_77 (by decide) ?_
      refine lv_goto (tgt := 82) hx hb dX6_turn_78 (by decide) ?_
      exact W.zret (v := 1) hx hb hr (rfl) (fun t ht hW => ⟨⟨1, (pR (pI (pI T d 2 (nI (dr + 1))) d 2 (nI (dr + 1 + 1))) (aOk Ad k) 3 1, x_26), rfl, ⟨rfl, n, na, dr + 1 + 1, cM, sB, _, _, _, _, _, _, _, (mR M 11 k 1), by omega, by omega, by omega, by omega, dk_24, (((hvm.draw (d2 := dr + 1)).draw (d2 := dr + 1 + 1)).one (q := (3, 11)) (by decide) (by decide)), gg2, hM.turn⟩, by rw [ht]; exact hP, va_K.moved hW.alike hK, hD⟩, hS.F ht⟩) hS.2.2 dX6_turn_82

set_option maxRecDepth 100000 in
set_option maxHeartbeats 4000000 in
/-- d_hold -/
theorem d_hold (l : Launch) (D : va_G) (cA : Nat → ClassId) (sz : Nat) (b L : Nat) (xs : Nat → Int32) (hL : L < 2 ^ 31) (T S : Pool) (d x ar ak D0 c0 s0 n0 : Nat) (hD0 : D0 < 1000000) (hc0 : c0 < 100000) (hs0 : s0 < 1000000) (hJ : J38 d x b ar ak D0 c0 s0 n0 T S) (hn0 : 1 ≤ n0)  : Met l yX6_hold (Cond.code yX6_hold cX6_hold 2 (some .boolean) :: TT) ({ frames := 2, cells := 0, slots := 0, locals := 44 }) (va_Pc [.ref d] (kPreE D cA (PW cA T ++ PW cA S) b L xs sz)) (va_Qi (fun (r_ : Int32) (x_ : Pool × Pool) => r_ = 1 ∧ J38 d x b ar ak (D0 + 8) (c0) (s0) (n0) x_.1 x_.2) (fun x_ => kB D cA (va_A (PW cA T ++ PW cA S) sz) (PW cA x_.1 ++ PW cA x_.2)) (va_A (PW cA T ++ PW cA S) sz)) 0 0 (va_A (PW cA T ++ PW cA S) sz) := by
  refine Met.ofW (cc := cX6_hold) (maxL := 2) (ret := (some .boolean)) (by decide) rfl ?_
  intro p e s m args below meth c s₁ B hml hv
  obtain ⟨rfl, ⟨⟨hsz, hP, hK, hD0, hTB⟩, hTX⟩, hX, hbl, hbA, hAO⟩ := hv
  have hx := B.exec
  have hb := B.bytes
  have hr := B.returns
  have hts := atoms_spec (ws := Cond.code yX6_hold cX6_hold 2 (some .boolean) :: TT) B.pre
  have htT : ∀ w ∈ TT, w.before _ s = true := fun w h => hts w (List.mem_cons_of_mem _ h)
  have hown : s.vm.findClass RX6 = some m.cls := findClass_of_methodNamed B.named
  have hlocks := B.notSynchronized
  subst hsz
  have hD := hD0.self (sz := s.heap.size)
  generalize hAe : va_A (PW cA T ++ PW cA S) s.heap.size = A at hD hTX hbA ⊢
  have hA : ∀ q : Nat, s.heap.size ≤ q → A q := fun q h => by rw [← hAe]; exact Or.inr h
  have hS : va_S A s.heap s.heap [] := va_S.rf
  have hl := lv_entry ([.ref d]) (n := 2) (Nat.le_of_ble_eq_true rfl)
  rw [lg_entry_eq]
  generalize (lg_sl ([.ref d]) ++ List.replicate (2 - (lg_sl ([.ref d])).length) Slot.unset).toArray = ls at hl ⊢
  have hl : lv_has ls 2 [(0, .ref d)] := hl
  obtain ⟨n, na, dr, cM, sB, Ad, fF, fO, fW, fC, fR, fB, M, hn9, hdr9, hcM9, hsB9, dk, hvm, gg, hM⟩ := hJ
  have hn8 : n ≤ 8 := dk.n8
  have hna : na ≤ 100 := gg.r.na
  have hdr : fF 2 = nI dr := hvm.f2
  have oF5 : fF 5 = nI n := hvm.f5
  have oF3 : fF 3 = nI cM := hvm.f3.trans hM.1.1
  refine lv_aload_n hx hb dX6_hold_0 rfl (lv_at hl 0 rfl) ?_
  refine kd_getiv (x := M.1 2) hx hb htT m_u_X6 hown hK hP dk.o rfl 4 (by decide) (by decide) rfl (htT _ m_fl_X6_114) ((dk.f 4).trans ((show _ = fF 4 from rfl).trans hvm.f4)) dX6_hold_1 ?_
  refine lv_istore_n (lv' := [(1, .int (M.1 2)), (0, .ref d)]) hx hb dX6_hold_4 rfl hl (by decide) rfl (fun ls hl => ?_)
  refine lv_aload_n hx hb dX6_hold_5 rfl (lv_at hl 1 rfl) ?_
  refine lv_aload_n hx hb dX6_hold_6 rfl (lv_at hl 1 rfl) ?_
  refine lv_iconst (v := 2) hx hb dX6_hold_7 (by decide) ?_
  refine kc_i (va_runV (As := [.int 2]) (rest := [.ref d]) ⟨hx, hb, hml, hown, htT⟩ (d_draw l D cA _ (PW cA S) b L xs hL T d x Ad n na fF fO fW fC fR fB dk (dr) hdr (by omega) (2) (by omega) (by omega)) (cwV 1 htT (kg_V m_ml_X6_60 m_im_X6_draw m_sl_X6_draw m_in_X6 m_cd_X6_draw) rfl rfl rfl (by decide +kernel) ⟨Nat.le_of_ble_eq_true rfl, Nat.le_of_ble_eq_true rfl⟩) (kpe_V hK hP hD hTB hTX hX hbl hbA hAO hS hA (kpe_rc hK hP dk.o rfl)) rfl rfl hl.1 rfl (lv_room (Nat.le_of_ble_eq_true rfl)) dX6_hold_8 ⟨Nat.le_of_ble_eq_true rfl, Nat.le_of_ble_eq_true rfl⟩) hD hS hA (fun r_1 x_1 H locs hq_1 hP hD hS => ?_)
  obtain ⟨⟨k, hk, hr_1⟩, ht_1⟩ := hq_1
  rw [hr_1]
  rw [ht_1] at hP hD
  have dk_2 : DK (pI T d 2 (nI (dr + 1))) d x b Ad (n, na, (upd fF 2 (nI (dr + 1))), fO, fW, fC, fR, fB) := dk.num
  refine lv_if_ne (tgt := 18) hx hb dX6_hold_11 (by decide) (fun c_3 => ?_) (fun c_3 => ?_)
  · replace c_3 : ¬ (k = 0) := fun h9 => c_3 ((nI_eq (a := k) (b := 0) (by omega) (by omega)).mpr h9)
    refine lv_aload_n hx hb dX6_hold_18 rfl (lv_at hl 1 rfl) ?_
    refine lv_sipush (v := 300) hx hb dX6_hold_19 (by decide) ?_
    refine kc_i (va_runV (As := [.int 300]) (rest := [.ref d]) ⟨hx, hb, hml, hown, htT⟩ (d_draw l D cA _ (PW cA S) b L xs hL (pI T d 2 (nI (dr + 1))) d x Ad n na (upd fF 2 (nI (dr + 1))) fO fW fC fR fB dk_2 (dr + 1) rfl (by omega) (300) (by omega) (by omega)) (cwV 1 htT (kg_V m_ml_X6_60 m_im_X6_draw m_sl_X6_draw m_in_X6 m_cd_X6_draw) rfl rfl rfl (by decide +kernel) ⟨Nat.le_of_ble_eq_true rfl, Nat.le_of_ble_eq_true rfl⟩) (kpe_V hK hP hD hTB hTX hX hbl hbA hAO hS hA (kpe_rc hK hP dk_2.o rfl)) rfl rfl hl.1 rfl (lv_room (Nat.le_of_ble_eq_true rfl)) dX6_hold_22 ⟨Nat.le_of_ble_eq_true rfl, Nat.le_of_ble_eq_true rfl⟩) hD hS hA (fun r_4 x_4 H locs hq_4 hP hD hS => ?_)
    obtain ⟨⟨w3, hw3, hr_4⟩, ht_4⟩ := hq_4
    rw [hr_4]
    rw [ht_4] at hP hD
    have dk_5 : DK (pI (pI T d 2 (nI (dr + 1))) d 2 (nI (dr + 1 + 1))) d x b Ad (n, na, (upd (upd fF 2 (nI (dr + 1))) 2 (nI (dr + 1 + 1))), fO, fW, fC, fR, fB) := dk_2.num
    refine kd_puti (ty := .int) hx hb htT m_u_X6 tyX6 tyX6_ok nmX6 hown hK hP hD hS dk_5.o rfl 4 (by decide) (by decide) rfl (htT _ m_fl_X6_114) rfl (by decide +kernel) rfl rfl dX6_hold_25 (fun H locs hP hD hS => ?_)
    have dk_6 : DK (pI (pI (pI T d 2 (nI (dr + 1))) d 2 (nI (dr + 1 + 1))) d 4 (nI w3)) d x b Ad (n, na, (upd (upd (upd fF 2 (nI (dr + 1))) 2 (nI (dr + 1 + 1))) 4 (nI w3)), fO, fW, fC, fR, fB) := dk_5.num
    refine lv_aload_n hx hb dX6_hold_28 rfl (lv_at hl 1 rfl) ?_
    refine kd_gets (r := x) hx hb htT m_u_X6 hown hK hP dk_6.o rfl 0 (by decide) (by decide) rfl dk_6.q0 (htT _ m_fl_X6_10) dX6_hold_29 ?_
    refine lv_aload_n hx hb dX6_hold_32 rfl (lv_at hl 1 rfl) ?_
    refine kd_getiv (x := nI w3) hx hb htT m_u_X6 hown hK hP dk_6.o rfl 4 (by decide) (by decide) rfl (htT _ m_fl_X6_114) ((dk_6.f 4).trans (rfl)) dX6_hold_33 ?_
    refine kn_i (va_runV (As := [.int (nI w3)]) (rest := []) ⟨hx, hb, hml, hown, htT⟩ (c_hold l D cA _ S x gg.c.hx (nI w3) (kOut_n (a := w3) (lo := 0) (hi := 1000) (by omega) (by omega) (by omega))) (cwV 1 htT (kg_V m_ml_X6_117 m_im_X5_hold m_sl_X5_hold m_in_X5 m_cd_X5_hold) rfl rfl rfl (by decide +kernel) ⟨Nat.le_of_ble_eq_true rfl, Nat.le_of_ble_eq_true rfl⟩) (kn_V hK hP hD hTB gg.c.hx (Nat.le_of_ble_eq_true rfl) rfl) rfl rfl hl.1 rfl (lv_room (Nat.le_of_ble_eq_true rfl)) dX6_hold_36 ⟨Nat.le_of_ble_eq_true rfl, Nat.le_of_ble_eq_true rfl⟩) hP hD hS hA (fun r_7 x_7 H locs hq_7 hP hD hS => ?_)
    rw [hq_7.1.trans (gg.c.x4)]
    have gg2 : GG n na x_7 (mS M 2 (nI w3)) x ar ak := by rw [hq_7.2]; exact gg.hold
    refine lv_iload_n hx hb dX6_hold_39 rfl (lv_at hl 0 rfl) ?_
    refine lv_icmp_ne (tgt := 47) hx hb dX6_hold_40 (by decide) (fun c_8 => ?_) (fun c_8 => ?_)
    · exact absurd rfl c_8
    · refine lv_iconst (v := 1) hx hb dX6_hold_43 (by decide) ?_
      refine lv_goto (tgt := 48) hx hb dX6_hold_44 (by decide) ?_
      exact W.zret (v := 1) hx hb hr (rfl) (fun t ht hW => ⟨⟨1, (pI (pI (pI T d 2 (nI (dr + 1))) d 2 (nI (dr + 1 + 1))) d 4 (nI w3), x_7), rfl, ⟨rfl, n, na, dr + 1 + 1, cM, sB, _, _, _, _, _, _, _, (mS M 2 (nI w3)), by omega, by omega, by omega, by omega, dk_6, (((hvm.draw (d2 := dr + 1)).draw (d2 := dr + 1 + 1)).hold), gg2, (hM.hold ⟨w3, by omega, rfl⟩)⟩, by rw [ht]; exact hP, va_K.moved hW.alike hK, hD⟩, hS.F ht⟩) hS.2.2 dX6_hold_48
  · replace c_3 := (nI_eq (a := k) (b := 0) (by omega) (by omega)).mp c_3
    refine lv_iconst (v := 0) hx hb dX6_hold_14 (by decide) ?_
    refine lv_goto (tgt := 25) hx hb dX6_hold_15 (by decide) ?_
    refine kd_puti (ty := .int) hx hb htT m_u_X6 tyX6 tyX6_ok nmX6 hown hK hP hD hS dk_2.o rfl 4 (by decide) (by decide) rfl (htT _ m_fl_X6_114) rfl (by decide +kernel) rfl rfl dX6_hold_25 (fun H locs hP hD hS => ?_)
    have dk_9 : DK (pI (pI T d 2 (nI (dr + 1))) d 4 0) d x b Ad (n, na, (upd (upd fF 2 (nI (dr + 1))) 4 0), fO, fW, fC, fR, fB) := dk_2.num
    refine lv_aload_n hx hb dX6_hold_28 rfl (lv_at hl 1 rfl) ?_
    refine kd_gets (r := x) hx hb htT m_u_X6 hown hK hP dk_9.o rfl 0 (by decide) (by decide) rfl dk_9.q0 (htT _ m_fl_X6_10) dX6_hold_29 ?_
    refine lv_aload_n hx hb dX6_hold_32 rfl (lv_at hl 1 rfl) ?_
    refine kd_getiv (x := 0) hx hb htT m_u_X6 hown hK hP dk_9.o rfl 4 (by decide) (by decide) rfl (htT _ m_fl_X6_114) ((dk_9.f 4).trans (rfl)) dX6_hold_33 ?_
    refine kn_i (va_runV (As := [.int 0]) (rest := []) ⟨hx, hb, hml, hown, htT⟩ (c_hold l D cA _ S x gg.c.hx 0 (kOut_n (a := 0) (lo := 0) (hi := 1000) (by omega) (by omega) (by omega))) (cwV 1 htT (kg_V m_ml_X6_117 m_im_X5_hold m_sl_X5_hold m_in_X5 m_cd_X5_hold) rfl rfl rfl (by decide +kernel) ⟨Nat.le_of_ble_eq_true rfl, Nat.le_of_ble_eq_true rfl⟩) (kn_V hK hP hD hTB gg.c.hx (Nat.le_of_ble_eq_true rfl) rfl) rfl rfl hl.1 rfl (lv_room (Nat.le_of_ble_eq_true rfl)) dX6_hold_36 ⟨Nat.le_of_ble_eq_true rfl, Nat.le_of_ble_eq_true rfl⟩) hP hD hS hA (fun r_10 x_10 H locs hq_10 hP hD hS => ?_)
    rw [hq_10.1.trans (gg.c.x4)]
    have gg2 : GG n na x_10 (mS M 2 0) x ar ak := by rw [hq_10.2]; exact gg.hold
    refine lv_iload_n hx hb dX6_hold_39 rfl (lv_at hl 0 rfl) ?_
    refine lv_icmp_ne (tgt := 47) hx hb dX6_hold_40 (by decide) (fun c_11 => ?_) (fun c_11 => ?_)
    · exact absurd rfl c_11
    · refine lv_iconst (v := 1) hx hb dX6_hold_43 (by decide) ?_
      refine lv_goto (tgt := 48) hx hb dX6_hold_44 (by decide) ?_
      exact W.zret (v := 1) hx hb hr (rfl) (fun t ht hW => ⟨⟨1, (pI (pI T d 2 (nI (dr + 1))) d 4 0, x_10), rfl, ⟨rfl, n, na, dr + 1, cM, sB, _, _, _, _, _, _, _, (mS M 2 0), by omega, by omega, by omega, by omega, dk_9, ((hvm.draw (d2 := dr + 1)).hold), gg2, (hM.hold ⟨0, by omega, rfl⟩)⟩, by rw [ht]; exact hP, va_K.moved hW.alike hK, hD⟩, hS.F ht⟩) hS.2.2 dX6_hold_48

set_option maxRecDepth 100000 in
set_option maxHeartbeats 4000000 in
/-- d_goOn -/
theorem d_goOn (l : Launch) (D : va_G) (cA : Nat → ClassId) (sz : Nat) (b L : Nat) (xs : Nat → Int32) (hL : L < 2 ^ 31) (T S : Pool) (d x ar ak D0 c0 s0 n0 : Nat) (hD0 : D0 < 1000000) (hc0 : c0 < 100000) (hs0 : s0 < 1000000) (hJ : J38 d x b ar ak D0 c0 s0 n0 T S) (hn0 : 1 ≤ n0)  : Met l yX6_goOn (Cond.code yX6_goOn cX6_goOn 2 (some .boolean) :: TT) ({ frames := 2, cells := 0, slots := 0, locals := 43 }) (va_Pc [.ref d] (kPreE D cA (PW cA T ++ PW cA S) b L xs sz)) (va_Qi (fun (r_ : Int32) (x_ : Pool × Pool) => r_ = 1 ∧ J38 d x b ar ak (D0 + 8) (c0 + 4) (s0) (n0) x_.1 x_.2) (fun x_ => kB D cA (va_A (PW cA T ++ PW cA S) sz) (PW cA x_.1 ++ PW cA x_.2)) (va_A (PW cA T ++ PW cA S) sz)) 0 0 (va_A (PW cA T ++ PW cA S) sz) := by
  refine Met.ofW (cc := cX6_goOn) (maxL := 2) (ret := (some .boolean)) (by decide) rfl ?_
  intro p e s m args below meth c s₁ B hml hv
  obtain ⟨rfl, ⟨⟨hsz, hP, hK, hD0, hTB⟩, hTX⟩, hX, hbl, hbA, hAO⟩ := hv
  have hx := B.exec
  have hb := B.bytes
  have hr := B.returns
  have hts := atoms_spec (ws := Cond.code yX6_goOn cX6_goOn 2 (some .boolean) :: TT) B.pre
  have htT : ∀ w ∈ TT, w.before _ s = true := fun w h => hts w (List.mem_cons_of_mem _ h)
  have hown : s.vm.findClass RX6 = some m.cls := findClass_of_methodNamed B.named
  have hlocks := B.notSynchronized
  subst hsz
  have hD := hD0.self (sz := s.heap.size)
  generalize hAe : va_A (PW cA T ++ PW cA S) s.heap.size = A at hD hTX hbA ⊢
  have hA : ∀ q : Nat, s.heap.size ≤ q → A q := fun q h => by rw [← hAe]; exact Or.inr h
  have hS : va_S A s.heap s.heap [] := va_S.rf
  have hl := lv_entry ([.ref d]) (n := 2) (Nat.le_of_ble_eq_true rfl)
  rw [lg_entry_eq]
  generalize (lg_sl ([.ref d]) ++ List.replicate (2 - (lg_sl ([.ref d])).length) Slot.unset).toArray = ls at hl ⊢
  have hl : lv_has ls 2 [(0, .ref d)] := hl
  obtain ⟨n, na, dr, cM, sB, Ad, fF, fO, fW, fC, fR, fB, M, hn9, hdr9, hcM9, hsB9, dk, hvm, gg, hM⟩ := hJ
  have hn8 : n ≤ 8 := dk.n8
  have hna : na ≤ 100 := gg.r.na
  have hdr : fF 2 = nI dr := hvm.f2
  have oF5 : fF 5 = nI n := hvm.f5
  have oF3 : fF 3 = nI cM := hvm.f3.trans hM.1.1
  refine lv_iconst (v := 1) hx hb dX6_goOn_0 (by decide) ?_
  refine lv_aload_n hx hb dX6_goOn_1 rfl (lv_at hl 0 rfl) ?_
  refine lv_iconst (v := 4) hx hb dX6_goOn_2 (by decide) ?_
  refine kc_i (va_runV (As := [.int 4]) (rest := [.int 1]) ⟨hx, hb, hml, hown, htT⟩ (d_draw l D cA _ (PW cA S) b L xs hL T d x Ad n na fF fO fW fC fR fB dk (dr) hdr (by omega) (4) (by omega) (by omega)) (cwV 1 htT (kg_V m_ml_X6_60 m_im_X6_draw m_sl_X6_draw m_in_X6 m_cd_X6_draw) rfl rfl rfl (by decide +kernel) ⟨Nat.le_of_ble_eq_true rfl, Nat.le_of_ble_eq_true rfl⟩) (kpe_V hK hP hD hTB hTX hX hbl hbA hAO hS hA (kpe_rc hK hP dk.o rfl)) rfl rfl hl.1 rfl (lv_room (Nat.le_of_ble_eq_true rfl)) dX6_goOn_3 ⟨Nat.le_of_ble_eq_true rfl, Nat.le_of_ble_eq_true rfl⟩) hD hS hA (fun r_1 x_1 H locs hq_1 hP hD hS => ?_)
  obtain ⟨⟨w4, hw4, hr_1⟩, ht_1⟩ := hq_1
  rw [hr_1]
  rw [ht_1] at hP hD
  have dk_2 : DK (pI T d 2 (nI (dr + 1))) d x b Ad (n, na, (upd fF 2 (nI (dr + 1))), fO, fW, fC, fR, fB) := dk.num
  refine lv_iadd hx hb dX6_goOn_6 ?_
  rw [show (1 + (nI w4) : Int32) = nI (1 + w4) from nI_add 1 w4]
  refine lv_istore_n (lv' := [(1, .int (nI (1 + w4))), (0, .ref d)]) hx hb dX6_goOn_7 rfl hl (by decide) rfl (fun ls hl => ?_)
  refine lv_aload_n hx hb dX6_goOn_8 rfl (lv_at hl 1 rfl) ?_
  refine lv_dup hx hb dX6_goOn_9 rfl ?_
  refine kd_getiv (x := nI cM) hx hb htT m_u_X6 hown hK hP dk_2.o rfl 3 (by decide) (by decide) rfl (htT _ m_fl_X6_64) ((dk_2.f 3).trans ((show _ = fF 3 from rfl).trans oF3)) dX6_goOn_10 ?_
  refine lv_iload_n hx hb dX6_goOn_13 rfl (lv_at hl 0 rfl) ?_
  refine lv_iadd hx hb dX6_goOn_14 ?_
  rw [show ((nI cM) + (nI (1 + w4)) : Int32) = nI (cM + (1 + w4)) from nI_add cM (1 + w4)]
  refine kd_puti (ty := .int) hx hb htT m_u_X6 tyX6 tyX6_ok nmX6 hown hK hP hD hS dk_2.o rfl 3 (by decide) (by decide) rfl (htT _ m_fl_X6_64) rfl (by decide +kernel) rfl rfl dX6_goOn_15 (fun H locs hP hD hS => ?_)
  have dk_3 : DK (pI (pI T d 2 (nI (dr + 1))) d 3 (nI (cM + (1 + w4)))) d x b Ad (n, na, (upd (upd fF 2 (nI (dr + 1))) 3 (nI (cM + (1 + w4)))), fO, fW, fC, fR, fB) := dk_2.num
  refine lv_aload_n hx hb dX6_goOn_18 rfl (lv_at hl 1 rfl) ?_
  refine kd_gets (r := x) hx hb htT m_u_X6 hown hK hP dk_3.o rfl 0 (by decide) (by decide) rfl dk_3.q0 (htT _ m_fl_X6_10) dX6_goOn_19 ?_
  refine lv_iload_n hx hb dX6_goOn_22 rfl (lv_at hl 0 rfl) ?_
  refine kn_i (va_runV (As := [.int (nI (1 + w4))]) (rest := []) ⟨hx, hb, hml, hown, htT⟩ (c_goOn l D cA _ S x gg.c.hx (nI (1 + w4)) (kOut_n (a := 1 + w4) (lo := 1) (hi := 100) (by omega) (by omega) (by omega))) (cwV 1 htT (kg_V m_ml_X6_120 m_im_X5_goOn m_sl_X5_goOn m_in_X5 m_cd_X5_goOn) rfl rfl rfl (by decide +kernel) ⟨Nat.le_of_ble_eq_true rfl, Nat.le_of_ble_eq_true rfl⟩) (kn_V hK hP hD hTB gg.c.hx (Nat.le_of_ble_eq_true rfl) rfl) rfl rfl hl.1 rfl (lv_room (Nat.le_of_ble_eq_true rfl)) dX6_goOn_23 ⟨Nat.le_of_ble_eq_true rfl, Nat.le_of_ble_eq_true rfl⟩) hP hD hS hA (fun r_4 x_4 H locs hq_4 hP hD hS => ?_)
  have e5 : gI S x 5 + (nI (1 + w4)) = nI (cM + (1 + w4)) := by rw [gg.c.x5, hM.1.1]; exact nI_add cM (1 + w4)
  rw [hq_4.1.trans e5]
  have gg2 : GG n na x_4 (mS M 1 (nI (cM + (1 + w4)))) x ar ak := by rw [hq_4.2, e5]; exact gg.clock
  refine lv_aload_n hx hb dX6_goOn_26 rfl (lv_at hl 1 rfl) ?_
  refine kd_getiv (x := nI (cM + (1 + w4))) hx hb htT m_u_X6 hown hK hP dk_3.o rfl 3 (by decide) (by decide) rfl (htT _ m_fl_X6_64) ((dk_3.f 3).trans (rfl)) dX6_goOn_27 ?_
  refine lv_icmp_ne (tgt := 37) hx hb dX6_goOn_30 (by decide) (fun c_5 => ?_) (fun c_5 => ?_)
  · exact absurd rfl c_5
  · refine lv_iconst (v := 1) hx hb dX6_goOn_33 (by decide) ?_
    refine lv_goto (tgt := 38) hx hb dX6_goOn_34 (by decide) ?_
    exact W.zret (v := 1) hx hb hr (rfl) (fun t ht hW => ⟨⟨1, (pI (pI T d 2 (nI (dr + 1))) d 3 (nI (cM + (1 + w4))), x_4), rfl, ⟨rfl, n, na, dr + 1, (cM + (1 + w4)), sB, _, _, _, _, _, _, _, (mS M 1 (nI (cM + (1 + w4)))), by omega, by omega, by omega, by omega, dk_3, ((hvm.draw (d2 := dr + 1)).clock), gg2, (hM.clock (by omega))⟩, by rw [ht]; exact hP, va_K.moved hW.alike hK, hD⟩, hS.F ht⟩) hS.2.2 dX6_goOn_38

set_option maxRecDepth 100000 in
set_option maxHeartbeats 4000000 in
/-- d_ramp -/
theorem d_ramp (l : Launch) (D : va_G) (cA : Nat → ClassId) (sz : Nat) (b L : Nat) (xs : Nat → Int32) (hL : L < 2 ^ 31) (T S : Pool) (d x ar ak D0 c0 s0 n0 : Nat) (hD0 : D0 < 1000000) (hc0 : c0 < 100000) (hs0 : s0 < 1000000) (hJ : J38 d x b ar ak D0 c0 s0 n0 T S) (hn0 : 1 ≤ n0)  : Met l yX6_ramp (Cond.code yX6_ramp cX6_ramp 3 (some .boolean) :: TT) ({ frames := 3, cells := 0, slots := 0, locals := 68 }) (va_Pc [.ref d] (kPreE D cA (PW cA T ++ PW cA S) b L xs sz)) (va_Qi (fun (r_ : Int32) (x_ : Pool × Pool) => r_ = 1 ∧ J38 d x b ar ak (D0 + 8) (c0) (s0) (n0) x_.1 x_.2) (fun x_ => kB D cA (va_A (PW cA T ++ PW cA S) sz) (PW cA x_.1 ++ PW cA x_.2)) (va_A (PW cA T ++ PW cA S) sz)) 0 0 (va_A (PW cA T ++ PW cA S) sz) := by
  refine Met.ofW (cc := cX6_ramp) (maxL := 3) (ret := (some .boolean)) (by decide) rfl ?_
  intro p e s m args below meth c s₁ B hml hv
  obtain ⟨rfl, ⟨⟨hsz, hP, hK, hD0, hTB⟩, hTX⟩, hX, hbl, hbA, hAO⟩ := hv
  have hx := B.exec
  have hb := B.bytes
  have hr := B.returns
  have hts := atoms_spec (ws := Cond.code yX6_ramp cX6_ramp 3 (some .boolean) :: TT) B.pre
  have htT : ∀ w ∈ TT, w.before _ s = true := fun w h => hts w (List.mem_cons_of_mem _ h)
  have hown : s.vm.findClass RX6 = some m.cls := findClass_of_methodNamed B.named
  have hlocks := B.notSynchronized
  subst hsz
  have hD := hD0.self (sz := s.heap.size)
  generalize hAe : va_A (PW cA T ++ PW cA S) s.heap.size = A at hD hTX hbA ⊢
  have hA : ∀ q : Nat, s.heap.size ≤ q → A q := fun q h => by rw [← hAe]; exact Or.inr h
  have hS : va_S A s.heap s.heap [] := va_S.rf
  have hl := lv_entry ([.ref d]) (n := 3) (Nat.le_of_ble_eq_true rfl)
  rw [lg_entry_eq]
  generalize (lg_sl ([.ref d]) ++ List.replicate (3 - (lg_sl ([.ref d])).length) Slot.unset).toArray = ls at hl ⊢
  have hl : lv_has ls 3 [(0, .ref d)] := hl
  obtain ⟨n, na, dr, cM, sB, Ad, fF, fO, fW, fC, fR, fB, M, hn9, hdr9, hcM9, hsB9, dk, hvm, gg, hM⟩ := hJ
  have hn8 : n ≤ 8 := dk.n8
  have hna : na ≤ 100 := gg.r.na
  have hdr : fF 2 = nI dr := hvm.f2
  have oF5 : fF 5 = nI n := hvm.f5
  have oF3 : fF 3 = nI cM := hvm.f3.trans hM.1.1
  refine lv_aload_n hx hb dX6_ramp_0 rfl (lv_at hl 0 rfl) ?_
  refine lv_aload_n hx hb dX6_ramp_1 rfl (lv_at hl 0 rfl) ?_
  refine kd_getiv (x := nI n) hx hb htT m_u_X6 hown hK hP dk.o rfl 5 (by decide) (by decide) rfl (htT _ m_fl_X6_57) ((dk.f 5).trans ((show _ = fF 5 from rfl).trans oF5)) dX6_ramp_2 ?_
  refine kc_i (va_runV (As := [.int (nI n)]) (rest := []) ⟨hx, hb, hml, hown, htT⟩ (d_draw l D cA _ (PW cA S) b L xs hL T d x Ad n na fF fO fW fC fR fB dk (dr) hdr (by omega) (n) (by omega) (by omega)) (cwV 1 htT (kg_V m_ml_X6_60 m_im_X6_draw m_sl_X6_draw m_in_X6 m_cd_X6_draw) rfl rfl rfl (by decide +kernel) ⟨Nat.le_of_ble_eq_true rfl, Nat.le_of_ble_eq_true rfl⟩) (kpe_V hK hP hD hTB hTX hX hbl hbA hAO hS hA (kpe_rc hK hP dk.o rfl)) rfl rfl hl.1 rfl (lv_room (Nat.le_of_ble_eq_true rfl)) dX6_ramp_5 ⟨Nat.le_of_ble_eq_true rfl, Nat.le_of_ble_eq_true rfl⟩) hD hS hA (fun r_1 x_1 H locs hq_1 hP hD hS => ?_)
  obtain ⟨⟨k, hk, hr_1⟩, ht_1⟩ := hq_1
  rw [hr_1]
  rw [ht_1] at hP hD
  have dk_2 : DK (pI T d 2 (nI (dr + 1))) d x b Ad (n, na, (upd fF 2 (nI (dr + 1))), fO, fW, fC, fR, fB) := dk.num
  have q8_k : k < 8 := by omega
  obtain ⟨a_k, ja_k⟩ := gg.c.row k (by omega)
  have sw_k := gg.sw2 (by omega) ja_k
  obtain ⟨hst, ⟨sh, hsh, esh⟩, ⟨sp, hsp, esp⟩, ⟨zz, hzz, ezz⟩⟩ := hM.2.1 k hk
  have oj4 : fO k 4 = nI sh := (hvm.o hk (q := (4, 7)) (by decide)).trans esh
  have oj5 : fO k 5 = nI sp := (hvm.o hk (q := (5, 8)) (by decide)).trans esp
  have oj6 : fO k 6 = nI zz := (hvm.o hk (q := (6, 9)) (by decide)).trans ezz
  have efj : rFar M.2 k (M.1 1) = nI (min 1000 (sh + sp * (cM - zz))) := far_n esh esp ezz hM.1.1 hsh hsp hzz (by omega)
  refine lv_istore_n (lv' := [(1, .int (nI k)), (0, .ref d)]) hx hb dX6_ramp_8 rfl hl (by decide) rfl (fun ls hl => ?_)
  refine lv_aload_n hx hb dX6_ramp_9 rfl (lv_at hl 1 rfl) ?_
  refine lv_iload_n hx hb dX6_ramp_10 rfl (lv_at hl 0 rfl) ?_
  refine lv_iconst (v := 0) hx hb dX6_ramp_11 (by decide) ?_
  refine kc_i (va_runV (As := [.int (nI k), .int 0]) (rest := []) ⟨hx, hb, hml, hown, htT⟩ (d_far l D cA _ (PW cA S) b L xs hL (pI T d 2 (nI (dr + 1))) d x Ad n na (upd fF 2 (nI (dr + 1))) fO fW fC fR fB dk_2 k hk sh sp zz cM oj4 oj5 oj6 ((show _ = fF 3 from rfl).trans oF3) hsh hsp hzz (by omega)) (cwV 2 htT (kg_V m_ml_X6_79 m_im_X6_far m_sl_X6_far m_in_X6 m_cd_X6_far) rfl rfl rfl (by decide +kernel) ⟨Nat.le_of_ble_eq_true rfl, Nat.le_of_ble_eq_true rfl⟩) (kpe_V hK hP hD hTB hTX hX hbl hbA hAO hS hA (kpe_rc hK hP dk_2.o rfl)) rfl rfl hl.1 rfl (lv_room (Nat.le_of_ble_eq_true rfl)) dX6_ramp_12 ⟨Nat.le_of_ble_eq_true rfl, Nat.le_of_ble_eq_true rfl⟩) hD hS hA (fun r_3 x_3 H locs hq_3 hP hD hS => ?_)
  rw [hq_3.1]
  rw [hq_3.2] at hP hD
  refine lv_istore_n (lv' := [(2, .int (nI (min 1000 (sh + sp * (cM - zz))))), (1, .int (nI k)), (0, .ref d)]) hx hb dX6_ramp_15 rfl hl (by decide) rfl (fun ls hl => ?_)
  refine lv_aload_n hx hb dX6_ramp_16 rfl (lv_at hl 2 rfl) ?_
  refine kd_gets (r := (aO Ad)) hx hb htT m_u_X6 hown hK hP dk_2.o rfl 6 (by decide) (by decide) rfl dk_2.q6 (htT _ m_fl_X6_18) dX6_ramp_17 ?_
  refine lv_iload_n hx hb dX6_ramp_20 rfl (lv_at hl 1 rfl) ?_
  refine ky_alda (r := some (aOk Ad k)) hx hb hK hP dk_2.ao (show vp_in (nI (k)) 8 from ki_in (by omega) (by omega)) ((congrArg _ (ki_cl (n := k) (by omega))).trans (dk_2.op (k := k) (show k < n by omega))) dX6_ramp_21 ?_
  refine lv_iconst (v := 4) hx hb dX6_ramp_22 (by decide) ?_
  refine lv_aload_n hx hb dX6_ramp_23 rfl (lv_at hl 2 rfl) ?_
  refine lv_iconst (v := 2) hx hb dX6_ramp_24 (by decide) ?_
  refine kc_i (va_runV (As := [.int 2]) (rest := [.int 4, .ref (aOk Ad k)]) ⟨hx, hb, hml, hown, htT⟩ (d_draw l D cA _ (PW cA S) b L xs hL (pI T d 2 (nI (dr + 1))) d x Ad n na (upd fF 2 (nI (dr + 1))) fO fW fC fR fB dk_2 (dr + 1) rfl (by omega) (2) (by omega) (by omega)) (cwV 1 htT (kg_V m_ml_X6_60 m_im_X6_draw m_sl_X6_draw m_in_X6 m_cd_X6_draw) rfl rfl rfl (by decide +kernel) ⟨Nat.le_of_ble_eq_true rfl, Nat.le_of_ble_eq_true rfl⟩) (kpe_V hK hP hD hTB hTX hX hbl hbA hAO hS hA (kpe_rc hK hP dk_2.o rfl)) rfl rfl hl.1 rfl (lv_room (Nat.le_of_ble_eq_true rfl)) dX6_ramp_25 ⟨Nat.le_of_ble_eq_true rfl, Nat.le_of_ble_eq_true rfl⟩) hD hS hA (fun r_4 x_4 H locs hq_4 hP hD hS => ?_)
  obtain ⟨⟨w2, hw2, hr_4⟩, ht_4⟩ := hq_4
  rw [hr_4]
  rw [ht_4] at hP hD
  have dk_5 : DK (pI (pI T d 2 (nI (dr + 1))) d 2 (nI (dr + 1 + 1))) d x b Ad (n, na, (upd (upd fF 2 (nI (dr + 1))) 2 (nI (dr + 1 + 1))), fO, fW, fC, fR, fB) := dk_2.num
  refine lv_if_ne (tgt := 41) hx hb dX6_ramp_28 (by decide) (fun c_6 => ?_) (fun c_6 => ?_)
  · replace c_6 : ¬ (w2 = 0) := fun h9 => c_6 ((nI_eq (a := w2) (b := 0) (by omega) (by omega)).mpr h9)
    refine lv_aload_n hx hb dX6_ramp_41 rfl (lv_at hl 2 rfl) ?_
    refine lv_sipush (v := 200) hx hb dX6_ramp_42 (by decide) ?_
    refine kc_i (va_runV (As := [.int 200]) (rest := [.int 4, .ref (aOk Ad k)]) ⟨hx, hb, hml, hown, htT⟩ (d_draw l D cA _ (PW cA S) b L xs hL (pI (pI T d 2 (nI (dr + 1))) d 2 (nI (dr + 1 + 1))) d x Ad n na (upd (upd fF 2 (nI (dr + 1))) 2 (nI (dr + 1 + 1))) fO fW fC fR fB dk_5 (dr + 1 + 1) rfl (by omega) (200) (by omega) (by omega)) (cwV 1 htT (kg_V m_ml_X6_60 m_im_X6_draw m_sl_X6_draw m_in_X6 m_cd_X6_draw) rfl rfl rfl (by decide +kernel) ⟨Nat.le_of_ble_eq_true rfl, Nat.le_of_ble_eq_true rfl⟩) (kpe_V hK hP hD hTB hTX hX hbl hbA hAO hS hA (kpe_rc hK hP dk_5.o rfl)) rfl rfl hl.1 rfl (lv_room (Nat.le_of_ble_eq_true rfl)) dX6_ramp_45 ⟨Nat.le_of_ble_eq_true rfl, Nat.le_of_ble_eq_true rfl⟩) hD hS hA (fun r_7 x_7 H locs hq_7 hP hD hS => ?_)
    obtain ⟨⟨w200, hw200, hr_7⟩, ht_7⟩ := hq_7
    rw [hr_7]
    rw [ht_7] at hP hD
    have dk_8 : DK (pI (pI (pI T d 2 (nI (dr + 1))) d 2 (nI (dr + 1 + 1))) d 2 (nI (dr + 1 + 1 + 1))) d x b Ad (n, na, (upd (upd (upd fF 2 (nI (dr + 1))) 2 (nI (dr + 1 + 1))) 2 (nI (dr + 1 + 1 + 1))), fO, fW, fC, fR, fB) := dk_5.num
    refine ky_iastv hx hb hK hP hD hS (dk_8.oa (k := k) (show k < n by omega)) (Nat.le_of_ble_eq_true rfl) (Nat.le_of_ble_eq_true rfl) (show vp_in 4 12 from ki_in (n := 4) (by omega) (by omega)) (ki_cl (n := 4) (by omega)) dX6_ramp_48 (fun H locs hP hD hS => ?_)
    have dk_9 : DK (pR (pI (pI (pI T d 2 (nI (dr + 1))) d 2 (nI (dr + 1 + 1))) d 2 (nI (dr + 1 + 1 + 1))) (aOk Ad k) 4 (nI w200)) d x b Ad (n, na, (upd (upd (upd fF 2 (nI (dr + 1))) 2 (nI (dr + 1 + 1))) 2 (nI (dr + 1 + 1 + 1))), (u2 fO k 4 (nI w200)), fW, fC, fR, fB) := dk_8.one (show k < n by omega)
    refine lv_aload_n hx hb dX6_ramp_49 rfl (lv_at hl 2 rfl) ?_
    refine kd_gets (r := (aO Ad)) hx hb htT m_u_X6 hown hK hP dk_9.o rfl 6 (by decide) (by decide) rfl dk_9.q6 (htT _ m_fl_X6_18) dX6_ramp_50 ?_
    refine lv_iload_n hx hb dX6_ramp_53 rfl (lv_at hl 1 rfl) ?_
    refine ky_alda (r := some (aOk Ad k)) hx hb hK hP dk_9.ao (show vp_in (nI (k)) 8 from ki_in (by omega) (by omega)) ((congrArg _ (ki_cl (n := k) (by omega))).trans (dk_9.op (k := k) (show k < n by omega))) dX6_ramp_54 ?_
    refine lv_iconst (v := 5) hx hb dX6_ramp_55 (by decide) ?_
    refine lv_aload_n hx hb dX6_ramp_56 rfl (lv_at hl 2 rfl) ?_
    refine lv_iconst (v := 3) hx hb dX6_ramp_57 (by decide) ?_
    refine kc_i (va_runV (As := [.int 3]) (rest := [.int 5, .ref (aOk Ad k)]) ⟨hx, hb, hml, hown, htT⟩ (d_draw l D cA _ (PW cA S) b L xs hL (pR (pI (pI (pI T d 2 (nI (dr + 1))) d 2 (nI (dr + 1 + 1))) d 2 (nI (dr + 1 + 1 + 1))) (aOk Ad k) 4 (nI w200)) d x Ad n na (upd (upd (upd fF 2 (nI (dr + 1))) 2 (nI (dr + 1 + 1))) 2 (nI (dr + 1 + 1 + 1))) (u2 fO k 4 (nI w200)) fW fC fR fB dk_9 (dr + 1 + 1 + 1) rfl (by omega) (3) (by omega) (by omega)) (cwV 1 htT (kg_V m_ml_X6_60 m_im_X6_draw m_sl_X6_draw m_in_X6 m_cd_X6_draw) rfl rfl rfl (by decide +kernel) ⟨Nat.le_of_ble_eq_true rfl, Nat.le_of_ble_eq_true rfl⟩) (kpe_V hK hP hD hTB hTX hX hbl hbA hAO hS hA (kpe_rc hK hP dk_9.o rfl)) rfl rfl hl.1 rfl (lv_room (Nat.le_of_ble_eq_true rfl)) dX6_ramp_58 ⟨Nat.le_of_ble_eq_true rfl, Nat.le_of_ble_eq_true rfl⟩) hD hS hA (fun r_10 x_10 H locs hq_10 hP hD hS => ?_)
    obtain ⟨⟨w3, hw3, hr_10⟩, ht_10⟩ := hq_10
    rw [hr_10]
    rw [ht_10] at hP hD
    have dk_11 : DK (pI (pR (pI (pI (pI T d 2 (nI (dr + 1))) d 2 (nI (dr + 1 + 1))) d 2 (nI (dr + 1 + 1 + 1))) (aOk Ad k) 4 (nI w200)) d 2 (nI (dr + 1 + 1 + 1 + 1))) d x b Ad (n, na, (upd (upd (upd (upd fF 2 (nI (dr + 1))) 2 (nI (dr + 1 + 1))) 2 (nI (dr + 1 + 1 + 1))) 2 (nI (dr + 1 + 1 + 1 + 1))), (u2 fO k 4 (nI w200)), fW, fC, fR, fB) := dk_9.num
    refine lv_if_ne (tgt := 68) hx hb dX6_ramp_61 (by decide) (fun c_12 => ?_) (fun c_12 => ?_)
    · replace c_12 : ¬ (w3 = 0) := fun h9 => c_12 ((nI_eq (a := w3) (b := 0) (by omega) (by omega)).mpr h9)
      refine lv_aload_n hx hb dX6_ramp_68 rfl (lv_at hl 2 rfl) ?_
      refine lv_sipush (v := 200) hx hb dX6_ramp_69 (by decide) ?_
      refine kc_i (va_runV (As := [.int 200]) (rest := [.int 5, .ref (aOk Ad k)]) ⟨hx, hb, hml, hown, htT⟩ (d_draw l D cA _ (PW cA S) b L xs hL (pI (pR (pI (pI (pI T d 2 (nI (dr + 1))) d 2 (nI (dr + 1 + 1))) d 2 (nI (dr + 1 + 1 + 1))) (aOk Ad k) 4 (nI w200)) d 2 (nI (dr + 1 + 1 + 1 + 1))) d x Ad n na (upd (upd (upd (upd fF 2 (nI (dr + 1))) 2 (nI (dr + 1 + 1))) 2 (nI (dr + 1 + 1 + 1))) 2 (nI (dr + 1 + 1 + 1 + 1))) (u2 fO k 4 (nI w200)) fW fC fR fB dk_11 (dr + 1 + 1 + 1 + 1) rfl (by omega) (200) (by omega) (by omega)) (cwV 1 htT (kg_V m_ml_X6_60 m_im_X6_draw m_sl_X6_draw m_in_X6 m_cd_X6_draw) rfl rfl rfl (by decide +kernel) ⟨Nat.le_of_ble_eq_true rfl, Nat.le_of_ble_eq_true rfl⟩) (kpe_V hK hP hD hTB hTX hX hbl hbA hAO hS hA (kpe_rc hK hP dk_11.o rfl)) rfl rfl hl.1 rfl (lv_room (Nat.le_of_ble_eq_true rfl)) dX6_ramp_72 ⟨Nat.le_of_ble_eq_true rfl, Nat.le_of_ble_eq_true rfl⟩) hD hS hA (fun r_13 x_13 H locs hq_13 hP hD hS => ?_)
      obtain ⟨⟨wb200, hwb200, hr_13⟩, ht_13⟩ := hq_13
      rw [hr_13]
      rw [ht_13] at hP hD
      have dk_14 : DK (pI (pI (pR (pI (pI (pI T d 2 (nI (dr + 1))) d 2 (nI (dr + 1 + 1))) d 2 (nI (dr + 1 + 1 + 1))) (aOk Ad k) 4 (nI w200)) d 2 (nI (dr + 1 + 1 + 1 + 1))) d 2 (nI (dr + 1 + 1 + 1 + 1 + 1))) d x b Ad (n, na, (upd (upd (upd (upd (upd fF 2 (nI (dr + 1))) 2 (nI (dr + 1 + 1))) 2 (nI (dr + 1 + 1 + 1))) 2 (nI (dr + 1 + 1 + 1 + 1))) 2 (nI (dr + 1 + 1 + 1 + 1 + 1))), (u2 fO k 4 (nI w200)), fW, fC, fR, fB) := dk_11.num
      refine ky_iastv hx hb hK hP hD hS (dk_14.oa (k := k) (show k < n by omega)) (Nat.le_of_ble_eq_true rfl) (Nat.le_of_ble_eq_true rfl) (show vp_in 5 12 from ki_in (n := 5) (by omega) (by omega)) (ki_cl (n := 5) (by omega)) dX6_ramp_75 (fun H locs hP hD hS => ?_)
      have dk_15 : DK (pR (pI (pI (pR (pI (pI (pI T d 2 (nI (dr + 1))) d 2 (nI (dr + 1 + 1))) d 2 (nI (dr + 1 + 1 + 1))) (aOk Ad k) 4 (nI w200)) d 2 (nI (dr + 1 + 1 + 1 + 1))) d 2 (nI (dr + 1 + 1 + 1 + 1 + 1))) (aOk Ad k) 5 (nI wb200)) d x b Ad (n, na, (upd (upd (upd (upd (upd fF 2 (nI (dr + 1))) 2 (nI (dr + 1 + 1))) 2 (nI (dr + 1 + 1 + 1))) 2 (nI (dr + 1 + 1 + 1 + 1))) 2 (nI (dr + 1 + 1 + 1 + 1 + 1))), (u2 (u2 fO k 4 (nI w200)) k 5 (nI wb200)), fW, fC, fR, fB) := dk_14.one (show k < n by omega)
      refine lv_aload_n hx hb dX6_ramp_76 rfl (lv_at hl 2 rfl) ?_
      refine kd_gets (r := (aO Ad)) hx hb htT m_u_X6 hown hK hP dk_15.o rfl 6 (by decide) (by decide) rfl dk_15.q6 (htT _ m_fl_X6_18) dX6_ramp_77 ?_
      refine lv_iload_n hx hb dX6_ramp_80 rfl (lv_at hl 1 rfl) ?_
      refine ky_alda (r := some (aOk Ad k)) hx hb hK hP dk_15.ao (show vp_in (nI (k)) 8 from ki_in (by omega) (by omega)) ((congrArg _ (ki_cl (n := k) (by omega))).trans (dk_15.op (k := k) (show k < n by omega))) dX6_ramp_81 ?_
      refine lv_bipush (v := 6) hx hb dX6_ramp_82 (by decide) ?_
      refine lv_aload_n hx hb dX6_ramp_84 rfl (lv_at hl 2 rfl) ?_
      refine kd_getiv (x := nI cM) hx hb htT m_u_X6 hown hK hP dk_15.o rfl 3 (by decide) (by decide) rfl (htT _ m_fl_X6_64) ((dk_15.f 3).trans ((show _ = fF 3 from rfl).trans oF3)) dX6_ramp_85 ?_
      refine ky_iastv hx hb hK hP hD hS (dk_15.oa (k := k) (show k < n by omega)) (Nat.le_of_ble_eq_true rfl) (Nat.le_of_ble_eq_true rfl) (show vp_in 6 12 from ki_in (n := 6) (by omega) (by omega)) (ki_cl (n := 6) (by omega)) dX6_ramp_88 (fun H locs hP hD hS => ?_)
      have dk_16 : DK (pR (pR (pI (pI (pR (pI (pI (pI T d 2 (nI (dr + 1))) d 2 (nI (dr + 1 + 1))) d 2 (nI (dr + 1 + 1 + 1))) (aOk Ad k) 4 (nI w200)) d 2 (nI (dr + 1 + 1 + 1 + 1))) d 2 (nI (dr + 1 + 1 + 1 + 1 + 1))) (aOk Ad k) 5 (nI wb200)) (aOk Ad k) 6 (nI cM)) d x b Ad (n, na, (upd (upd (upd (upd (upd fF 2 (nI (dr + 1))) 2 (nI (dr + 1 + 1))) 2 (nI (dr + 1 + 1 + 1))) 2 (nI (dr + 1 + 1 + 1 + 1))) 2 (nI (dr + 1 + 1 + 1 + 1 + 1))), (u2 (u2 (u2 fO k 4 (nI w200)) k 5 (nI wb200)) k 6 (nI cM)), fW, fC, fR, fB) := dk_15.one (show k < n by omega)
      refine lv_aload_n hx hb dX6_ramp_89 rfl (lv_at hl 2 rfl) ?_
      refine kd_gets (r := x) hx hb htT m_u_X6 hown hK hP dk_16.o rfl 0 (by decide) (by decide) rfl dk_16.q0 (htT _ m_fl_X6_10) dX6_ramp_90 ?_
      refine lv_iload_n hx hb dX6_ramp_93 rfl (lv_at hl 1 rfl) ?_
      refine lv_aload_n hx hb dX6_ramp_94 rfl (lv_at hl 2 rfl) ?_
      refine kd_gets (r := (aO Ad)) hx hb htT m_u_X6 hown hK hP dk_16.o rfl 6 (by decide) (by decide) rfl dk_16.q6 (htT _ m_fl_X6_18) dX6_ramp_95 ?_
      refine lv_iload_n hx hb dX6_ramp_98 rfl (lv_at hl 1 rfl) ?_
      refine ky_alda (r := some (aOk Ad k)) hx hb hK hP dk_16.ao (show vp_in (nI (k)) 8 from ki_in (by omega) (by omega)) ((congrArg _ (ki_cl (n := k) (by omega))).trans (dk_16.op (k := k) (show k < n by omega))) dX6_ramp_99 ?_
      refine lv_iconst (v := 4) hx hb dX6_ramp_100 (by decide) ?_
      refine kx_ialdv (x := nI w200) hx hb hK (kmy_P hP) (dk_16.oa (k := k) (show k < n by omega)) (Nat.le_of_ble_eq_true rfl) (Nat.le_of_ble_eq_true rfl) (show vp_in 4 12 from ki_in (n := 4) (by omega) (by omega)) ((congrArg _ (ki_cl (n := 4) (by omega))).trans ((dk_16.ov (k := k) (j := 4) (show k < n by omega) (show 4 < 12 by omega)).trans ((u2_k (by decide)).trans ((u2_k (by decide)).trans (u2_s))))) dX6_ramp_101 ?_
      refine lv_aload_n hx hb dX6_ramp_102 rfl (lv_at hl 2 rfl) ?_
      refine kd_gets (r := (aO Ad)) hx hb htT m_u_X6 hown hK hP dk_16.o rfl 6 (by decide) (by decide) rfl dk_16.q6 (htT _ m_fl_X6_18) dX6_ramp_103 ?_
      refine lv_iload_n hx hb dX6_ramp_106 rfl (lv_at hl 1 rfl) ?_
      refine ky_alda (r := some (aOk Ad k)) hx hb hK hP dk_16.ao (show vp_in (nI (k)) 8 from ki_in (by omega) (by omega)) ((congrArg _ (ki_cl (n := k) (by omega))).trans (dk_16.op (k := k) (show k < n by omega))) dX6_ramp_107 ?_
      refine lv_iconst (v := 5) hx hb dX6_ramp_108 (by decide) ?_
      refine kx_ialdv (x := nI wb200) hx hb hK (kmy_P hP) (dk_16.oa (k := k) (show k < n by omega)) (Nat.le_of_ble_eq_true rfl) (Nat.le_of_ble_eq_true rfl) (show vp_in 5 12 from ki_in (n := 5) (by omega) (by omega)) ((congrArg _ (ki_cl (n := 5) (by omega))).trans ((dk_16.ov (k := k) (j := 5) (show k < n by omega) (show 5 < 12 by omega)).trans ((u2_k (by decide)).trans (u2_s)))) dX6_ramp_109 ?_
      refine kn_i (va_runV (As := [.int (nI k), .int (nI w200), .int (nI wb200)]) (rest := []) ⟨hx, hb, hml, hown, htT⟩ (c_ramp l D cA _ S x gg.c.hx ar gg.c.q0 ak gg.c.q1 gg.c.kk gg.c.R k q8_k a_k ja_k (nI k) sw_k (nI w200) (nI wb200) (kOut_n (a := w200) (lo := 0) (hi := 1000) (by omega) (by omega) (by omega)) (kOut_n (a := wb200) (lo := 0) (hi := 1000) (by omega) (by omega) (by omega))) (cwV 3 htT (kg_V m_ml_X6_82 m_im_X5_ramp m_sl_X5_ramp m_in_X5 m_cd_X5_ramp) rfl rfl rfl (by decide +kernel) ⟨Nat.le_of_ble_eq_true rfl, Nat.le_of_ble_eq_true rfl⟩) (kn_V hK hP hD hTB gg.c.hx (Nat.le_of_ble_eq_true rfl) rfl) rfl rfl hl.1 rfl (lv_room (Nat.le_of_ble_eq_true rfl)) dX6_ramp_110 ⟨Nat.le_of_ble_eq_true rfl, Nat.le_of_ble_eq_true rfl⟩) hP hD hS hA (fun r_17 x_17 H locs hq_17 hP hD hS => ?_)
      rw [hq_17.1.trans ((gg.far hk ja_k).trans efj)]
      have gg2 : GG n na x_17 (mR (mR (mR M 7 k (nI w200)) 8 k (nI wb200)) 9 k (M.1 1)) x ar ak := by rw [hq_17.2, gg.c.x5]; exact gg.ramp hk ja_k
      have ec1 : M.1 1 = nI cM := hM.1.1
      have vm2 := (((((((hvm.draw (d2 := dr + 1)).draw (d2 := dr + 1 + 1)).draw (d2 := dr + 1 + 1 + 1)).draw (d2 := dr + 1 + 1 + 1 + 1)).draw (d2 := dr + 1 + 1 + 1 + 1 + 1)).one (k := k) (q := (4, 7)) (by decide) (by decide) (v := nI w200)).one (k := k) (q := (5, 8)) (by decide) (by decide) (v := nI wb200)).one (k := k) (q := (6, 9)) (by decide) (by decide) (v := nI cM)
      rw [show (mR (mR (mR M 7 k (nI w200)) 8 k (nI wb200)) 9 k (nI cM)) = mR (mR (mR M 7 k (nI w200)) 8 k (nI wb200)) 9 k (M.1 1) from by rw [ec1]] at vm2
      refine lv_iload_n hx hb dX6_ramp_113 rfl (lv_at hl 0 rfl) ?_
      refine lv_icmp_ne (tgt := 121) hx hb dX6_ramp_114 (by decide) (fun c_18 => ?_) (fun c_18 => ?_)
      · exact absurd rfl c_18
      · refine lv_iconst (v := 1) hx hb dX6_ramp_117 (by decide) ?_
        refine lv_goto (tgt := 122) hx hb dX6_ramp_118 (by decide) ?_
        exact W.zret (v := 1) hx hb hr (rfl) (fun t ht hW => ⟨⟨1, (pR (pR (pI (pI (pR (pI (pI (pI T d 2 (nI (dr + 1))) d 2 (nI (dr + 1 + 1))) d 2 (nI (dr + 1 + 1 + 1))) (aOk Ad k) 4 (nI w200)) d 2 (nI (dr + 1 + 1 + 1 + 1))) d 2 (nI (dr + 1 + 1 + 1 + 1 + 1))) (aOk Ad k) 5 (nI wb200)) (aOk Ad k) 6 (nI cM), x_17), rfl, ⟨rfl, n, na, dr + 1 + 1 + 1 + 1 + 1, cM, sB, _, _, _, _, _, _, _, (mR (mR (mR M 7 k (nI w200)) 8 k (nI wb200)) 9 k (M.1 1)), by omega, by omega, by omega, by omega, dk_16, vm2, gg2, (hM.ramp ⟨w200, by omega, rfl⟩ ⟨wb200, by omega, rfl⟩)⟩, by rw [ht]; exact hP, va_K.moved hW.alike hK, hD⟩, hS.F ht⟩) hS.2.2 dX6_ramp_122
    · replace c_12 := (nI_eq (a := w3) (b := 0) (by omega) (by omega)).mp c_12
      refine lv_iconst (v := 0) hx hb dX6_ramp_64 (by decide) ?_
      refine lv_goto (tgt := 75) hx hb dX6_ramp_65 (by decide) ?_
      refine ky_iastv hx hb hK hP hD hS (dk_11.oa (k := k) (show k < n by omega)) (Nat.le_of_ble_eq_true rfl) (Nat.le_of_ble_eq_true rfl) (show vp_in 5 12 from ki_in (n := 5) (by omega) (by omega)) (ki_cl (n := 5) (by omega)) dX6_ramp_75 (fun H locs hP hD hS => ?_)
      have dk_19 : DK (pR (pI (pR (pI (pI (pI T d 2 (nI (dr + 1))) d 2 (nI (dr + 1 + 1))) d 2 (nI (dr + 1 + 1 + 1))) (aOk Ad k) 4 (nI w200)) d 2 (nI (dr + 1 + 1 + 1 + 1))) (aOk Ad k) 5 0) d x b Ad (n, na, (upd (upd (upd (upd fF 2 (nI (dr + 1))) 2 (nI (dr + 1 + 1))) 2 (nI (dr + 1 + 1 + 1))) 2 (nI (dr + 1 + 1 + 1 + 1))), (u2 (u2 fO k 4 (nI w200)) k 5 0), fW, fC, fR, fB) := dk_11.one (show k < n by omega)
      refine lv_aload_n hx hb dX6_ramp_76 rfl (lv_at hl 2 rfl) ?_
      refine kd_gets (r := (aO Ad)) hx hb htT m_u_X6 hown hK hP dk_19.o rfl 6 (by decide) (by decide) rfl dk_19.q6 (htT _ m_fl_X6_18) dX6_ramp_77 ?_
      refine lv_iload_n hx hb dX6_ramp_80 rfl (lv_at hl 1 rfl) ?_
      refine ky_alda (r := some (aOk Ad k)) hx hb hK hP dk_19.ao (show vp_in (nI (k)) 8 from ki_in (by omega) (by omega)) ((congrArg _ (ki_cl (n := k) (by omega))).trans (dk_19.op (k := k) (show k < n by omega))) dX6_ramp_81 ?_
      refine lv_bipush (v := 6) hx hb dX6_ramp_82 (by decide) ?_
      refine lv_aload_n hx hb dX6_ramp_84 rfl (lv_at hl 2 rfl) ?_
      refine kd_getiv (x := nI cM) hx hb htT m_u_X6 hown hK hP dk_19.o rfl 3 (by decide) (by decide) rfl (htT _ m_fl_X6_64) ((dk_19.f 3).trans ((show _ = fF 3 from rfl).trans oF3)) dX6_ramp_85 ?_
      refine ky_iastv hx hb hK hP hD hS (dk_19.oa (k := k) (show k < n by omega)) (Nat.le_of_ble_eq_true rfl) (Nat.le_of_ble_eq_true rfl) (show vp_in 6 12 from ki_in (n := 6) (by omega) (by omega)) (ki_cl (n := 6) (by omega)) dX6_ramp_88 (fun H locs hP hD hS => ?_)
      have dk_20 : DK (pR (pR (pI (pR (pI (pI (pI T d 2 (nI (dr + 1))) d 2 (nI (dr + 1 + 1))) d 2 (nI (dr + 1 + 1 + 1))) (aOk Ad k) 4 (nI w200)) d 2 (nI (dr + 1 + 1 + 1 + 1))) (aOk Ad k) 5 0) (aOk Ad k) 6 (nI cM)) d x b Ad (n, na, (upd (upd (upd (upd fF 2 (nI (dr + 1))) 2 (nI (dr + 1 + 1))) 2 (nI (dr + 1 + 1 + 1))) 2 (nI (dr + 1 + 1 + 1 + 1))), (u2 (u2 (u2 fO k 4 (nI w200)) k 5 0) k 6 (nI cM)), fW, fC, fR, fB) := dk_19.one (show k < n by omega)
      refine lv_aload_n hx hb dX6_ramp_89 rfl (lv_at hl 2 rfl) ?_
      refine kd_gets (r := x) hx hb htT m_u_X6 hown hK hP dk_20.o rfl 0 (by decide) (by decide) rfl dk_20.q0 (htT _ m_fl_X6_10) dX6_ramp_90 ?_
      refine lv_iload_n hx hb dX6_ramp_93 rfl (lv_at hl 1 rfl) ?_
      refine lv_aload_n hx hb dX6_ramp_94 rfl (lv_at hl 2 rfl) ?_
      refine kd_gets (r := (aO Ad)) hx hb htT m_u_X6 hown hK hP dk_20.o rfl 6 (by decide) (by decide) rfl dk_20.q6 (htT _ m_fl_X6_18) dX6_ramp_95 ?_
      refine lv_iload_n hx hb dX6_ramp_98 rfl (lv_at hl 1 rfl) ?_
      refine ky_alda (r := some (aOk Ad k)) hx hb hK hP dk_20.ao (show vp_in (nI (k)) 8 from ki_in (by omega) (by omega)) ((congrArg _ (ki_cl (n := k) (by omega))).trans (dk_20.op (k := k) (show k < n by omega))) dX6_ramp_99 ?_
      refine lv_iconst (v := 4) hx hb dX6_ramp_100 (by decide) ?_
      refine kx_ialdv (x := nI w200) hx hb hK (kmy_P hP) (dk_20.oa (k := k) (show k < n by omega)) (Nat.le_of_ble_eq_true rfl) (Nat.le_of_ble_eq_true rfl) (show vp_in 4 12 from ki_in (n := 4) (by omega) (by omega)) ((congrArg _ (ki_cl (n := 4) (by omega))).trans ((dk_20.ov (k := k) (j := 4) (show k < n by omega) (show 4 < 12 by omega)).trans ((u2_k (by decide)).trans ((u2_k (by decide)).trans (u2_s))))) dX6_ramp_101 ?_
      refine lv_aload_n hx hb dX6_ramp_102 rfl (lv_at hl 2 rfl) ?_
      refine kd_gets (r := (aO Ad)) hx hb htT m_u_X6 hown hK hP dk_20.o rfl 6 (by decide) (by decide) rfl dk_20.q6 (htT _ m_fl_X6_18) dX6_ramp_103 ?_
      refine lv_iload_n hx hb dX6_ramp_106 rfl (lv_at hl 1 rfl) ?_
      refine ky_alda (r := some (aOk Ad k)) hx hb hK hP dk_20.ao (show vp_in (nI (k)) 8 from ki_in (by omega) (by omega)) ((congrArg _ (ki_cl (n := k) (by omega))).trans (dk_20.op (k := k) (show k < n by omega))) dX6_ramp_107 ?_
      refine lv_iconst (v := 5) hx hb dX6_ramp_108 (by decide) ?_
      refine kx_ialdv (x := 0) hx hb hK (kmy_P hP) (dk_20.oa (k := k) (show k < n by omega)) (Nat.le_of_ble_eq_true rfl) (Nat.le_of_ble_eq_true rfl) (show vp_in 5 12 from ki_in (n := 5) (by omega) (by omega)) ((congrArg _ (ki_cl (n := 5) (by omega))).trans ((dk_20.ov (k := k) (j := 5) (show k < n by omega) (show 5 < 12 by omega)).trans ((u2_k (by decide)).trans (u2_s)))) dX6_ramp_109 ?_
      refine kn_i (va_runV (As := [.int (nI k), .int (nI w200), .int 0]) (rest := []) ⟨hx, hb, hml, hown, htT⟩ (c_ramp l D cA _ S x gg.c.hx ar gg.c.q0 ak gg.c.q1 gg.c.kk gg.c.R k q8_k a_k ja_k (nI k) sw_k (nI w200) 0 (kOut_n (a := w200) (lo := 0) (hi := 1000) (by omega) (by omega) (by omega)) (kOut_n (a := 0) (lo := 0) (hi := 1000) (by omega) (by omega) (by omega))) (cwV 3 htT (kg_V m_ml_X6_82 m_im_X5_ramp m_sl_X5_ramp m_in_X5 m_cd_X5_ramp) rfl rfl rfl (by decide +kernel) ⟨Nat.le_of_ble_eq_true rfl, Nat.le_of_ble_eq_true rfl⟩) (kn_V hK hP hD hTB gg.c.hx (Nat.le_of_ble_eq_true rfl) rfl) rfl rfl hl.1 rfl (lv_room (Nat.le_of_ble_eq_true rfl)) dX6_ramp_110 ⟨Nat.le_of_ble_eq_true rfl, Nat.le_of_ble_eq_true rfl⟩) hP hD hS hA (fun r_21 x_21 H locs hq_21 hP hD hS => ?_)
      rw [hq_21.1.trans ((gg.far hk ja_k).trans efj)]
      have gg2 : GG n na x_21 (mR (mR (mR M 7 k (nI w200)) 8 k 0) 9 k (M.1 1)) x ar ak := by rw [hq_21.2, gg.c.x5]; exact gg.ramp hk ja_k
      have ec1 : M.1 1 = nI cM := hM.1.1
      have vm2 := ((((((hvm.draw (d2 := dr + 1)).draw (d2 := dr + 1 + 1)).draw (d2 := dr + 1 + 1 + 1)).draw (d2 := dr + 1 + 1 + 1 + 1)).one (k := k) (q := (4, 7)) (by decide) (by decide) (v := nI w200)).one (k := k) (q := (5, 8)) (by decide) (by decide) (v := 0)).one (k := k) (q := (6, 9)) (by decide) (by decide) (v := nI cM)
      rw [show (mR (mR (mR M 7 k (nI w200)) 8 k 0) 9 k (nI cM)) = mR (mR (mR M 7 k (nI w200)) 8 k 0) 9 k (M.1 1) from by rw [ec1]] at vm2
      refine lv_iload_n hx hb dX6_ramp_113 rfl (lv_at hl 0 rfl) ?_
      refine lv_icmp_ne (tgt := 121) hx hb dX6_ramp_114 (by decide) (fun c_22 => ?_) (fun c_22 => ?_)
      · exact absurd rfl c_22
      · refine lv_iconst (v := 1) hx hb dX6_ramp_117 (by decide) ?_
        refine lv_goto (tgt := 122) hx hb dX6_ramp_118 (by decide) ?_
        exact W.zret (v := 1) hx hb hr (rfl) (fun t ht hW => ⟨⟨1, (pR (pR (pI (pR (pI (pI (pI T d 2 (nI (dr + 1))) d 2 (nI (dr + 1 + 1))) d 2 (nI (dr + 1 + 1 + 1))) (aOk Ad k) 4 (nI w200)) d 2 (nI (dr + 1 + 1 + 1 + 1))) (aOk Ad k) 5 0) (aOk Ad k) 6 (nI cM), x_21), rfl, ⟨rfl, n, na, dr + 1 + 1 + 1 + 1, cM, sB, _, _, _, _, _, _, _, (mR (mR (mR M 7 k (nI w200)) 8 k 0) 9 k (M.1 1)), by omega, by omega, by omega, by omega, dk_20, vm2, gg2, (hM.ramp ⟨w200, by omega, rfl⟩ ⟨0, by omega, rfl⟩)⟩, by rw [ht]; exact hP, va_K.moved hW.alike hK, hD⟩, hS.F ht⟩) hS.2.2 dX6_ramp_122
  · replace c_6 := (nI_eq (a := w2) (b := 0) (by omega) (by omega)).mp c_6
    refine lv_aload_n hx hb dX6_ramp_31 rfl (lv_at hl 2 rfl) ?_
    refine lv_sipush (v := 1001) hx hb dX6_ramp_32 (by decide) ?_
    refine kc_i (va_runV (As := [.int 1001]) (rest := [.int 4, .ref (aOk Ad k)]) ⟨hx, hb, hml, hown, htT⟩ (d_draw l D cA _ (PW cA S) b L xs hL (pI (pI T d 2 (nI (dr + 1))) d 2 (nI (dr + 1 + 1))) d x Ad n na (upd (upd fF 2 (nI (dr + 1))) 2 (nI (dr + 1 + 1))) fO fW fC fR fB dk_5 (dr + 1 + 1) rfl (by omega) (1001) (by omega) (by omega)) (cwV 1 htT (kg_V m_ml_X6_60 m_im_X6_draw m_sl_X6_draw m_in_X6 m_cd_X6_draw) rfl rfl rfl (by decide +kernel) ⟨Nat.le_of_ble_eq_true rfl, Nat.le_of_ble_eq_true rfl⟩) (kpe_V hK hP hD hTB hTX hX hbl hbA hAO hS hA (kpe_rc hK hP dk_5.o rfl)) rfl rfl hl.1 rfl (lv_room (Nat.le_of_ble_eq_true rfl)) dX6_ramp_35 ⟨Nat.le_of_ble_eq_true rfl, Nat.le_of_ble_eq_true rfl⟩) hD hS hA (fun r_23 x_23 H locs hq_23 hP hD hS => ?_)
    obtain ⟨⟨w1001, hw1001, hr_23⟩, ht_23⟩ := hq_23
    rw [hr_23]
    rw [ht_23] at hP hD
    have dk_24 : DK (pI (pI (pI T d 2 (nI (dr + 1))) d 2 (nI (dr + 1 + 1))) d 2 (nI (dr + 1 + 1 + 1))) d x b Ad (n, na, (upd (upd (upd fF 2 (nI (dr + 1))) 2 (nI (dr + 1 + 1))) 2 (nI (dr + 1 + 1 + 1))), fO, fW, fC, fR, fB) := dk_5.num
    refine lv_goto (tgt := 48) hx hb dX6_ramp_38 (by decide) ?_
    refine ky_iastv hx hb hK hP hD hS (dk_24.oa (k := k) (show k < n by omega)) (Nat.le_of_ble_eq_true rfl) (Nat.le_of_ble_eq_true rfl) (show vp_in 4 12 from ki_in (n := 4) (by omega) (by omega)) (ki_cl (n := 4) (by omega)) dX6_ramp_48 (fun H locs hP hD hS => ?_)
    have dk_25 : DK (pR (pI (pI (pI T d 2 (nI (dr + 1))) d 2 (nI (dr + 1 + 1))) d 2 (nI (dr + 1 + 1 + 1))) (aOk Ad k) 4 (nI w1001)) d x b Ad (n, na, (upd (upd (upd fF 2 (nI (dr + 1))) 2 (nI (dr + 1 + 1))) 2 (nI (dr + 1 + 1 + 1))), (u2 fO k 4 (nI w1001)), fW, fC, fR, fB) := dk_24.one (show k < n by omega)
    refine lv_aload_n hx hb dX6_ramp_49 rfl (lv_at hl 2 rfl) ?_
    refine kd_gets (r := (aO Ad)) hx hb htT m_u_X6 hown hK hP dk_25.o rfl 6 (by decide) (by decide) rfl dk_25.q6 (htT _ m_fl_X6_18) dX6_ramp_50 ?_
    refine lv_iload_n hx hb dX6_ramp_53 rfl (lv_at hl 1 rfl) ?_
    refine ky_alda (r := some (aOk Ad k)) hx hb hK hP dk_25.ao (show vp_in (nI (k)) 8 from ki_in (by omega) (by omega)) ((congrArg _ (ki_cl (n := k) (by omega))).trans (dk_25.op (k := k) (show k < n by omega))) dX6_ramp_54 ?_
    refine lv_iconst (v := 5) hx hb dX6_ramp_55 (by decide) ?_
    refine lv_aload_n hx hb dX6_ramp_56 rfl (lv_at hl 2 rfl) ?_
    refine lv_iconst (v := 3) hx hb dX6_ramp_57 (by decide) ?_
    refine kc_i (va_runV (As := [.int 3]) (rest := [.int 5, .ref (aOk Ad k)]) ⟨hx, hb, hml, hown, htT⟩ (d_draw l D cA _ (PW cA S) b L xs hL (pR (pI (pI (pI T d 2 (nI (dr + 1))) d 2 (nI (dr + 1 + 1))) d 2 (nI (dr + 1 + 1 + 1))) (aOk Ad k) 4 (nI w1001)) d x Ad n na (upd (upd (upd fF 2 (nI (dr + 1))) 2 (nI (dr + 1 + 1))) 2 (nI (dr + 1 + 1 + 1))) (u2 fO k 4 (nI w1001)) fW fC fR fB dk_25 (dr + 1 + 1 + 1) rfl (by omega) (3) (by omega) (by omega)) (cwV 1 htT (kg_V m_ml_X6_60 m_im_X6_draw m_sl_X6_draw m_in_X6 m_cd_X6_draw) rfl rfl rfl (by decide +kernel) ⟨Nat.le_of_ble_eq_true rfl, Nat.le_of_ble_eq_true rfl⟩) (kpe_V hK hP hD hTB hTX hX hbl hbA hAO hS hA (kpe_rc hK hP dk_25.o rfl)) rfl rfl hl.1 rfl (lv_room (Nat.le_of_ble_eq_true rfl)) dX6_ramp_58 ⟨Nat.le_of_ble_eq_true rfl, Nat.le_of_ble_eq_true rfl⟩) hD hS hA (fun r_26 x_26 H locs hq_26 hP hD hS => ?_)
    obtain ⟨⟨w3, hw3, hr_26⟩, ht_26⟩ := hq_26
    rw [hr_26]
    rw [ht_26] at hP hD
    have dk_27 : DK (pI (pR (pI (pI (pI T d 2 (nI (dr + 1))) d 2 (nI (dr + 1 + 1))) d 2 (nI (dr + 1 + 1 + 1))) (aOk Ad k) 4 (nI w1001)) d 2 (nI (dr + 1 + 1 + 1 + 1))) d x b Ad (n, na, (upd (upd (upd (upd fF 2 (nI (dr + 1))) 2 (nI (dr + 1 + 1))) 2 (nI (dr + 1 + 1 + 1))) 2 (nI (dr + 1 + 1 + 1 + 1))), (u2 fO k 4 (nI w1001)), fW, fC, fR, fB) := dk_25.num
    refine lv_if_ne (tgt := 68) hx hb dX6_ramp_61 (by decide) (fun c_28 => ?_) (fun c_28 => ?_)
    · replace c_28 : ¬ (w3 = 0) := fun h9 => c_28 ((nI_eq (a := w3) (b := 0) (by omega) (by omega)).mpr h9)
      refine lv_aload_n hx hb dX6_ramp_68 rfl (lv_at hl 2 rfl) ?_
      refine lv_sipush (v := 200) hx hb dX6_ramp_69 (by decide) ?_
      refine kc_i (va_runV (As := [.int 200]) (rest := [.int 5, .ref (aOk Ad k)]) ⟨hx, hb, hml, hown, htT⟩ (d_draw l D cA _ (PW cA S) b L xs hL (pI (pR (pI (pI (pI T d 2 (nI (dr + 1))) d 2 (nI (dr + 1 + 1))) d 2 (nI (dr + 1 + 1 + 1))) (aOk Ad k) 4 (nI w1001)) d 2 (nI (dr + 1 + 1 + 1 + 1))) d x Ad n na (upd (upd (upd (upd fF 2 (nI (dr + 1))) 2 (nI (dr + 1 + 1))) 2 (nI (dr + 1 + 1 + 1))) 2 (nI (dr + 1 + 1 + 1 + 1))) (u2 fO k 4 (nI w1001)) fW fC fR fB dk_27 (dr + 1 + 1 + 1 + 1) rfl (by omega) (200) (by omega) (by omega)) (cwV 1 htT (kg_V m_ml_X6_60 m_im_X6_draw m_sl_X6_draw m_in_X6 m_cd_X6_draw) rfl rfl rfl (by decide +kernel) ⟨Nat.le_of_ble_eq_true rfl, Nat.le_of_ble_eq_true rfl⟩) (kpe_V hK hP hD hTB hTX hX hbl hbA hAO hS hA (kpe_rc hK hP dk_27.o rfl)) rfl rfl hl.1 rfl (lv_room (Nat.le_of_ble_eq_true rfl)) dX6_ramp_72 ⟨Nat.le_of_ble_eq_true rfl, Nat.le_of_ble_eq_true rfl⟩) hD hS hA (fun r_29 x_29 H locs hq_29 hP hD hS => ?_)
      obtain ⟨⟨wb200, hwb200, hr_29⟩, ht_29⟩ := hq_29
      rw [hr_29]
      rw [ht_29] at hP hD
      have dk_30 : DK (pI (pI (pR (pI (pI (pI T d 2 (nI (dr + 1))) d 2 (nI (dr + 1 + 1))) d 2 (nI (dr + 1 + 1 + 1))) (aOk Ad k) 4 (nI w1001)) d 2 (nI (dr + 1 + 1 + 1 + 1))) d 2 (nI (dr + 1 + 1 + 1 + 1 + 1))) d x b Ad (n, na, (upd (upd (upd (upd (upd fF 2 (nI (dr + 1))) 2 (nI (dr + 1 + 1))) 2 (nI (dr + 1 + 1 + 1))) 2 (nI (dr + 1 + 1 + 1 + 1))) 2 (nI (dr + 1 + 1 + 1 + 1 + 1))), (u2 fO k 4 (nI w1001)), fW, fC, fR, fB) := dk_27.num
      refine ky_iastv hx hb hK hP hD hS (dk_30.oa (k := k) (show k < n by omega)) (Nat.le_of_ble_eq_true rfl) (Nat.le_of_ble_eq_true rfl) (show vp_in 5 12 from ki_in (n := 5) (by omega) (by omega)) (ki_cl (n := 5) (by omega)) dX6_ramp_75 (fun H locs hP hD hS => ?_)
      have dk_31 : DK (pR (pI (pI (pR (pI (pI (pI T d 2 (nI (dr + 1))) d 2 (nI (dr + 1 + 1))) d 2 (nI (dr + 1 + 1 + 1))) (aOk Ad k) 4 (nI w1001)) d 2 (nI (dr + 1 + 1 + 1 + 1))) d 2 (nI (dr + 1 + 1 + 1 + 1 + 1))) (aOk Ad k) 5 (nI wb200)) d x b Ad (n, na, (upd (upd (upd (upd (upd fF 2 (nI (dr + 1))) 2 (nI (dr + 1 + 1))) 2 (nI (dr + 1 + 1 + 1))) 2 (nI (dr + 1 + 1 + 1 + 1))) 2 (nI (dr + 1 + 1 + 1 + 1 + 1))), (u2 (u2 fO k 4 (nI w1001)) k 5 (nI wb200)), fW, fC, fR, fB) := dk_30.one (show k < n by omega)
      refine lv_aload_n hx hb dX6_ramp_76 rfl (lv_at hl 2 rfl) ?_
      refine kd_gets (r := (aO Ad)) hx hb htT m_u_X6 hown hK hP dk_31.o rfl 6 (by decide) (by decide) rfl dk_31.q6 (htT _ m_fl_X6_18) dX6_ramp_77 ?_
      refine lv_iload_n hx hb dX6_ramp_80 rfl (lv_at hl 1 rfl) ?_
      refine ky_alda (r := some (aOk Ad k)) hx hb hK hP dk_31.ao (show vp_in (nI (k)) 8 from ki_in (by omega) (by omega)) ((congrArg _ (ki_cl (n := k) (by omega))).trans (dk_31.op (k := k) (show k < n by omega))) dX6_ramp_81 ?_
      refine lv_bipush (v := 6) hx hb dX6_ramp_82 (by decide) ?_
      refine lv_aload_n hx hb dX6_ramp_84 rfl (lv_at hl 2 rfl) ?_
      refine kd_getiv (x := nI cM) hx hb htT m_u_X6 hown hK hP dk_31.o rfl 3 (by decide) (by decide) rfl (htT _ m_fl_X6_64) ((dk_31.f 3).trans ((show _ = fF 3 from rfl).trans oF3)) dX6_ramp_85 ?_
      refine ky_iastv hx hb hK hP hD hS (dk_31.oa (k := k) (show k < n by omega)) (Nat.le_of_ble_eq_true rfl) (Nat.le_of_ble_eq_true rfl) (show vp_in 6 12 from ki_in (n := 6) (by omega) (by omega)) (ki_cl (n := 6) (by omega)) dX6_ramp_88 (fun H locs hP hD hS => ?_)
      have dk_32 : DK (pR (pR (pI (pI (pR (pI (pI (pI T d 2 (nI (dr + 1))) d 2 (nI (dr + 1 + 1))) d 2 (nI (dr + 1 + 1 + 1))) (aOk Ad k) 4 (nI w1001)) d 2 (nI (dr + 1 + 1 + 1 + 1))) d 2 (nI (dr + 1 + 1 + 1 + 1 + 1))) (aOk Ad k) 5 (nI wb200)) (aOk Ad k) 6 (nI cM)) d x b Ad (n, na, (upd (upd (upd (upd (upd fF 2 (nI (dr + 1))) 2 (nI (dr + 1 + 1))) 2 (nI (dr + 1 + 1 + 1))) 2 (nI (dr + 1 + 1 + 1 + 1))) 2 (nI (dr + 1 + 1 + 1 + 1 + 1))), (u2 (u2 (u2 fO k 4 (nI w1001)) k 5 (nI wb200)) k 6 (nI cM)), fW, fC, fR, fB) := dk_31.one (show k < n by omega)
      refine lv_aload_n hx hb dX6_ramp_89 rfl (lv_at hl 2 rfl) ?_
      refine kd_gets (r := x) hx hb htT m_u_X6 hown hK hP dk_32.o rfl 0 (by decide) (by decide) rfl dk_32.q0 (htT _ m_fl_X6_10) dX6_ramp_90 ?_
      refine lv_iload_n hx hb dX6_ramp_93 rfl (lv_at hl 1 rfl) ?_
      refine lv_aload_n hx hb dX6_ramp_94 rfl (lv_at hl 2 rfl) ?_
      refine kd_gets (r := (aO Ad)) hx hb htT m_u_X6 hown hK hP dk_32.o rfl 6 (by decide) (by decide) rfl dk_32.q6 (htT _ m_fl_X6_18) dX6_ramp_95 ?_
      refine lv_iload_n hx hb dX6_ramp_98 rfl (lv_at hl 1 rfl) ?_
      refine ky_alda (r := some (aOk Ad k)) hx hb hK hP dk_32.ao (show vp_in (nI (k)) 8 from ki_in (by omega) (by omega)) ((congrArg _ (ki_cl (n := k) (by omega))).trans (dk_32.op (k := k) (show k < n by omega))) dX6_ramp_99 ?_
      refine lv_iconst (v := 4) hx hb dX6_ramp_100 (by decide) ?_
      refine kx_ialdv (x := nI w1001) hx hb hK (kmy_P hP) (dk_32.oa (k := k) (show k < n by omega)) (Nat.le_of_ble_eq_true rfl) (Nat.le_of_ble_eq_true rfl) (show vp_in 4 12 from ki_in (n := 4) (by omega) (by omega)) ((congrArg _ (ki_cl (n := 4) (by omega))).trans ((dk_32.ov (k := k) (j := 4) (show k < n by omega) (show 4 < 12 by omega)).trans ((u2_k (by decide)).trans ((u2_k (by decide)).trans (u2_s))))) dX6_ramp_101 ?_
      refine lv_aload_n hx hb dX6_ramp_102 rfl (lv_at hl 2 rfl) ?_
      refine kd_gets (r := (aO Ad)) hx hb htT m_u_X6 hown hK hP dk_32.o rfl 6 (by decide) (by decide) rfl dk_32.q6 (htT _ m_fl_X6_18) dX6_ramp_103 ?_
      refine lv_iload_n hx hb dX6_ramp_106 rfl (lv_at hl 1 rfl) ?_
      refine ky_alda (r := some (aOk Ad k)) hx hb hK hP dk_32.ao (show vp_in (nI (k)) 8 from ki_in (by omega) (by omega)) ((congrArg _ (ki_cl (n := k) (by omega))).trans (dk_32.op (k := k) (show k < n by omega))) dX6_ramp_107 ?_
      refine lv_iconst (v := 5) hx hb dX6_ramp_108 (by decide) ?_
      refine kx_ialdv (x := nI wb200) hx hb hK (kmy_P hP) (dk_32.oa (k := k) (show k < n by omega)) (Nat.le_of_ble_eq_true rfl) (Nat.le_of_ble_eq_true rfl) (show vp_in 5 12 from ki_in (n := 5) (by omega) (by omega)) ((congrArg _ (ki_cl (n := 5) (by omega))).trans ((dk_32.ov (k := k) (j := 5) (show k < n by omega) (show 5 < 12 by omega)).trans ((u2_k (by decide)).trans (u2_s)))) dX6_ramp_109 ?_
      refine kn_i (va_runV (As := [.int (nI k), .int (nI w1001), .int (nI wb200)]) (rest := []) ⟨hx, hb, hml, hown, htT⟩ (c_ramp l D cA _ S x gg.c.hx ar gg.c.q0 ak gg.c.q1 gg.c.kk gg.c.R k q8_k a_k ja_k (nI k) sw_k (nI w1001) (nI wb200) (kOut_n (a := w1001) (lo := 0) (hi := 1000) (by omega) (by omega) (by omega)) (kOut_n (a := wb200) (lo := 0) (hi := 1000) (by omega) (by omega) (by omega))) (cwV 3 htT (kg_V m_ml_X6_82 m_im_X5_ramp m_sl_X5_ramp m_in_X5 m_cd_X5_ramp) rfl rfl rfl (by decide +kernel) ⟨Nat.le_of_ble_eq_true rfl, Nat.le_of_ble_eq_true rfl⟩) (kn_V hK hP hD hTB gg.c.hx (Nat.le_of_ble_eq_true rfl) rfl) rfl rfl hl.1 rfl (lv_room (Nat.le_of_ble_eq_true rfl)) dX6_ramp_110 ⟨Nat.le_of_ble_eq_true rfl, Nat.le_of_ble_eq_true rfl⟩) hP hD hS hA (fun r_33 x_33 H locs hq_33 hP hD hS => ?_)
      rw [hq_33.1.trans ((gg.far hk ja_k).trans efj)]
      have gg2 : GG n na x_33 (mR (mR (mR M 7 k (nI w1001)) 8 k (nI wb200)) 9 k (M.1 1)) x ar ak := by rw [hq_33.2, gg.c.x5]; exact gg.ramp hk ja_k
      have ec1 : M.1 1 = nI cM := hM.1.1
      have vm2 := (((((((hvm.draw (d2 := dr + 1)).draw (d2 := dr + 1 + 1)).draw (d2 := dr + 1 + 1 + 1)).draw (d2 := dr + 1 + 1 + 1 + 1)).draw (d2 := dr + 1 + 1 + 1 + 1 + 1)).one (k := k) (q := (4, 7)) (by decide) (by decide) (v := nI w1001)).one (k := k) (q := (5, 8)) (by decide) (by decide) (v := nI wb200)).one (k := k) (q := (6, 9)) (by decide) (by decide) (v := nI cM)
      rw [show (mR (mR (mR M 7 k (nI w1001)) 8 k (nI wb200)) 9 k (nI cM)) = mR (mR (mR M 7 k (nI w1001)) 8 k (nI wb200)) 9 k (M.1 1) from by rw [ec1]] at vm2
      refine lv_iload_n hx hb dX6_ramp_113 rfl (lv_at hl 0 rfl) ?_
      refine lv_icmp_ne (tgt := 121) hx hb dX6_ramp_114 (by decide) (fun c_34 => ?_) (fun c_34 => ?_)
      · exact absurd rfl c_34
      · refine lv_iconst (v := 1) hx hb dX6_ramp_117 (by decide) ?_
        refine lv_goto (tgt := 122) hx hb dX6_ramp_118 (by decide) ?_
        exact W.zret (v := 1) hx hb hr (rfl) (fun t ht hW => ⟨⟨1, (pR (pR (pI (pI (pR (pI (pI (pI T d 2 (nI (dr + 1))) d 2 (nI (dr + 1 + 1))) d 2 (nI (dr + 1 + 1 + 1))) (aOk Ad k) 4 (nI w1001)) d 2 (nI (dr + 1 + 1 + 1 + 1))) d 2 (nI (dr + 1 + 1 + 1 + 1 + 1))) (aOk Ad k) 5 (nI wb200)) (aOk Ad k) 6 (nI cM), x_33), rfl, ⟨rfl, n, na, dr + 1 + 1 + 1 + 1 + 1, cM, sB, _, _, _, _, _, _, _, (mR (mR (mR M 7 k (nI w1001)) 8 k (nI wb200)) 9 k (M.1 1)), by omega, by omega, by omega, by omega, dk_32, vm2, gg2, (hM.ramp ⟨w1001, by omega, rfl⟩ ⟨wb200, by omega, rfl⟩)⟩, by rw [ht]; exact hP, va_K.moved hW.alike hK, hD⟩, hS.F ht⟩) hS.2.2 dX6_ramp_122
    · replace c_28 := (nI_eq (a := w3) (b := 0) (by omega) (by omega)).mp c_28
      refine lv_iconst (v := 0) hx hb dX6_ramp_64 (by decide) ?_
      refine lv_goto (tgt := 75) hx hb dX6_ramp_65 (by decide) ?_
      refine ky_iastv hx hb hK hP hD hS (dk_27.oa (k := k) (show k < n by omega)) (Nat.le_of_ble_eq_true rfl) (Nat.le_of_ble_eq_true rfl) (show vp_in 5 12 from ki_in (n := 5) (by omega) (by omega)) (ki_cl (n := 5) (by omega)) dX6_ramp_75 (fun H locs hP hD hS => ?_)
      have dk_35 : DK (pR (pI (pR (pI (pI (pI T d 2 (nI (dr + 1))) d 2 (nI (dr + 1 + 1))) d 2 (nI (dr + 1 + 1 + 1))) (aOk Ad k) 4 (nI w1001)) d 2 (nI (dr + 1 + 1 + 1 + 1))) (aOk Ad k) 5 0) d x b Ad (n, na, (upd (upd (upd (upd fF 2 (nI (dr + 1))) 2 (nI (dr + 1 + 1))) 2 (nI (dr + 1 + 1 + 1))) 2 (nI (dr + 1 + 1 + 1 + 1))), (u2 (u2 fO k 4 (nI w1001)) k 5 0), fW, fC, fR, fB) := dk_27.one (show k < n by omega)
      refine lv_aload_n hx hb dX6_ramp_76 rfl (lv_at hl 2 rfl) ?_
      refine kd_gets (r := (aO Ad)) hx hb htT m_u_X6 hown hK hP dk_35.o rfl 6 (by decide) (by decide) rfl dk_35.q6 (htT _ m_fl_X6_18) dX6_ramp_77 ?_
      refine lv_iload_n hx hb dX6_ramp_80 rfl (lv_at hl 1 rfl) ?_
      refine ky_alda (r := some (aOk Ad k)) hx hb hK hP dk_35.ao (show vp_in (nI (k)) 8 from ki_in (by omega) (by omega)) ((congrArg _ (ki_cl (n := k) (by omega))).trans (dk_35.op (k := k) (show k < n by omega))) dX6_ramp_81 ?_
      refine lv_bipush (v := 6) hx hb dX6_ramp_82 (by decide) ?_
      refine lv_aload_n hx hb dX6_ramp_84 rfl (lv_at hl 2 rfl) ?_
      refine kd_getiv (x := nI cM) hx hb htT m_u_X6 hown hK hP dk_35.o rfl 3 (by decide) (by decide) rfl (htT _ m_fl_X6_64) ((dk_35.f 3).trans ((show _ = fF 3 from rfl).trans oF3)) dX6_ramp_85 ?_
      refine ky_iastv hx hb hK hP hD hS (dk_35.oa (k := k) (show k < n by omega)) (Nat.le_of_ble_eq_true rfl) (Nat.le_of_ble_eq_true rfl) (show vp_in 6 12 from ki_in (n := 6) (by omega) (by omega)) (ki_cl (n := 6) (by omega)) dX6_ramp_88 (fun H locs hP hD hS => ?_)
      have dk_36 : DK (pR (pR (pI (pR (pI (pI (pI T d 2 (nI (dr + 1))) d 2 (nI (dr + 1 + 1))) d 2 (nI (dr + 1 + 1 + 1))) (aOk Ad k) 4 (nI w1001)) d 2 (nI (dr + 1 + 1 + 1 + 1))) (aOk Ad k) 5 0) (aOk Ad k) 6 (nI cM)) d x b Ad (n, na, (upd (upd (upd (upd fF 2 (nI (dr + 1))) 2 (nI (dr + 1 + 1))) 2 (nI (dr + 1 + 1 + 1))) 2 (nI (dr + 1 + 1 + 1 + 1))), (u2 (u2 (u2 fO k 4 (nI w1001)) k 5 0) k 6 (nI cM)), fW, fC, fR, fB) := dk_35.one (show k < n by omega)
      refine lv_aload_n hx hb dX6_ramp_89 rfl (lv_at hl 2 rfl) ?_
      refine kd_gets (r := x) hx hb htT m_u_X6 hown hK hP dk_36.o rfl 0 (by decide) (by decide) rfl dk_36.q0 (htT _ m_fl_X6_10) dX6_ramp_90 ?_
      refine lv_iload_n hx hb dX6_ramp_93 rfl (lv_at hl 1 rfl) ?_
      refine lv_aload_n hx hb dX6_ramp_94 rfl (lv_at hl 2 rfl) ?_
      refine kd_gets (r := (aO Ad)) hx hb htT m_u_X6 hown hK hP dk_36.o rfl 6 (by decide) (by decide) rfl dk_36.q6 (htT _ m_fl_X6_18) dX6_ramp_95 ?_
      refine lv_iload_n hx hb dX6_ramp_98 rfl (lv_at hl 1 rfl) ?_
      refine ky_alda (r := some (aOk Ad k)) hx hb hK hP dk_36.ao (show vp_in (nI (k)) 8 from ki_in (by omega) (by omega)) ((congrArg _ (ki_cl (n := k) (by omega))).trans (dk_36.op (k := k) (show k < n by omega))) dX6_ramp_99 ?_
      refine lv_iconst (v := 4) hx hb dX6_ramp_100 (by decide) ?_
      refine kx_ialdv (x := nI w1001) hx hb hK (kmy_P hP) (dk_36.oa (k := k) (show k < n by omega)) (Nat.le_of_ble_eq_true rfl) (Nat.le_of_ble_eq_true rfl) (show vp_in 4 12 from ki_in (n := 4) (by omega) (by omega)) ((congrArg _ (ki_cl (n := 4) (by omega))).trans ((dk_36.ov (k := k) (j := 4) (show k < n by omega) (show 4 < 12 by omega)).trans ((u2_k (by decide)).trans ((u2_k (by decide)).trans (u2_s))))) dX6_ramp_101 ?_
      refine lv_aload_n hx hb dX6_ramp_102 rfl (lv_at hl 2 rfl) ?_
      refine kd_gets (r := (aO Ad)) hx hb htT m_u_X6 hown hK hP dk_36.o rfl 6 (by decide) (by decide) rfl dk_36.q6 (htT _ m_fl_X6_18) dX6_ramp_103 ?_
      refine lv_iload_n hx hb dX6_ramp_106 rfl (lv_at hl 1 rfl) ?_
      refine ky_alda (r := some (aOk Ad k)) hx hb hK hP dk_36.ao (show vp_in (nI (k)) 8 from ki_in (by omega) (by omega)) ((congrArg _ (ki_cl (n := k) (by omega))).trans (dk_36.op (k := k) (show k < n by omega))) dX6_ramp_107 ?_
      refine lv_iconst (v := 5) hx hb dX6_ramp_108 (by decide) ?_
      refine kx_ialdv (x := 0) hx hb hK (kmy_P hP) (dk_36.oa (k := k) (show k < n by omega)) (Nat.le_of_ble_eq_true rfl) (Nat.le_of_ble_eq_true rfl) (show vp_in 5 12 from ki_in (n := 5) (by omega) (by omega)) ((congrArg _ (ki_cl (n := 5) (by omega))).trans ((dk_36.ov (k := k) (j := 5) (show k < n by omega) (show 5 < 12 by omega)).trans ((u2_k (by decide)).trans (u2_s)))) dX6_ramp_109 ?_
      refine kn_i (va_runV (As := [.int (nI k), .int (nI w1001), .int 0]) (rest := []) ⟨hx, hb, hml, hown, htT⟩ (c_ramp l D cA _ S x gg.c.hx ar gg.c.q0 ak gg.c.q1 gg.c.kk gg.c.R k q8_k a_k ja_k (nI k) sw_k (nI w1001) 0 (kOut_n (a := w1001) (lo := 0) (hi := 1000) (by omega) (by omega) (by omega)) (kOut_n (a := 0) (lo := 0) (hi := 1000) (by omega) (by omega) (by omega))) (cwV 3 htT (kg_V m_ml_X6_82 m_im_X5_ramp m_sl_X5_ramp m_in_X5 m_cd_X5_ramp) rfl rfl rfl (by decide +kernel) ⟨Nat.le_of_ble_eq_true rfl, Nat.le_of_ble_eq_true rfl⟩) (kn_V hK hP hD hTB gg.c.hx (Nat.le_of_ble_eq_true rfl) rfl) rfl rfl hl.1 rfl (lv_room (Nat.le_of_ble_eq_true rfl)) dX6_ramp_110 ⟨Nat.le_of_ble_eq_true rfl, Nat.le_of_ble_eq_true rfl⟩) hP hD hS hA (fun r_37 x_37 H locs hq_37 hP hD hS => ?_)
      rw [hq_37.1.trans ((gg.far hk ja_k).trans efj)]
      have gg2 : GG n na x_37 (mR (mR (mR M 7 k (nI w1001)) 8 k 0) 9 k (M.1 1)) x ar ak := by rw [hq_37.2, gg.c.x5]; exact gg.ramp hk ja_k
      have ec1 : M.1 1 = nI cM := hM.1.1
      have vm2 := ((((((hvm.draw (d2 := dr + 1)).draw (d2 := dr + 1 + 1)).draw (d2 := dr + 1 + 1 + 1)).draw (d2 := dr + 1 + 1 + 1 + 1)).one (k := k) (q := (4, 7)) (by decide) (by decide) (v := nI w1001)).one (k := k) (q := (5, 8)) (by decide) (by decide) (v := 0)).one (k := k) (q := (6, 9)) (by decide) (by decide) (v := nI cM)
      rw [show (mR (mR (mR M 7 k (nI w1001)) 8 k 0) 9 k (nI cM)) = mR (mR (mR M 7 k (nI w1001)) 8 k 0) 9 k (M.1 1) from by rw [ec1]] at vm2
      refine lv_iload_n hx hb dX6_ramp_113 rfl (lv_at hl 0 rfl) ?_
      refine lv_icmp_ne (tgt := 121) hx hb dX6_ramp_114 (by decide) (fun c_38 => ?_) (fun c_38 => ?_)
      · exact absurd rfl c_38
      · refine lv_iconst (v := 1) hx hb dX6_ramp_117 (by decide) ?_
        refine lv_goto (tgt := 122) hx hb dX6_ramp_118 (by decide) ?_
        exact W.zret (v := 1) hx hb hr (rfl) (fun t ht hW => ⟨⟨1, (pR (pR (pI (pR (pI (pI (pI T d 2 (nI (dr + 1))) d 2 (nI (dr + 1 + 1))) d 2 (nI (dr + 1 + 1 + 1))) (aOk Ad k) 4 (nI w1001)) d 2 (nI (dr + 1 + 1 + 1 + 1))) (aOk Ad k) 5 0) (aOk Ad k) 6 (nI cM), x_37), rfl, ⟨rfl, n, na, dr + 1 + 1 + 1 + 1, cM, sB, _, _, _, _, _, _, _, (mR (mR (mR M 7 k (nI w1001)) 8 k 0) 9 k (M.1 1)), by omega, by omega, by omega, by omega, dk_36, vm2, gg2, (hM.ramp ⟨w1001, by omega, rfl⟩ ⟨0, by omega, rfl⟩)⟩, by rw [ht]; exact hP, va_K.moved hW.alike hK, hD⟩, hS.F ht⟩) hS.2.2 dX6_ramp_122

set_option maxRecDepth 100000 in
set_option maxHeartbeats 4000000 in
/-- d_weigh -/
theorem d_weigh (l : Launch) (D : va_G) (cA : Nat → ClassId) (sz : Nat) (b L : Nat) (xs : Nat → Int32) (hL : L < 2 ^ 31) (T S : Pool) (d x ar ak D0 c0 s0 n0 : Nat) (hD0 : D0 < 1000000) (hc0 : c0 < 100000) (hs0 : s0 < 1000000) (hJ : J38 d x b ar ak D0 c0 s0 n0 T S) (hn0 : 1 ≤ n0)  : Met l yX6_weigh (Cond.code yX6_weigh cX6_weigh 4 (some .boolean) :: TT) ({ frames := 3, cells := 0, slots := 0, locals := 68 }) (va_Pc [.ref d] (kPreE D cA (PW cA T ++ PW cA S) b L xs sz)) (va_Qi (fun (r_ : Int32) (x_ : Pool × Pool) => r_ = 1 ∧ J38 d x b ar ak (D0 + 8) (c0) (s0) (n0) x_.1 x_.2) (fun x_ => kB D cA (va_A (PW cA T ++ PW cA S) sz) (PW cA x_.1 ++ PW cA x_.2)) (va_A (PW cA T ++ PW cA S) sz)) 0 0 (va_A (PW cA T ++ PW cA S) sz) := by
  refine Met.ofW (cc := cX6_weigh) (maxL := 4) (ret := (some .boolean)) (by decide) rfl ?_
  intro p e s m args below meth c s₁ B hml hv
  obtain ⟨rfl, ⟨⟨hsz, hP, hK, hD0, hTB⟩, hTX⟩, hX, hbl, hbA, hAO⟩ := hv
  have hx := B.exec
  have hb := B.bytes
  have hr := B.returns
  have hts := atoms_spec (ws := Cond.code yX6_weigh cX6_weigh 4 (some .boolean) :: TT) B.pre
  have htT : ∀ w ∈ TT, w.before _ s = true := fun w h => hts w (List.mem_cons_of_mem _ h)
  have hown : s.vm.findClass RX6 = some m.cls := findClass_of_methodNamed B.named
  have hlocks := B.notSynchronized
  subst hsz
  have hD := hD0.self (sz := s.heap.size)
  generalize hAe : va_A (PW cA T ++ PW cA S) s.heap.size = A at hD hTX hbA ⊢
  have hA : ∀ q : Nat, s.heap.size ≤ q → A q := fun q h => by rw [← hAe]; exact Or.inr h
  have hS : va_S A s.heap s.heap [] := va_S.rf
  have hl := lv_entry ([.ref d]) (n := 4) (Nat.le_of_ble_eq_true rfl)
  rw [lg_entry_eq]
  generalize (lg_sl ([.ref d]) ++ List.replicate (4 - (lg_sl ([.ref d])).length) Slot.unset).toArray = ls at hl ⊢
  have hl : lv_has ls 4 [(0, .ref d)] := hl
  obtain ⟨n, na, dr, cM, sB, Ad, fF, fO, fW, fC, fR, fB, M, hn9, hdr9, hcM9, hsB9, dk, hvm, gg, hM⟩ := hJ
  have hn8 : n ≤ 8 := dk.n8
  have hna : na ≤ 100 := gg.r.na
  have hdr : fF 2 = nI dr := hvm.f2
  have oF5 : fF 5 = nI n := hvm.f5
  have oF3 : fF 3 = nI cM := hvm.f3.trans hM.1.1
  refine lv_aload_n hx hb dX6_weigh_0 rfl (lv_at hl 0 rfl) ?_
  refine lv_aload_n hx hb dX6_weigh_1 rfl (lv_at hl 0 rfl) ?_
  refine kd_getiv (x := nI n) hx hb htT m_u_X6 hown hK hP dk.o rfl 5 (by decide) (by decide) rfl (htT _ m_fl_X6_57) ((dk.f 5).trans ((show _ = fF 5 from rfl).trans oF5)) dX6_weigh_2 ?_
  refine kc_i (va_runV (As := [.int (nI n)]) (rest := []) ⟨hx, hb, hml, hown, htT⟩ (d_draw l D cA _ (PW cA S) b L xs hL T d x Ad n na fF fO fW fC fR fB dk (dr) hdr (by omega) (n) (by omega) (by omega)) (cwV 1 htT (kg_V m_ml_X6_60 m_im_X6_draw m_sl_X6_draw m_in_X6 m_cd_X6_draw) rfl rfl rfl (by decide +kernel) ⟨Nat.le_of_ble_eq_true rfl, Nat.le_of_ble_eq_true rfl⟩) (kpe_V hK hP hD hTB hTX hX hbl hbA hAO hS hA (kpe_rc hK hP dk.o rfl)) rfl rfl hl.1 rfl (lv_room (Nat.le_of_ble_eq_true rfl)) dX6_weigh_5 ⟨Nat.le_of_ble_eq_true rfl, Nat.le_of_ble_eq_true rfl⟩) hD hS hA (fun r_1 x_1 H locs hq_1 hP hD hS => ?_)
  obtain ⟨⟨k, hk, hr_1⟩, ht_1⟩ := hq_1
  rw [hr_1]
  rw [ht_1] at hP hD
  have dk_2 : DK (pI T d 2 (nI (dr + 1))) d x b Ad (n, na, (upd fF 2 (nI (dr + 1))), fO, fW, fC, fR, fB) := dk.num
  have q8_k : k < 8 := by omega
  obtain ⟨a_k, ja_k⟩ := gg.c.row k (by omega)
  have sw_k := gg.sw2 (by omega) ja_k
  obtain ⟨vc, hvc2, hvc4, evc⟩ := gg.vc hk
  have o1 : fO k 1 = nI vc := (hvm.o hk (q := (1, 5)) (by decide)).trans evc
  refine lv_istore_n (lv' := [(1, .int (nI k)), (0, .ref d)]) hx hb dX6_weigh_8 rfl hl (by decide) rfl (fun ls hl => ?_)
  refine lv_iconst (v := 1) hx hb dX6_weigh_9 (by decide) ?_
  refine lv_aload_n hx hb dX6_weigh_10 rfl (lv_at hl 1 rfl) ?_
  refine lv_aload_n hx hb dX6_weigh_11 rfl (lv_at hl 1 rfl) ?_
  refine kd_gets (r := (aO Ad)) hx hb htT m_u_X6 hown hK hP dk_2.o rfl 6 (by decide) (by decide) rfl dk_2.q6 (htT _ m_fl_X6_18) dX6_weigh_12 ?_
  refine lv_iload_n hx hb dX6_weigh_15 rfl (lv_at hl 0 rfl) ?_
  refine ky_alda (r := some (aOk Ad k)) hx hb hK hP dk_2.ao (show vp_in (nI (k)) 8 from ki_in (by omega) (by omega)) ((congrArg _ (ki_cl (n := k) (by omega))).trans (dk_2.op (k := k) (show k < n by omega))) dX6_weigh_16 ?_
  refine lv_iconst (v := 1) hx hb dX6_weigh_17 (by decide) ?_
  refine kx_ialdv (x := nI vc) hx hb hK (kmy_P hP) (dk_2.oa (k := k) (show k < n by omega)) (Nat.le_of_ble_eq_true rfl) (Nat.le_of_ble_eq_true rfl) (show vp_in 1 12 from ki_in (n := 1) (by omega) (by omega)) ((congrArg _ (ki_cl (n := 1) (by omega))).trans ((dk_2.ov (k := k) (j := 1) (show k < n by omega) (show 1 < 12 by omega)).trans (o1))) dX6_weigh_18 ?_
  refine lv_iconst (v := 1) hx hb dX6_weigh_19 (by decide) ?_
  refine lv_isub hx hb dX6_weigh_20 ?_
  rw [show ((nI vc) - 1 : Int32) = nI (vc - 1) from pk_sub (a := vc) (b := 1) (by omega)]
  refine kc_i (va_runV (As := [.int (nI (vc - 1))]) (rest := [.int 1]) ⟨hx, hb, hml, hown, htT⟩ (d_draw l D cA _ (PW cA S) b L xs hL (pI T d 2 (nI (dr + 1))) d x Ad n na (upd fF 2 (nI (dr + 1))) fO fW fC fR fB dk_2 (dr + 1) rfl (by omega) (vc - 1) (by omega) (by omega)) (cwV 1 htT (kg_V m_ml_X6_60 m_im_X6_draw m_sl_X6_draw m_in_X6 m_cd_X6_draw) rfl rfl rfl (by decide +kernel) ⟨Nat.le_of_ble_eq_true rfl, Nat.le_of_ble_eq_true rfl⟩) (kpe_V hK hP hD hTB hTX hX hbl hbA hAO hS hA (kpe_rc hK hP dk_2.o rfl)) rfl rfl hl.1 rfl (lv_room (Nat.le_of_ble_eq_true rfl)) dX6_weigh_21 ⟨Nat.le_of_ble_eq_true rfl, Nat.le_of_ble_eq_true rfl⟩) hD hS hA (fun r_3 x_3 H locs hq_3 hP hD hS => ?_)
  obtain ⟨⟨v0, hv0, hr_3⟩, ht_3⟩ := hq_3
  rw [hr_3]
  rw [ht_3] at hP hD
  have dk_4 : DK (pI (pI T d 2 (nI (dr + 1))) d 2 (nI (dr + 1 + 1))) d x b Ad (n, na, (upd (upd fF 2 (nI (dr + 1))) 2 (nI (dr + 1 + 1))), fO, fW, fC, fR, fB) := dk_2.num
  have hv4 : 1 + v0 < 4 := by omega
  obtain ⟨w0, hw0, cw0, e0⟩ := gg.l.wt hk ja_k (v := 0) (by decide)
  obtain ⟨w1, hw1, cw1, e1⟩ := gg.l.wt hk ja_k (v := 1 + v0) hv4
  have hsum := sum_le gg.l gg.r hk ja_k (v := 1 + v0) (by omega) hv4 (show M.2 6 (4 * k) = nI w0 from e0) e1 hw0 hw1
  have oW0 : fW k 0 = nI w0 := (hvm.w q8_k (v := 0) (by decide)).trans e0
  have oW1 : fW k (1 + v0) = nI w1 := (hvm.w q8_k (v := 1 + v0) hv4).trans e1
  refine lv_iadd hx hb dX6_weigh_24 ?_
  rw [show (1 + (nI v0) : Int32) = nI (1 + v0) from nI_add 1 v0]
  refine lv_istore_n (lv' := [(2, .int (nI (1 + v0))), (1, .int (nI k)), (0, .ref d)]) hx hb dX6_weigh_25 rfl hl (by decide) rfl (fun ls hl => ?_)
  refine lv_aload_n hx hb dX6_weigh_26 rfl (lv_at hl 2 rfl) ?_
  refine kd_gets (r := (aW Ad)) hx hb htT m_u_X6 hown hK hP dk_4.o rfl 7 (by decide) (by decide) rfl dk_4.q7 (htT _ m_fl_X6_23) dX6_weigh_27 ?_
  refine lv_iload_n hx hb dX6_weigh_30 rfl (lv_at hl 1 rfl) ?_
  refine ky_alda (r := some (aWk Ad k)) hx hb hK hP dk_4.aw (show vp_in (nI (k)) 8 from ki_in (by omega) (by omega)) ((congrArg _ (ki_cl (n := k) (by omega))).trans (dk_4.wp (k := k) (show k < 8 by omega))) dX6_weigh_31 ?_
  refine lv_iconst (v := 0) hx hb dX6_weigh_32 (by decide) ?_
  refine kx_ialdv (x := nI w0) hx hb hK (kmy_P hP) (dk_4.wa (k := k) (show k < 8 by omega)) (Nat.le_of_ble_eq_true rfl) (Nat.le_of_ble_eq_true rfl) (show vp_in 0 4 from ki_in (n := 0) (by omega) (by omega)) ((congrArg _ (ki_cl (n := 0) (by omega))).trans ((dk_4.wv (k := k) (j := 0) (show k < 8 by omega) (show 0 < 4 by omega)).trans (oW0))) dX6_weigh_33 ?_
  refine lv_aload_n hx hb dX6_weigh_34 rfl (lv_at hl 2 rfl) ?_
  refine kd_gets (r := (aW Ad)) hx hb htT m_u_X6 hown hK hP dk_4.o rfl 7 (by decide) (by decide) rfl dk_4.q7 (htT _ m_fl_X6_23) dX6_weigh_35 ?_
  refine lv_iload_n hx hb dX6_weigh_38 rfl (lv_at hl 1 rfl) ?_
  refine ky_alda (r := some (aWk Ad k)) hx hb hK hP dk_4.aw (show vp_in (nI (k)) 8 from ki_in (by omega) (by omega)) ((congrArg _ (ki_cl (n := k) (by omega))).trans (dk_4.wp (k := k) (show k < 8 by omega))) dX6_weigh_39 ?_
  refine lv_iload_n hx hb dX6_weigh_40 rfl (lv_at hl 0 rfl) ?_
  refine kx_ialdv (x := nI w1) hx hb hK (kmy_P hP) (dk_4.wa (k := k) (show k < 8 by omega)) (Nat.le_of_ble_eq_true rfl) (Nat.le_of_ble_eq_true rfl) (show vp_in (nI (1 + v0)) 4 from ki_in (n := 1 + v0) (by omega) (by omega)) ((congrArg _ (ki_cl (n := 1 + v0) (by omega))).trans ((dk_4.wv (k := k) (j := 1 + v0) (show k < 8 by omega) (show 1 + v0 < 4 by omega)).trans (oW1))) dX6_weigh_41 ?_
  refine lv_iadd hx hb dX6_weigh_42 ?_
  rw [show ((nI w0) + (nI w1) : Int32) = nI (w0 + w1) from nI_add w0 w1]
  refine lv_istore_n (lv' := [(3, .int (nI (w0 + w1))), (2, .int (nI (1 + v0))), (1, .int (nI k)), (0, .ref d)]) hx hb dX6_weigh_43 rfl hl (by decide) rfl (fun ls hl => ?_)
  refine lv_aload_n hx hb dX6_weigh_44 rfl (lv_at hl 3 rfl) ?_
  refine kd_gets (r := (aW Ad)) hx hb htT m_u_X6 hown hK hP dk_4.o rfl 7 (by decide) (by decide) rfl dk_4.q7 (htT _ m_fl_X6_23) dX6_weigh_45 ?_
  refine lv_iload_n hx hb dX6_weigh_48 rfl (lv_at hl 2 rfl) ?_
  refine ky_alda (r := some (aWk Ad k)) hx hb hK hP dk_4.aw (show vp_in (nI (k)) 8 from ki_in (by omega) (by omega)) ((congrArg _ (ki_cl (n := k) (by omega))).trans (dk_4.wp (k := k) (show k < 8 by omega))) dX6_weigh_49 ?_
  refine lv_iload_n hx hb dX6_weigh_50 rfl (lv_at hl 1 rfl) ?_
  refine lv_aload_n hx hb dX6_weigh_51 rfl (lv_at hl 3 rfl) ?_
  refine lv_iload_n hx hb dX6_weigh_52 rfl (lv_at hl 0 rfl) ?_
  refine lv_iconst (v := 1) hx hb dX6_weigh_53 (by decide) ?_
  refine lv_iadd hx hb dX6_weigh_54 ?_
  rw [show ((nI (w0 + w1)) + 1 : Int32) = nI ((w0 + w1) + 1) from nI_add (w0 + w1) 1]
  refine kc_i (va_runV (As := [.int (nI ((w0 + w1) + 1))]) (rest := [.int (nI (1 + v0)), .ref (aWk Ad k)]) ⟨hx, hb, hml, hown, htT⟩ (d_draw l D cA _ (PW cA S) b L xs hL (pI (pI T d 2 (nI (dr + 1))) d 2 (nI (dr + 1 + 1))) d x Ad n na (upd (upd fF 2 (nI (dr + 1))) 2 (nI (dr + 1 + 1))) fO fW fC fR fB dk_4 (dr + 1 + 1) rfl (by omega) ((w0 + w1) + 1) (by omega) (by omega)) (cwV 1 htT (kg_V m_ml_X6_60 m_im_X6_draw m_sl_X6_draw m_in_X6 m_cd_X6_draw) rfl rfl rfl (by decide +kernel) ⟨Nat.le_of_ble_eq_true rfl, Nat.le_of_ble_eq_true rfl⟩) (kpe_V hK hP hD hTB hTX hX hbl hbA hAO hS hA (kpe_rc hK hP dk_4.o rfl)) rfl rfl hl.1 rfl (lv_room (Nat.le_of_ble_eq_true rfl)) dX6_weigh_55 ⟨Nat.le_of_ble_eq_true rfl, Nat.le_of_ble_eq_true rfl⟩) hD hS hA (fun r_5 x_5 H locs hq_5 hP hD hS => ?_)
  obtain ⟨⟨pz, hpz, hr_5⟩, ht_5⟩ := hq_5
  rw [hr_5]
  rw [ht_5] at hP hD
  have dk_6 : DK (pI (pI (pI T d 2 (nI (dr + 1))) d 2 (nI (dr + 1 + 1))) d 2 (nI (dr + 1 + 1 + 1))) d x b Ad (n, na, (upd (upd (upd fF 2 (nI (dr + 1))) 2 (nI (dr + 1 + 1))) 2 (nI (dr + 1 + 1 + 1))), fO, fW, fC, fR, fB) := dk_4.num
  refine ky_iastv hx hb hK hP hD hS (dk_6.wa (k := k) (show k < 8 by omega)) (Nat.le_of_ble_eq_true rfl) (Nat.le_of_ble_eq_true rfl) (show vp_in (nI (1 + v0)) 4 from ki_in (n := 1 + v0) (by omega) (by omega)) (ki_cl (n := 1 + v0) (by omega)) dX6_weigh_58 (fun H locs hP hD hS => ?_)
  have dk_7 : DK (pR (pI (pI (pI T d 2 (nI (dr + 1))) d 2 (nI (dr + 1 + 1))) d 2 (nI (dr + 1 + 1 + 1))) (aWk Ad k) (1 + v0) (nI pz)) d x b Ad (n, na, (upd (upd (upd fF 2 (nI (dr + 1))) 2 (nI (dr + 1 + 1))) 2 (nI (dr + 1 + 1 + 1))), fO, (u2 fW k (1 + v0) (nI pz)), fC, fR, fB) := dk_6.wt (show k < 8 by omega)
  refine lv_aload_n hx hb dX6_weigh_59 rfl (lv_at hl 3 rfl) ?_
  refine kd_gets (r := (aW Ad)) hx hb htT m_u_X6 hown hK hP dk_7.o rfl 7 (by decide) (by decide) rfl dk_7.q7 (htT _ m_fl_X6_23) dX6_weigh_60 ?_
  refine lv_iload_n hx hb dX6_weigh_63 rfl (lv_at hl 2 rfl) ?_
  refine ky_alda (r := some (aWk Ad k)) hx hb hK hP dk_7.aw (show vp_in (nI (k)) 8 from ki_in (by omega) (by omega)) ((congrArg _ (ki_cl (n := k) (by omega))).trans (dk_7.wp (k := k) (show k < 8 by omega))) dX6_weigh_64 ?_
  refine lv_iconst (v := 0) hx hb dX6_weigh_65 (by decide) ?_
  refine lv_iload_n hx hb dX6_weigh_66 rfl (lv_at hl 0 rfl) ?_
  refine lv_aload_n hx hb dX6_weigh_67 rfl (lv_at hl 3 rfl) ?_
  refine kd_gets (r := (aW Ad)) hx hb htT m_u_X6 hown hK hP dk_7.o rfl 7 (by decide) (by decide) rfl dk_7.q7 (htT _ m_fl_X6_23) dX6_weigh_68 ?_
  refine lv_iload_n hx hb dX6_weigh_71 rfl (lv_at hl 2 rfl) ?_
  refine ky_alda (r := some (aWk Ad k)) hx hb hK hP dk_7.aw (show vp_in (nI (k)) 8 from ki_in (by omega) (by omega)) ((congrArg _ (ki_cl (n := k) (by omega))).trans (dk_7.wp (k := k) (show k < 8 by omega))) dX6_weigh_72 ?_
  refine lv_iload_n hx hb dX6_weigh_73 rfl (lv_at hl 1 rfl) ?_
  refine kx_ialdv (x := nI pz) hx hb hK (kmy_P hP) (dk_7.wa (k := k) (show k < 8 by omega)) (Nat.le_of_ble_eq_true rfl) (Nat.le_of_ble_eq_true rfl) (show vp_in (nI (1 + v0)) 4 from ki_in (n := 1 + v0) (by omega) (by omega)) ((congrArg _ (ki_cl (n := 1 + v0) (by omega))).trans ((dk_7.wv (k := k) (j := 1 + v0) (show k < 8 by omega) (show 1 + v0 < 4 by omega)).trans (u2_s))) dX6_weigh_74 ?_
  refine lv_isub hx hb dX6_weigh_75 ?_
  rw [show ((nI (w0 + w1)) - (nI pz) : Int32) = nI ((w0 + w1) - pz) from pk_sub (a := w0 + w1) (b := pz) (by omega)]
  refine ky_iastv hx hb hK hP hD hS (dk_7.wa (k := k) (show k < 8 by omega)) (Nat.le_of_ble_eq_true rfl) (Nat.le_of_ble_eq_true rfl) (show vp_in 0 4 from ki_in (n := 0) (by omega) (by omega)) (ki_cl (n := 0) (by omega)) dX6_weigh_76 (fun H locs hP hD hS => ?_)
  have dk_8 : DK (pR (pR (pI (pI (pI T d 2 (nI (dr + 1))) d 2 (nI (dr + 1 + 1))) d 2 (nI (dr + 1 + 1 + 1))) (aWk Ad k) (1 + v0) (nI pz)) (aWk Ad k) 0 (nI ((w0 + w1) - pz))) d x b Ad (n, na, (upd (upd (upd fF 2 (nI (dr + 1))) 2 (nI (dr + 1 + 1))) 2 (nI (dr + 1 + 1 + 1))), fO, (u2 (u2 fW k (1 + v0) (nI pz)) k 0 (nI ((w0 + w1) - pz))), fC, fR, fB) := dk_7.wt (show k < 8 by omega)
  refine lv_aload_n hx hb dX6_weigh_77 rfl (lv_at hl 3 rfl) ?_
  refine kd_gets (r := x) hx hb htT m_u_X6 hown hK hP dk_8.o rfl 0 (by decide) (by decide) rfl dk_8.q0 (htT _ m_fl_X6_10) dX6_weigh_78 ?_
  refine lv_iload_n hx hb dX6_weigh_81 rfl (lv_at hl 2 rfl) ?_
  refine lv_iload_n hx hb dX6_weigh_82 rfl (lv_at hl 1 rfl) ?_
  refine lv_aload_n hx hb dX6_weigh_83 rfl (lv_at hl 3 rfl) ?_
  refine kd_gets (r := (aW Ad)) hx hb htT m_u_X6 hown hK hP dk_8.o rfl 7 (by decide) (by decide) rfl dk_8.q7 (htT _ m_fl_X6_23) dX6_weigh_84 ?_
  refine lv_iload_n hx hb dX6_weigh_87 rfl (lv_at hl 2 rfl) ?_
  refine ky_alda (r := some (aWk Ad k)) hx hb hK hP dk_8.aw (show vp_in (nI (k)) 8 from ki_in (by omega) (by omega)) ((congrArg _ (ki_cl (n := k) (by omega))).trans (dk_8.wp (k := k) (show k < 8 by omega))) dX6_weigh_88 ?_
  refine lv_iload_n hx hb dX6_weigh_89 rfl (lv_at hl 1 rfl) ?_
  refine kx_ialdv (x := nI pz) hx hb hK (kmy_P hP) (dk_8.wa (k := k) (show k < 8 by omega)) (Nat.le_of_ble_eq_true rfl) (Nat.le_of_ble_eq_true rfl) (show vp_in (nI (1 + v0)) 4 from ki_in (n := 1 + v0) (by omega) (by omega)) ((congrArg _ (ki_cl (n := 1 + v0) (by omega))).trans ((dk_8.wv (k := k) (j := 1 + v0) (show k < 8 by omega) (show 1 + v0 < 4 by omega)).trans ((u2_ne (fun z => by omega)).trans (u2_s)))) dX6_weigh_90 ?_
  have hcw : cWt S (wtA S a_k) 0 + cWt S (wtA S a_k) (nI (1 + v0)) - nI pz = nI (w0 + w1 - pz) := by rw [show cWt S (wtA S a_k) 0 = nI w0 from cw0, cw1, nI_add]; exact pk_sub (by omega)
  refine kn_i (va_runV (As := [.int (nI k), .int (nI (1 + v0)), .int (nI pz)]) (rest := []) ⟨hx, hb, hml, hown, htT⟩ (c_weigh l D cA _ S x gg.c.hx ar gg.c.q0 ak gg.c.q1 gg.c.kk gg.c.R k q8_k a_k ja_k (nI k) sw_k (1 + v0) hv4 (gg.vko hk ja_k evc (by omega) hvc4) (by omega) (nI pz) (kOut_n (a := pz) (lo := 0) (hi := 1000) (by omega) (by omega) (by omega)) (by rw [hcw]; exact fun h9 => absurd ((nI_ltI (a := w0 + w1 - pz) (b := 0) (by omega) (by omega)).mp h9) (by omega))) (cwV 3 htT (kg_V m_ml_X6_71 m_im_X5_weigh m_sl_X5_weigh m_in_X5 m_cd_X5_weigh) rfl rfl rfl (by decide +kernel) ⟨Nat.le_of_ble_eq_true rfl, Nat.le_of_ble_eq_true rfl⟩) (kn_V hK hP hD hTB gg.c.hx (Nat.le_of_ble_eq_true rfl) rfl) rfl rfl hl.1 rfl (lv_room (Nat.le_of_ble_eq_true rfl)) dX6_weigh_91 ⟨Nat.le_of_ble_eq_true rfl, Nat.le_of_ble_eq_true rfl⟩) hP hD hS hA (fun r_9 x_9 H locs hq_9 hP hD hS => ?_)
  rw [hq_9.1.trans hcw]
  have gg2 : GG n na x_9 (mR (mR M 6 (4 * k) (nI (w0 + w1 - pz))) 6 (4 * k + (1 + v0)) (nI pz)) x ar ak := by rw [hq_9.2, hcw]; exact gg.weigh hk ja_k (by omega) hv4 (by rw [evc]; exact kOut_sw (n := vc) (by omega) (by omega) rfl) e0 e1 hsum (by omega)
  refine lv_aload_n hx hb dX6_weigh_94 rfl (lv_at hl 3 rfl) ?_
  refine kd_gets (r := (aW Ad)) hx hb htT m_u_X6 hown hK hP dk_8.o rfl 7 (by decide) (by decide) rfl dk_8.q7 (htT _ m_fl_X6_23) dX6_weigh_95 ?_
  refine lv_iload_n hx hb dX6_weigh_98 rfl (lv_at hl 2 rfl) ?_
  refine ky_alda (r := some (aWk Ad k)) hx hb hK hP dk_8.aw (show vp_in (nI (k)) 8 from ki_in (by omega) (by omega)) ((congrArg _ (ki_cl (n := k) (by omega))).trans (dk_8.wp (k := k) (show k < 8 by omega))) dX6_weigh_99 ?_
  refine lv_iconst (v := 0) hx hb dX6_weigh_100 (by decide) ?_
  refine kx_ialdv (x := nI ((w0 + w1) - pz)) hx hb hK (kmy_P hP) (dk_8.wa (k := k) (show k < 8 by omega)) (Nat.le_of_ble_eq_true rfl) (Nat.le_of_ble_eq_true rfl) (show vp_in 0 4 from ki_in (n := 0) (by omega) (by omega)) ((congrArg _ (ki_cl (n := 0) (by omega))).trans ((dk_8.wv (k := k) (j := 0) (show k < 8 by omega) (show 0 < 4 by omega)).trans (u2_s))) dX6_weigh_101 ?_
  refine lv_icmp_ne (tgt := 109) hx hb dX6_weigh_102 (by decide) (fun c_10 => ?_) (fun c_10 => ?_)
  · exact absurd rfl c_10
  · refine lv_iconst (v := 1) hx hb dX6_weigh_105 (by decide) ?_
    refine lv_goto (tgt := 110) hx hb dX6_weigh_106 (by decide) ?_
    exact W.zret (v := 1) hx hb hr (rfl) (fun t ht hW => ⟨⟨1, (pR (pR (pI (pI (pI T d 2 (nI (dr + 1))) d 2 (nI (dr + 1 + 1))) d 2 (nI (dr + 1 + 1 + 1))) (aWk Ad k) (1 + v0) (nI pz)) (aWk Ad k) 0 (nI ((w0 + w1) - pz)), x_9), rfl, ⟨rfl, n, na, dr + 1 + 1 + 1, cM, sB, _, _, _, _, _, _, _, (mR (mR M 6 (4 * k) (nI (w0 + w1 - pz))) 6 (4 * k + (1 + v0)) (nI pz)), by omega, by omega, by omega, by omega, dk_8, ((((hvm.draw (d2 := dr + 1)).draw (d2 := dr + 1 + 1)).draw (d2 := dr + 1 + 1 + 1)).weigh (k := k) q8_k (v := 1 + v0) hv4 (by omega) (p := nI pz) (w := nI (w0 + w1 - pz))), gg2, hM.weigh⟩, by rw [ht]; exact hP, va_K.moved hW.alike hK, hD⟩, hS.F ht⟩) hS.2.2 dX6_weigh_110

set_option maxRecDepth 100000 in
set_option maxHeartbeats 4000000 in
/-- d_need -/
theorem d_need (l : Launch) (D : va_G) (cA : Nat → ClassId) (sz : Nat) (b L : Nat) (xs : Nat → Int32) (hL : L < 2 ^ 31) (T S : Pool) (d x ar ak D0 c0 s0 n0 : Nat) (hD0 : D0 < 1000000) (hc0 : c0 < 100000) (hs0 : s0 < 1000000) (hJ : J38 d x b ar ak D0 c0 s0 n0 T S) (hn0 : 1 ≤ n0)  : Met l yX6_need (Cond.code yX6_need cX6_need 4 (some .boolean) :: TT) ({ frames := 3, cells := 0, slots := 0, locals := 68 }) (va_Pc [.ref d] (kPreE D cA (PW cA T ++ PW cA S) b L xs sz)) (va_Qi (fun (r_ : Int32) (x_ : Pool × Pool) => r_ = 1 ∧ J38 d x b ar ak (D0 + 8) (c0) (s0) (n0) x_.1 x_.2) (fun x_ => kB D cA (va_A (PW cA T ++ PW cA S) sz) (PW cA x_.1 ++ PW cA x_.2)) (va_A (PW cA T ++ PW cA S) sz)) 0 0 (va_A (PW cA T ++ PW cA S) sz) := by
  refine Met.ofW (cc := cX6_need) (maxL := 4) (ret := (some .boolean)) (by decide) rfl ?_
  intro p e s m args below meth c s₁ B hml hv
  obtain ⟨rfl, ⟨⟨hsz, hP, hK, hD0, hTB⟩, hTX⟩, hX, hbl, hbA, hAO⟩ := hv
  have hx := B.exec
  have hb := B.bytes
  have hr := B.returns
  have hts := atoms_spec (ws := Cond.code yX6_need cX6_need 4 (some .boolean) :: TT) B.pre
  have htT : ∀ w ∈ TT, w.before _ s = true := fun w h => hts w (List.mem_cons_of_mem _ h)
  have hown : s.vm.findClass RX6 = some m.cls := findClass_of_methodNamed B.named
  have hlocks := B.notSynchronized
  subst hsz
  have hD := hD0.self (sz := s.heap.size)
  generalize hAe : va_A (PW cA T ++ PW cA S) s.heap.size = A at hD hTX hbA ⊢
  have hA : ∀ q : Nat, s.heap.size ≤ q → A q := fun q h => by rw [← hAe]; exact Or.inr h
  have hS : va_S A s.heap s.heap [] := va_S.rf
  have hl := lv_entry ([.ref d]) (n := 4) (Nat.le_of_ble_eq_true rfl)
  rw [lg_entry_eq]
  generalize (lg_sl ([.ref d]) ++ List.replicate (4 - (lg_sl ([.ref d])).length) Slot.unset).toArray = ls at hl ⊢
  have hl : lv_has ls 4 [(0, .ref d)] := hl
  obtain ⟨n, na, dr, cM, sB, Ad, fF, fO, fW, fC, fR, fB, M, hn9, hdr9, hcM9, hsB9, dk, hvm, gg, hM⟩ := hJ
  have hn8 : n ≤ 8 := dk.n8
  have hna : na ≤ 100 := gg.r.na
  have hdr : fF 2 = nI dr := hvm.f2
  have oF5 : fF 5 = nI n := hvm.f5
  have oF3 : fF 3 = nI cM := hvm.f3.trans hM.1.1
  refine lv_aload_n hx hb dX6_need_0 rfl (lv_at hl 0 rfl) ?_
  refine lv_aload_n hx hb dX6_need_1 rfl (lv_at hl 0 rfl) ?_
  refine kd_getiv (x := nI n) hx hb htT m_u_X6 hown hK hP dk.o rfl 5 (by decide) (by decide) rfl (htT _ m_fl_X6_57) ((dk.f 5).trans ((show _ = fF 5 from rfl).trans oF5)) dX6_need_2 ?_
  refine kc_i (va_runV (As := [.int (nI n)]) (rest := []) ⟨hx, hb, hml, hown, htT⟩ (d_draw l D cA _ (PW cA S) b L xs hL T d x Ad n na fF fO fW fC fR fB dk (dr) hdr (by omega) (n) (by omega) (by omega)) (cwV 1 htT (kg_V m_ml_X6_60 m_im_X6_draw m_sl_X6_draw m_in_X6 m_cd_X6_draw) rfl rfl rfl (by decide +kernel) ⟨Nat.le_of_ble_eq_true rfl, Nat.le_of_ble_eq_true rfl⟩) (kpe_V hK hP hD hTB hTX hX hbl hbA hAO hS hA (kpe_rc hK hP dk.o rfl)) rfl rfl hl.1 rfl (lv_room (Nat.le_of_ble_eq_true rfl)) dX6_need_5 ⟨Nat.le_of_ble_eq_true rfl, Nat.le_of_ble_eq_true rfl⟩) hD hS hA (fun r_1 x_1 H locs hq_1 hP hD hS => ?_)
  obtain ⟨⟨k, hk, hr_1⟩, ht_1⟩ := hq_1
  rw [hr_1]
  rw [ht_1] at hP hD
  have dk_2 : DK (pI T d 2 (nI (dr + 1))) d x b Ad (n, na, (upd fF 2 (nI (dr + 1))), fO, fW, fC, fR, fB) := dk.num
  have q8_k : k < 8 := by omega
  obtain ⟨a_k, ja_k⟩ := gg.c.row k (by omega)
  have sw_k := gg.sw2 (by omega) ja_k
  refine lv_istore_n (lv' := [(1, .int (nI k)), (0, .ref d)]) hx hb dX6_need_8 rfl hl (by decide) rfl (fun ls hl => ?_)
  refine lv_iload_n hx hb dX6_need_9 rfl (lv_at hl 0 rfl) ?_
  refine lv_if_eq (tgt := 21) hx hb dX6_need_10 (by decide) (fun c_3 => ?_) (fun c_3 => ?_)
  · replace c_3 := (nI_eq (a := k) (b := 0) (by omega) (by omega)).mp c_3
    refine lv_iconst (v := (-1)) hx hb dX6_need_21 (by decide) ?_
    refine lv_goto (tgt := 30) hx hb dX6_need_22 (by decide) ?_
    refine lv_istore_n (lv' := [(2, .int (-1)), (1, .int (nI k)), (0, .ref d)]) hx hb dX6_need_30 rfl hl (by decide) rfl (fun ls hl => ?_)
    refine lv_aload_n hx hb dX6_need_31 rfl (lv_at hl 2 rfl) ?_
    refine kd_gets (r := (aO Ad)) hx hb htT m_u_X6 hown hK hP dk_2.o rfl 6 (by decide) (by decide) rfl dk_2.q6 (htT _ m_fl_X6_18) dX6_need_32 ?_
    refine lv_iload_n hx hb dX6_need_35 rfl (lv_at hl 1 rfl) ?_
    refine ky_alda (r := some (aOk Ad k)) hx hb hK hP dk_2.ao (show vp_in (nI (k)) 8 from ki_in (by omega) (by omega)) ((congrArg _ (ki_cl (n := k) (by omega))).trans (dk_2.op (k := k) (show k < n by omega))) dX6_need_36 ?_
    refine lv_bipush (v := 10) hx hb dX6_need_37 (by decide) ?_
    refine kx_ialdv (x := M.2 15 k) hx hb hK (kmy_P hP) (dk_2.oa (k := k) (show k < n by omega)) (Nat.le_of_ble_eq_true rfl) (Nat.le_of_ble_eq_true rfl) (show vp_in 10 12 from ki_in (n := 10) (by omega) (by omega)) ((congrArg _ (ki_cl (n := 10) (by omega))).trans ((dk_2.ov (k := k) (j := 10) (show k < n by omega) (show 10 < 12 by omega)).trans ((hvm.o hk (q := (10, 15)) (by decide))))) dX6_need_39 ?_
    refine lv_istore_n (lv' := [(3, .int (M.2 15 k)), (2, .int (-1)), (1, .int (nI k)), (0, .ref d)]) hx hb dX6_need_40 rfl hl (by decide) rfl (fun ls hl => ?_)
    refine lv_aload_n hx hb dX6_need_41 rfl (lv_at hl 3 rfl) ?_
    refine kd_gets (r := (aO Ad)) hx hb htT m_u_X6 hown hK hP dk_2.o rfl 6 (by decide) (by decide) rfl dk_2.q6 (htT _ m_fl_X6_18) dX6_need_42 ?_
    refine lv_iload_n hx hb dX6_need_45 rfl (lv_at hl 2 rfl) ?_
    refine ky_alda (r := some (aOk Ad k)) hx hb hK hP dk_2.ao (show vp_in (nI (k)) 8 from ki_in (by omega) (by omega)) ((congrArg _ (ki_cl (n := k) (by omega))).trans (dk_2.op (k := k) (show k < n by omega))) dX6_need_46 ?_
    refine lv_bipush (v := 10) hx hb dX6_need_47 (by decide) ?_
    refine lv_iload_n hx hb dX6_need_49 rfl (lv_at hl 1 rfl) ?_
    refine ky_iastv hx hb hK hP hD hS (dk_2.oa (k := k) (show k < n by omega)) (Nat.le_of_ble_eq_true rfl) (Nat.le_of_ble_eq_true rfl) (show vp_in 10 12 from ki_in (n := 10) (by omega) (by omega)) (ki_cl (n := 10) (by omega)) dX6_need_50 (fun H locs hP hD hS => ?_)
    have dk_4 : DK (pR (pI T d 2 (nI (dr + 1))) (aOk Ad k) 10 (-1)) d x b Ad (n, na, (upd fF 2 (nI (dr + 1))), (u2 fO k 10 (-1)), fW, fC, fR, fB) := dk_2.one (show k < n by omega)
    refine lv_aload_n hx hb dX6_need_51 rfl (lv_at hl 3 rfl) ?_
    refine kd_gets (r := (aO Ad)) hx hb htT m_u_X6 hown hK hP dk_4.o rfl 6 (by decide) (by decide) rfl dk_4.q6 (htT _ m_fl_X6_18) dX6_need_52 ?_
    refine lv_iload_n hx hb dX6_need_55 rfl (lv_at hl 2 rfl) ?_
    refine ky_alda (r := some (aOk Ad k)) hx hb hK hP dk_4.ao (show vp_in (nI (k)) 8 from ki_in (by omega) (by omega)) ((congrArg _ (ki_cl (n := k) (by omega))).trans (dk_4.op (k := k) (show k < n by omega))) dX6_need_56 ?_
    refine lv_bipush (v := 11) hx hb dX6_need_57 (by decide) ?_
    refine lv_iload_n hx hb dX6_need_59 rfl (lv_at hl 1 rfl) ?_
    refine lv_if_ge (tgt := 67) hx hb dX6_need_60 (by decide) (fun c_5 => absurd c_5 (by decide)) (fun _ => ?_)
    refine lv_iconst (v := 0) hx hb dX6_need_63 (by decide) ?_
    refine lv_goto (tgt := 79) hx hb dX6_need_64 (by decide) ?_
    refine ky_iastv hx hb hK hP hD hS (dk_4.oa (k := k) (show k < n by omega)) (Nat.le_of_ble_eq_true rfl) (Nat.le_of_ble_eq_true rfl) (show vp_in 11 12 from ki_in (n := 11) (by omega) (by omega)) (ki_cl (n := 11) (by omega)) dX6_need_79 (fun H locs hP hD hS => ?_)
    have dk_6 : DK (pR (pR (pI T d 2 (nI (dr + 1))) (aOk Ad k) 10 (-1)) (aOk Ad k) 11 0) d x b Ad (n, na, (upd fF 2 (nI (dr + 1))), (u2 (u2 fO k 10 (-1)) k 11 0), fW, fC, fR, fB) := dk_4.one (show k < n by omega)
    refine lv_aload_n hx hb dX6_need_80 rfl (lv_at hl 3 rfl) ?_
    refine kd_gets (r := x) hx hb htT m_u_X6 hown hK hP dk_6.o rfl 0 (by decide) (by decide) rfl dk_6.q0 (htT _ m_fl_X6_10) dX6_need_81 ?_
    refine lv_iload_n hx hb dX6_need_84 rfl (lv_at hl 2 rfl) ?_
    refine lv_iload_n hx hb dX6_need_85 rfl (lv_at hl 1 rfl) ?_
    refine lv_aload_n hx hb dX6_need_86 rfl (lv_at hl 3 rfl) ?_
    refine kd_gets (r := (aO Ad)) hx hb htT m_u_X6 hown hK hP dk_6.o rfl 6 (by decide) (by decide) rfl dk_6.q6 (htT _ m_fl_X6_18) dX6_need_87 ?_
    refine lv_iload_n hx hb dX6_need_90 rfl (lv_at hl 2 rfl) ?_
    refine ky_alda (r := some (aOk Ad k)) hx hb hK hP dk_6.ao (show vp_in (nI (k)) 8 from ki_in (by omega) (by omega)) ((congrArg _ (ki_cl (n := k) (by omega))).trans (dk_6.op (k := k) (show k < n by omega))) dX6_need_91 ?_
    refine lv_bipush (v := 11) hx hb dX6_need_92 (by decide) ?_
    refine kx_ialdv (x := 0) hx hb hK (kmy_P hP) (dk_6.oa (k := k) (show k < n by omega)) (Nat.le_of_ble_eq_true rfl) (Nat.le_of_ble_eq_true rfl) (show vp_in 11 12 from ki_in (n := 11) (by omega) (by omega)) ((congrArg _ (ki_cl (n := 11) (by omega))).trans ((dk_6.ov (k := k) (j := 11) (show k < n by omega) (show 11 < 12 by omega)).trans (u2_s))) dX6_need_94 ?_
    refine kn_i (va_runV (As := [.int (nI k), .int (-1), .int 0]) (rest := []) ⟨hx, hb, hml, hown, htT⟩ (c_need_n l D cA _ S x gg.c.hx ar gg.c.q0 ak gg.c.q1 gg.c.kk gg.c.R k q8_k a_k ja_k (nI k) sw_k 0) (cwV 3 htT (kg_V m_ml_X6_96 m_im_X5_need m_sl_X5_need m_in_X5 m_cd_X5_need) rfl rfl rfl (by decide +kernel) ⟨Nat.le_of_ble_eq_true rfl, Nat.le_of_ble_eq_true rfl⟩) (kn_V hK hP hD hTB gg.c.hx (Nat.le_of_ble_eq_true rfl) rfl) rfl rfl hl.1 rfl (lv_room (Nat.le_of_ble_eq_true rfl)) dX6_need_95 ⟨Nat.le_of_ble_eq_true rfl, Nat.le_of_ble_eq_true rfl⟩) hP hD hS hA (fun r_7 x_7 H locs hq_7 hP hD hS => ?_)
    rw [hq_7.1.trans (gg.l.rn hk ja_k (q := (16, 15)) (by decide))]
    have gg2 : GG n na x_7 (mR (mR M 15 k (-1)) 16 k 0) x ar ak := by rw [hq_7.2]; exact gg.need hk ja_k (Or.inl rfl)
    refine lv_iload_n hx hb dX6_need_98 rfl (lv_at hl 0 rfl) ?_
    refine lv_icmp_ne (tgt := 106) hx hb dX6_need_99 (by decide) (fun c_8 => ?_) (fun c_8 => ?_)
    · exact absurd rfl c_8
    · refine lv_iconst (v := 1) hx hb dX6_need_102 (by decide) ?_
      refine lv_goto (tgt := 107) hx hb dX6_need_103 (by decide) ?_
      exact W.zret (v := 1) hx hb hr (rfl) (fun t ht hW => ⟨⟨1, (pR (pR (pI T d 2 (nI (dr + 1))) (aOk Ad k) 10 (-1)) (aOk Ad k) 11 0, x_7), rfl, ⟨rfl, n, na, dr + 1, cM, sB, _, _, _, _, _, _, _, (mR (mR M 15 k (-1)) 16 k 0), by omega, by omega, by omega, by omega, dk_6, (((hvm.draw (d2 := dr + 1)).one (k := k) (q := (10, 15)) (by decide) (by decide) (v := (-1))).one (k := k) (q := (11, 16)) (by decide) (by decide) (v := 0)), gg2, hM.need⟩, by rw [ht]; exact hP, va_K.moved hW.alike hK, hD⟩, hS.F ht⟩) hS.2.2 dX6_need_107
  · replace c_3 : ¬ (k = 0) := fun h9 => c_3 ((nI_eq (a := k) (b := 0) (by omega) (by omega)).mpr h9)
    refine lv_aload_n hx hb dX6_need_13 rfl (lv_at hl 1 rfl) ?_
    refine lv_iconst (v := 4) hx hb dX6_need_14 (by decide) ?_
    refine kc_i (va_runV (As := [.int 4]) (rest := []) ⟨hx, hb, hml, hown, htT⟩ (d_draw l D cA _ (PW cA S) b L xs hL (pI T d 2 (nI (dr + 1))) d x Ad n na (upd fF 2 (nI (dr + 1))) fO fW fC fR fB dk_2 (dr + 1) rfl (by omega) (4) (by omega) (by omega)) (cwV 1 htT (kg_V m_ml_X6_60 m_im_X6_draw m_sl_X6_draw m_in_X6 m_cd_X6_draw) rfl rfl rfl (by decide +kernel) ⟨Nat.le_of_ble_eq_true rfl, Nat.le_of_ble_eq_true rfl⟩) (kpe_V hK hP hD hTB hTX hX hbl hbA hAO hS hA (kpe_rc hK hP dk_2.o rfl)) rfl rfl hl.1 rfl (lv_room (Nat.le_of_ble_eq_true rfl)) dX6_need_15 ⟨Nat.le_of_ble_eq_true rfl, Nat.le_of_ble_eq_true rfl⟩) hD hS hA (fun r_9 x_9 H locs hq_9 hP hD hS => ?_)
    obtain ⟨⟨w4, hw4, hr_9⟩, ht_9⟩ := hq_9
    rw [hr_9]
    rw [ht_9] at hP hD
    have dk_10 : DK (pI (pI T d 2 (nI (dr + 1))) d 2 (nI (dr + 1 + 1))) d x b Ad (n, na, (upd (upd fF 2 (nI (dr + 1))) 2 (nI (dr + 1 + 1))), fO, fW, fC, fR, fB) := dk_2.num
    refine lv_if_ne (tgt := 25) hx hb dX6_need_18 (by decide) (fun c_11 => ?_) (fun c_11 => ?_)
    · replace c_11 : ¬ (w4 = 0) := fun h9 => c_11 ((nI_eq (a := w4) (b := 0) (by omega) (by omega)).mpr h9)
      refine lv_aload_n hx hb dX6_need_25 rfl (lv_at hl 1 rfl) ?_
      refine lv_iload_n hx hb dX6_need_26 rfl (lv_at hl 0 rfl) ?_
      refine kc_i (va_runV (As := [.int (nI k)]) (rest := []) ⟨hx, hb, hml, hown, htT⟩ (d_draw l D cA _ (PW cA S) b L xs hL (pI (pI T d 2 (nI (dr + 1))) d 2 (nI (dr + 1 + 1))) d x Ad n na (upd (upd fF 2 (nI (dr + 1))) 2 (nI (dr + 1 + 1))) fO fW fC fR fB dk_10 (dr + 1 + 1) rfl (by omega) (k) (by omega) (by omega)) (cwV 1 htT (kg_V m_ml_X6_60 m_im_X6_draw m_sl_X6_draw m_in_X6 m_cd_X6_draw) rfl rfl rfl (by decide +kernel) ⟨Nat.le_of_ble_eq_true rfl, Nat.le_of_ble_eq_true rfl⟩) (kpe_V hK hP hD hTB hTX hX hbl hbA hAO hS hA (kpe_rc hK hP dk_10.o rfl)) rfl rfl hl.1 rfl (lv_room (Nat.le_of_ble_eq_true rfl)) dX6_need_27 ⟨Nat.le_of_ble_eq_true rfl, Nat.le_of_ble_eq_true rfl⟩) hD hS hA (fun r_12 x_12 H locs hq_12 hP hD hS => ?_)
      obtain ⟨⟨j, hj, hr_12⟩, ht_12⟩ := hq_12
      rw [hr_12]
      rw [ht_12] at hP hD
      have dk_13 : DK (pI (pI (pI T d 2 (nI (dr + 1))) d 2 (nI (dr + 1 + 1))) d 2 (nI (dr + 1 + 1 + 1))) d x b Ad (n, na, (upd (upd (upd fF 2 (nI (dr + 1))) 2 (nI (dr + 1 + 1))) 2 (nI (dr + 1 + 1 + 1))), fO, fW, fC, fR, fB) := dk_10.num
      have q8_j : j < 8 := by omega
      obtain ⟨a_j, ja_j⟩ := gg.c.row j (by omega)
      have sw_j := gg.sw2 (by omega) ja_j
      obtain ⟨vcj, hvj2, hvj4, evj⟩ := gg.vc (j := j) (by omega)
      have oj1 : fO j 1 = nI vcj := (hvm.o (k := j) (by omega) (q := (1, 5)) (by decide)).trans evj
      refine lv_istore_n (lv' := [(2, .int (nI j)), (1, .int (nI k)), (0, .ref d)]) hx hb dX6_need_30 rfl hl (by decide) rfl (fun ls hl => ?_)
      refine lv_aload_n hx hb dX6_need_31 rfl (lv_at hl 2 rfl) ?_
      refine kd_gets (r := (aO Ad)) hx hb htT m_u_X6 hown hK hP dk_13.o rfl 6 (by decide) (by decide) rfl dk_13.q6 (htT _ m_fl_X6_18) dX6_need_32 ?_
      refine lv_iload_n hx hb dX6_need_35 rfl (lv_at hl 1 rfl) ?_
      refine ky_alda (r := some (aOk Ad k)) hx hb hK hP dk_13.ao (show vp_in (nI (k)) 8 from ki_in (by omega) (by omega)) ((congrArg _ (ki_cl (n := k) (by omega))).trans (dk_13.op (k := k) (show k < n by omega))) dX6_need_36 ?_
      refine lv_bipush (v := 10) hx hb dX6_need_37 (by decide) ?_
      refine kx_ialdv (x := M.2 15 k) hx hb hK (kmy_P hP) (dk_13.oa (k := k) (show k < n by omega)) (Nat.le_of_ble_eq_true rfl) (Nat.le_of_ble_eq_true rfl) (show vp_in 10 12 from ki_in (n := 10) (by omega) (by omega)) ((congrArg _ (ki_cl (n := 10) (by omega))).trans ((dk_13.ov (k := k) (j := 10) (show k < n by omega) (show 10 < 12 by omega)).trans ((hvm.o hk (q := (10, 15)) (by decide))))) dX6_need_39 ?_
      refine lv_istore_n (lv' := [(3, .int (M.2 15 k)), (2, .int (nI j)), (1, .int (nI k)), (0, .ref d)]) hx hb dX6_need_40 rfl hl (by decide) rfl (fun ls hl => ?_)
      refine lv_aload_n hx hb dX6_need_41 rfl (lv_at hl 3 rfl) ?_
      refine kd_gets (r := (aO Ad)) hx hb htT m_u_X6 hown hK hP dk_13.o rfl 6 (by decide) (by decide) rfl dk_13.q6 (htT _ m_fl_X6_18) dX6_need_42 ?_
      refine lv_iload_n hx hb dX6_need_45 rfl (lv_at hl 2 rfl) ?_
      refine ky_alda (r := some (aOk Ad k)) hx hb hK hP dk_13.ao (show vp_in (nI (k)) 8 from ki_in (by omega) (by omega)) ((congrArg _ (ki_cl (n := k) (by omega))).trans (dk_13.op (k := k) (show k < n by omega))) dX6_need_46 ?_
      refine lv_bipush (v := 10) hx hb dX6_need_47 (by decide) ?_
      refine lv_iload_n hx hb dX6_need_49 rfl (lv_at hl 1 rfl) ?_
      refine ky_iastv hx hb hK hP hD hS (dk_13.oa (k := k) (show k < n by omega)) (Nat.le_of_ble_eq_true rfl) (Nat.le_of_ble_eq_true rfl) (show vp_in 10 12 from ki_in (n := 10) (by omega) (by omega)) (ki_cl (n := 10) (by omega)) dX6_need_50 (fun H locs hP hD hS => ?_)
      have dk_14 : DK (pR (pI (pI (pI T d 2 (nI (dr + 1))) d 2 (nI (dr + 1 + 1))) d 2 (nI (dr + 1 + 1 + 1))) (aOk Ad k) 10 (nI j)) d x b Ad (n, na, (upd (upd (upd fF 2 (nI (dr + 1))) 2 (nI (dr + 1 + 1))) 2 (nI (dr + 1 + 1 + 1))), (u2 fO k 10 (nI j)), fW, fC, fR, fB) := dk_13.one (show k < n by omega)
      refine lv_aload_n hx hb dX6_need_51 rfl (lv_at hl 3 rfl) ?_
      refine kd_gets (r := (aO Ad)) hx hb htT m_u_X6 hown hK hP dk_14.o rfl 6 (by decide) (by decide) rfl dk_14.q6 (htT _ m_fl_X6_18) dX6_need_52 ?_
      refine lv_iload_n hx hb dX6_need_55 rfl (lv_at hl 2 rfl) ?_
      refine ky_alda (r := some (aOk Ad k)) hx hb hK hP dk_14.ao (show vp_in (nI (k)) 8 from ki_in (by omega) (by omega)) ((congrArg _ (ki_cl (n := k) (by omega))).trans (dk_14.op (k := k) (show k < n by omega))) dX6_need_56 ?_
      refine lv_bipush (v := 11) hx hb dX6_need_57 (by decide) ?_
      refine lv_iload_n hx hb dX6_need_59 rfl (lv_at hl 1 rfl) ?_
      refine lv_if_ge (tgt := 67) hx hb dX6_need_60 (by decide) (fun c_15 => ?_) (fun c_15 => ?_)
      · refine lv_aload_n hx hb dX6_need_67 rfl (lv_at hl 3 rfl) ?_
        refine lv_aload_n hx hb dX6_need_68 rfl (lv_at hl 3 rfl) ?_
        refine kd_gets (r := (aO Ad)) hx hb htT m_u_X6 hown hK hP dk_14.o rfl 6 (by decide) (by decide) rfl dk_14.q6 (htT _ m_fl_X6_18) dX6_need_69 ?_
        refine lv_iload_n hx hb dX6_need_72 rfl (lv_at hl 1 rfl) ?_
        refine ky_alda (r := some (aOk Ad j)) hx hb hK hP dk_14.ao (show vp_in (nI (j)) 8 from ki_in (by omega) (by omega)) ((congrArg _ (ki_cl (n := j) (by omega))).trans (dk_14.op (k := j) (show j < n by omega))) dX6_need_73 ?_
        refine lv_iconst (v := 1) hx hb dX6_need_74 (by decide) ?_
        refine kx_ialdv (x := nI vcj) hx hb hK (kmy_P hP) (dk_14.oa (k := j) (show j < n by omega)) (Nat.le_of_ble_eq_true rfl) (Nat.le_of_ble_eq_true rfl) (show vp_in 1 12 from ki_in (n := 1) (by omega) (by omega)) ((congrArg _ (ki_cl (n := 1) (by omega))).trans ((dk_14.ov (k := j) (j := 1) (show j < n by omega) (show 1 < 12 by omega)).trans ((u2_ne (fun z => absurd z.2 (by decide))).trans (oj1)))) dX6_need_75 ?_
        refine kc_i (va_runV (As := [.int (nI vcj)]) (rest := [.int 11, .ref (aOk Ad k)]) ⟨hx, hb, hml, hown, htT⟩ (d_draw l D cA _ (PW cA S) b L xs hL (pR (pI (pI (pI T d 2 (nI (dr + 1))) d 2 (nI (dr + 1 + 1))) d 2 (nI (dr + 1 + 1 + 1))) (aOk Ad k) 10 (nI j)) d x Ad n na (upd (upd (upd fF 2 (nI (dr + 1))) 2 (nI (dr + 1 + 1))) 2 (nI (dr + 1 + 1 + 1))) (u2 fO k 10 (nI j)) fW fC fR fB dk_14 (dr + 1 + 1 + 1) rfl (by omega) (vcj) (by omega) (by omega)) (cwV 1 htT (kg_V m_ml_X6_60 m_im_X6_draw m_sl_X6_draw m_in_X6 m_cd_X6_draw) rfl rfl rfl (by decide +kernel) ⟨Nat.le_of_ble_eq_true rfl, Nat.le_of_ble_eq_true rfl⟩) (kpe_V hK hP hD hTB hTX hX hbl hbA hAO hS hA (kpe_rc hK hP dk_14.o rfl)) rfl rfl hl.1 rfl (lv_room (Nat.le_of_ble_eq_true rfl)) dX6_need_76 ⟨Nat.le_of_ble_eq_true rfl, Nat.le_of_ble_eq_true rfl⟩) hD hS hA (fun r_16 x_16 H locs hq_16 hP hD hS => ?_)
        obtain ⟨⟨vj, hvj, hr_16⟩, ht_16⟩ := hq_16
        rw [hr_16]
        rw [ht_16] at hP hD
        have dk_17 : DK (pI (pR (pI (pI (pI T d 2 (nI (dr + 1))) d 2 (nI (dr + 1 + 1))) d 2 (nI (dr + 1 + 1 + 1))) (aOk Ad k) 10 (nI j)) d 2 (nI (dr + 1 + 1 + 1 + 1))) d x b Ad (n, na, (upd (upd (upd (upd fF 2 (nI (dr + 1))) 2 (nI (dr + 1 + 1))) 2 (nI (dr + 1 + 1 + 1))) 2 (nI (dr + 1 + 1 + 1 + 1))), (u2 fO k 10 (nI j)), fW, fC, fR, fB) := dk_14.num
        refine ky_iastv hx hb hK hP hD hS (dk_17.oa (k := k) (show k < n by omega)) (Nat.le_of_ble_eq_true rfl) (Nat.le_of_ble_eq_true rfl) (show vp_in 11 12 from ki_in (n := 11) (by omega) (by omega)) (ki_cl (n := 11) (by omega)) dX6_need_79 (fun H locs hP hD hS => ?_)
        have dk_18 : DK (pR (pI (pR (pI (pI (pI T d 2 (nI (dr + 1))) d 2 (nI (dr + 1 + 1))) d 2 (nI (dr + 1 + 1 + 1))) (aOk Ad k) 10 (nI j)) d 2 (nI (dr + 1 + 1 + 1 + 1))) (aOk Ad k) 11 (nI vj)) d x b Ad (n, na, (upd (upd (upd (upd fF 2 (nI (dr + 1))) 2 (nI (dr + 1 + 1))) 2 (nI (dr + 1 + 1 + 1))) 2 (nI (dr + 1 + 1 + 1 + 1))), (u2 (u2 fO k 10 (nI j)) k 11 (nI vj)), fW, fC, fR, fB) := dk_17.one (show k < n by omega)
        refine lv_aload_n hx hb dX6_need_80 rfl (lv_at hl 3 rfl) ?_
        refine kd_gets (r := x) hx hb htT m_u_X6 hown hK hP dk_18.o rfl 0 (by decide) (by decide) rfl dk_18.q0 (htT _ m_fl_X6_10) dX6_need_81 ?_
        refine lv_iload_n hx hb dX6_need_84 rfl (lv_at hl 2 rfl) ?_
        refine lv_iload_n hx hb dX6_need_85 rfl (lv_at hl 1 rfl) ?_
        refine lv_aload_n hx hb dX6_need_86 rfl (lv_at hl 3 rfl) ?_
        refine kd_gets (r := (aO Ad)) hx hb htT m_u_X6 hown hK hP dk_18.o rfl 6 (by decide) (by decide) rfl dk_18.q6 (htT _ m_fl_X6_18) dX6_need_87 ?_
        refine lv_iload_n hx hb dX6_need_90 rfl (lv_at hl 2 rfl) ?_
        refine ky_alda (r := some (aOk Ad k)) hx hb hK hP dk_18.ao (show vp_in (nI (k)) 8 from ki_in (by omega) (by omega)) ((congrArg _ (ki_cl (n := k) (by omega))).trans (dk_18.op (k := k) (show k < n by omega))) dX6_need_91 ?_
        refine lv_bipush (v := 11) hx hb dX6_need_92 (by decide) ?_
        refine kx_ialdv (x := nI vj) hx hb hK (kmy_P hP) (dk_18.oa (k := k) (show k < n by omega)) (Nat.le_of_ble_eq_true rfl) (Nat.le_of_ble_eq_true rfl) (show vp_in 11 12 from ki_in (n := 11) (by omega) (by omega)) ((congrArg _ (ki_cl (n := 11) (by omega))).trans ((dk_18.ov (k := k) (j := 11) (show k < n by omega) (show 11 < 12 by omega)).trans (u2_s))) dX6_need_94 ?_
        refine kn_i (va_runV (As := [.int (nI k), .int (nI j), .int (nI vj)]) (rest := []) ⟨hx, hb, hml, hown, htT⟩ (c_need l D cA _ S x gg.c.hx ar gg.c.q0 ak gg.c.q1 gg.c.kk gg.c.R k q8_k a_k ja_k (nI k) sw_k (nI j) (nI vj) (nI_m1 (by omega)) a_j sw_j j q8_j ja_j (gg.vko (j := j) (by omega) ja_j evj (by omega) hvj4) ((nI_ltI (by omega) (by omega)).mpr hj)) (cwV 3 htT (kg_V m_ml_X6_96 m_im_X5_need m_sl_X5_need m_in_X5 m_cd_X5_need) rfl rfl rfl (by decide +kernel) ⟨Nat.le_of_ble_eq_true rfl, Nat.le_of_ble_eq_true rfl⟩) (kn_V hK hP hD hTB gg.c.hx (Nat.le_of_ble_eq_true rfl) rfl) rfl rfl hl.1 rfl (lv_room (Nat.le_of_ble_eq_true rfl)) dX6_need_95 ⟨Nat.le_of_ble_eq_true rfl, Nat.le_of_ble_eq_true rfl⟩) hP hD hS hA (fun r_19 x_19 H locs hq_19 hP hD hS => ?_)
        rw [hq_19.1.trans (gg.l.rn hk ja_k (q := (16, 15)) (by decide))]
        have gg2 : GG n na x_19 (mR (mR M 15 k (nI j)) 16 k (nI vj)) x ar ak := by rw [hq_19.2]; exact gg.need hk ja_k (Or.inr ⟨j, hj, rfl⟩)
        refine lv_iload_n hx hb dX6_need_98 rfl (lv_at hl 0 rfl) ?_
        refine lv_icmp_ne (tgt := 106) hx hb dX6_need_99 (by decide) (fun c_20 => ?_) (fun c_20 => ?_)
        · exact absurd rfl c_20
        · refine lv_iconst (v := 1) hx hb dX6_need_102 (by decide) ?_
          refine lv_goto (tgt := 107) hx hb dX6_need_103 (by decide) ?_
          exact W.zret (v := 1) hx hb hr (rfl) (fun t ht hW => ⟨⟨1, (pR (pI (pR (pI (pI (pI T d 2 (nI (dr + 1))) d 2 (nI (dr + 1 + 1))) d 2 (nI (dr + 1 + 1 + 1))) (aOk Ad k) 10 (nI j)) d 2 (nI (dr + 1 + 1 + 1 + 1))) (aOk Ad k) 11 (nI vj), x_19), rfl, ⟨rfl, n, na, dr + 1 + 1 + 1 + 1, cM, sB, _, _, _, _, _, _, _, (mR (mR M 15 k (nI j)) 16 k (nI vj)), by omega, by omega, by omega, by omega, dk_18, ((((((hvm.draw (d2 := dr + 1)).draw (d2 := dr + 1 + 1)).draw (d2 := dr + 1 + 1 + 1)).draw (d2 := dr + 1 + 1 + 1 + 1)).one (k := k) (q := (10, 15)) (by decide) (by decide) (v := (nI j))).one (k := k) (q := (11, 16)) (by decide) (by decide) (v := (nI vj))), gg2, hM.need⟩, by rw [ht]; exact hP, va_K.moved hW.alike hK, hD⟩, hS.F ht⟩) hS.2.2 dX6_need_107
      · exact absurd ((nI_leI (a := 0) (b := j) (by omega) (by omega)).mpr (by omega)) c_15
    · replace c_11 := (nI_eq (a := w4) (b := 0) (by omega) (by omega)).mp c_11
      refine lv_iconst (v := (-1)) hx hb dX6_need_21 (by decide) ?_
      refine lv_goto (tgt := 30) hx hb dX6_need_22 (by decide) ?_
      refine lv_istore_n (lv' := [(2, .int (-1)), (1, .int (nI k)), (0, .ref d)]) hx hb dX6_need_30 rfl hl (by decide) rfl (fun ls hl => ?_)
      refine lv_aload_n hx hb dX6_need_31 rfl (lv_at hl 2 rfl) ?_
      refine kd_gets (r := (aO Ad)) hx hb htT m_u_X6 hown hK hP dk_10.o rfl 6 (by decide) (by decide) rfl dk_10.q6 (htT _ m_fl_X6_18) dX6_need_32 ?_
      refine lv_iload_n hx hb dX6_need_35 rfl (lv_at hl 1 rfl) ?_
      refine ky_alda (r := some (aOk Ad k)) hx hb hK hP dk_10.ao (show vp_in (nI (k)) 8 from ki_in (by omega) (by omega)) ((congrArg _ (ki_cl (n := k) (by omega))).trans (dk_10.op (k := k) (show k < n by omega))) dX6_need_36 ?_
      refine lv_bipush (v := 10) hx hb dX6_need_37 (by decide) ?_
      refine kx_ialdv (x := M.2 15 k) hx hb hK (kmy_P hP) (dk_10.oa (k := k) (show k < n by omega)) (Nat.le_of_ble_eq_true rfl) (Nat.le_of_ble_eq_true rfl) (show vp_in 10 12 from ki_in (n := 10) (by omega) (by omega)) ((congrArg _ (ki_cl (n := 10) (by omega))).trans ((dk_10.ov (k := k) (j := 10) (show k < n by omega) (show 10 < 12 by omega)).trans ((hvm.o hk (q := (10, 15)) (by decide))))) dX6_need_39 ?_
      refine lv_istore_n (lv' := [(3, .int (M.2 15 k)), (2, .int (-1)), (1, .int (nI k)), (0, .ref d)]) hx hb dX6_need_40 rfl hl (by decide) rfl (fun ls hl => ?_)
      refine lv_aload_n hx hb dX6_need_41 rfl (lv_at hl 3 rfl) ?_
      refine kd_gets (r := (aO Ad)) hx hb htT m_u_X6 hown hK hP dk_10.o rfl 6 (by decide) (by decide) rfl dk_10.q6 (htT _ m_fl_X6_18) dX6_need_42 ?_
      refine lv_iload_n hx hb dX6_need_45 rfl (lv_at hl 2 rfl) ?_
      refine ky_alda (r := some (aOk Ad k)) hx hb hK hP dk_10.ao (show vp_in (nI (k)) 8 from ki_in (by omega) (by omega)) ((congrArg _ (ki_cl (n := k) (by omega))).trans (dk_10.op (k := k) (show k < n by omega))) dX6_need_46 ?_
      refine lv_bipush (v := 10) hx hb dX6_need_47 (by decide) ?_
      refine lv_iload_n hx hb dX6_need_49 rfl (lv_at hl 1 rfl) ?_
      refine ky_iastv hx hb hK hP hD hS (dk_10.oa (k := k) (show k < n by omega)) (Nat.le_of_ble_eq_true rfl) (Nat.le_of_ble_eq_true rfl) (show vp_in 10 12 from ki_in (n := 10) (by omega) (by omega)) (ki_cl (n := 10) (by omega)) dX6_need_50 (fun H locs hP hD hS => ?_)
      have dk_21 : DK (pR (pI (pI T d 2 (nI (dr + 1))) d 2 (nI (dr + 1 + 1))) (aOk Ad k) 10 (-1)) d x b Ad (n, na, (upd (upd fF 2 (nI (dr + 1))) 2 (nI (dr + 1 + 1))), (u2 fO k 10 (-1)), fW, fC, fR, fB) := dk_10.one (show k < n by omega)
      refine lv_aload_n hx hb dX6_need_51 rfl (lv_at hl 3 rfl) ?_
      refine kd_gets (r := (aO Ad)) hx hb htT m_u_X6 hown hK hP dk_21.o rfl 6 (by decide) (by decide) rfl dk_21.q6 (htT _ m_fl_X6_18) dX6_need_52 ?_
      refine lv_iload_n hx hb dX6_need_55 rfl (lv_at hl 2 rfl) ?_
      refine ky_alda (r := some (aOk Ad k)) hx hb hK hP dk_21.ao (show vp_in (nI (k)) 8 from ki_in (by omega) (by omega)) ((congrArg _ (ki_cl (n := k) (by omega))).trans (dk_21.op (k := k) (show k < n by omega))) dX6_need_56 ?_
      refine lv_bipush (v := 11) hx hb dX6_need_57 (by decide) ?_
      refine lv_iload_n hx hb dX6_need_59 rfl (lv_at hl 1 rfl) ?_
      refine lv_if_ge (tgt := 67) hx hb dX6_need_60 (by decide) (fun c_22 => absurd c_22 (by decide)) (fun _ => ?_)
      refine lv_iconst (v := 0) hx hb dX6_need_63 (by decide) ?_
      refine lv_goto (tgt := 79) hx hb dX6_need_64 (by decide) ?_
      refine ky_iastv hx hb hK hP hD hS (dk_21.oa (k := k) (show k < n by omega)) (Nat.le_of_ble_eq_true rfl) (Nat.le_of_ble_eq_true rfl) (show vp_in 11 12 from ki_in (n := 11) (by omega) (by omega)) (ki_cl (n := 11) (by omega)) dX6_need_79 (fun H locs hP hD hS => ?_)
      have dk_23 : DK (pR (pR (pI (pI T d 2 (nI (dr + 1))) d 2 (nI (dr + 1 + 1))) (aOk Ad k) 10 (-1)) (aOk Ad k) 11 0) d x b Ad (n, na, (upd (upd fF 2 (nI (dr + 1))) 2 (nI (dr + 1 + 1))), (u2 (u2 fO k 10 (-1)) k 11 0), fW, fC, fR, fB) := dk_21.one (show k < n by omega)
      refine lv_aload_n hx hb dX6_need_80 rfl (lv_at hl 3 rfl) ?_
      refine kd_gets (r := x) hx hb htT m_u_X6 hown hK hP dk_23.o rfl 0 (by decide) (by decide) rfl dk_23.q0 (htT _ m_fl_X6_10) dX6_need_81 ?_
      refine lv_iload_n hx hb dX6_need_84 rfl (lv_at hl 2 rfl) ?_
      refine lv_iload_n hx hb dX6_need_85 rfl (lv_at hl 1 rfl) ?_
      refine lv_aload_n hx hb dX6_need_86 rfl (lv_at hl 3 rfl) ?_
      refine kd_gets (r := (aO Ad)) hx hb htT m_u_X6 hown hK hP dk_23.o rfl 6 (by decide) (by decide) rfl dk_23.q6 (htT _ m_fl_X6_18) dX6_need_87 ?_
      refine lv_iload_n hx hb dX6_need_90 rfl (lv_at hl 2 rfl) ?_
      refine ky_alda (r := some (aOk Ad k)) hx hb hK hP dk_23.ao (show vp_in (nI (k)) 8 from ki_in (by omega) (by omega)) ((congrArg _ (ki_cl (n := k) (by omega))).trans (dk_23.op (k := k) (show k < n by omega))) dX6_need_91 ?_
      refine lv_bipush (v := 11) hx hb dX6_need_92 (by decide) ?_
      refine kx_ialdv (x := 0) hx hb hK (kmy_P hP) (dk_23.oa (k := k) (show k < n by omega)) (Nat.le_of_ble_eq_true rfl) (Nat.le_of_ble_eq_true rfl) (show vp_in 11 12 from ki_in (n := 11) (by omega) (by omega)) ((congrArg _ (ki_cl (n := 11) (by omega))).trans ((dk_23.ov (k := k) (j := 11) (show k < n by omega) (show 11 < 12 by omega)).trans (u2_s))) dX6_need_94 ?_
      refine kn_i (va_runV (As := [.int (nI k), .int (-1), .int 0]) (rest := []) ⟨hx, hb, hml, hown, htT⟩ (c_need_n l D cA _ S x gg.c.hx ar gg.c.q0 ak gg.c.q1 gg.c.kk gg.c.R k q8_k a_k ja_k (nI k) sw_k 0) (cwV 3 htT (kg_V m_ml_X6_96 m_im_X5_need m_sl_X5_need m_in_X5 m_cd_X5_need) rfl rfl rfl (by decide +kernel) ⟨Nat.le_of_ble_eq_true rfl, Nat.le_of_ble_eq_true rfl⟩) (kn_V hK hP hD hTB gg.c.hx (Nat.le_of_ble_eq_true rfl) rfl) rfl rfl hl.1 rfl (lv_room (Nat.le_of_ble_eq_true rfl)) dX6_need_95 ⟨Nat.le_of_ble_eq_true rfl, Nat.le_of_ble_eq_true rfl⟩) hP hD hS hA (fun r_24 x_24 H locs hq_24 hP hD hS => ?_)
      rw [hq_24.1.trans (gg.l.rn hk ja_k (q := (16, 15)) (by decide))]
      have gg2 : GG n na x_24 (mR (mR M 15 k (-1)) 16 k 0) x ar ak := by rw [hq_24.2]; exact gg.need hk ja_k (Or.inl rfl)
      refine lv_iload_n hx hb dX6_need_98 rfl (lv_at hl 0 rfl) ?_
      refine lv_icmp_ne (tgt := 106) hx hb dX6_need_99 (by decide) (fun c_25 => ?_) (fun c_25 => ?_)
      · exact absurd rfl c_25
      · refine lv_iconst (v := 1) hx hb dX6_need_102 (by decide) ?_
        refine lv_goto (tgt := 107) hx hb dX6_need_103 (by decide) ?_
        exact W.zret (v := 1) hx hb hr (rfl) (fun t ht hW => ⟨⟨1, (pR (pR (pI (pI T d 2 (nI (dr + 1))) d 2 (nI (dr + 1 + 1))) (aOk Ad k) 10 (-1)) (aOk Ad k) 11 0, x_24), rfl, ⟨rfl, n, na, dr + 1 + 1, cM, sB, _, _, _, _, _, _, _, (mR (mR M 15 k (-1)) 16 k 0), by omega, by omega, by omega, by omega, dk_23, ((((hvm.draw (d2 := dr + 1)).draw (d2 := dr + 1 + 1)).one (k := k) (q := (10, 15)) (by decide) (by decide) (v := (-1))).one (k := k) (q := (11, 16)) (by decide) (by decide) (v := 0)), gg2, hM.need⟩, by rw [ht]; exact hP, va_K.moved hW.alike hK, hD⟩, hS.F ht⟩) hS.2.2 dX6_need_107

