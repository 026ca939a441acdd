set_option maxRecDepth 100000 in
set_option maxHeartbeats 4000000 in
/-- d_act -/
theorem d_act (l : Launch) (D : va_G) (cA : Nat → ClassId) (sz : Nat) (b L : Nat) (xs : Nat → Int32) (hL : L < 2 ^ 31) (T S : Pool) (d x ar ak D0 c0 s0 n0 : Nat) (hD0 : D0 < 1000000) (hc0 : c0 < 100000) (hs0 : s0 < 1000000) (hJ : J38 d x b ar ak D0 c0 s0 n0 T S) (hn0 : 1 ≤ n0)  : Met l yX6_act (Cond.code yX6_act cX6_act 8 (some .boolean) :: TT) ({ frames := 4, cells := 0, slots := 0, locals := 97 }) (va_Pc [.ref d] (kPreE D cA (PW cA T ++ PW cA S) b L xs sz)) (va_Qi (fun (r_ : Int32) (x_ : Pool × Pool) => r_ = 1 ∧ J38 d x b ar ak (D0 + 8) (c0) (s0 + 100) (n0) x_.1 x_.2) (fun x_ => kB D cA (va_A (PW cA T ++ PW cA S) sz) (PW cA x_.1 ++ PW cA x_.2)) (va_A (PW cA T ++ PW cA S) sz)) 0 0 (va_A (PW cA T ++ PW cA S) sz) := by
  refine Met.ofW (cc := cX6_act) (maxL := 8) (ret := (some .boolean)) (by decide) rfl ?_
  intro p e s m args below meth c s₁ B hml hv
  obtain ⟨rfl, ⟨⟨hsz, hP, hK, hD0, hTB⟩, hTX⟩, hX, hbl, hbA, hAO⟩ := hv
  have hx := B.exec
  have hb := B.bytes
  have hr := B.returns
  have hts := atoms_spec (ws := Cond.code yX6_act cX6_act 8 (some .boolean) :: TT) B.pre
  have htT : ∀ w ∈ TT, w.before _ s = true := fun w h => hts w (List.mem_cons_of_mem _ h)
  have hown : s.vm.findClass RX6 = some m.cls := findClass_of_methodNamed B.named
  have hlocks := B.notSynchronized
  subst hsz
  have hD := hD0.self (sz := s.heap.size)
  generalize hAe : va_A (PW cA T ++ PW cA S) s.heap.size = A at hD hTX hbA ⊢
  have hA : ∀ q : Nat, s.heap.size ≤ q → A q := fun q h => by rw [← hAe]; exact Or.inr h
  have hS : va_S A s.heap s.heap [] := va_S.rf
  have hl := lv_entry ([.ref d]) (n := 8) (Nat.le_of_ble_eq_true rfl)
  rw [lg_entry_eq]
  generalize (lg_sl ([.ref d]) ++ List.replicate (8 - (lg_sl ([.ref d])).length) Slot.unset).toArray = ls at hl ⊢
  have hl : lv_has ls 8 [(0, .ref d)] := hl
  obtain ⟨n, na, dr, cM, sB, Ad, fF, fO, fW, fC, fR, fB, M, hn9, hdr9, hcM9, hsB9, dk, hvm, gg, hM⟩ := hJ
  have hn8 : n ≤ 8 := dk.n8
  have hna : na ≤ 100 := gg.r.na
  have hdr : fF 2 = nI dr := hvm.f2
  have oF5 : fF 5 = nI n := hvm.f5
  have oF3 : fF 3 = nI cM := hvm.f3.trans hM.1.1
  refine lv_aload_n hx hb dX6_act_0 rfl (lv_at hl 0 rfl) ?_
  refine lv_bipush (v := 30) hx hb dX6_act_1 (by decide) ?_
  refine kc_i (va_runV (As := [.int 30]) (rest := []) ⟨hx, hb, hml, hown, htT⟩ (d_draw l D cA _ (PW cA S) b L xs hL T d x Ad n na fF fO fW fC fR fB dk (dr) hdr (by omega) (30) (by omega) (by omega)) (cwV 1 htT (kg_V m_ml_X6_60 m_im_X6_draw m_sl_X6_draw m_in_X6 m_cd_X6_draw) rfl rfl rfl (by decide +kernel) ⟨Nat.le_of_ble_eq_true rfl, Nat.le_of_ble_eq_true rfl⟩) (kpe_V hK hP hD hTB hTX hX hbl hbA hAO hS hA (kpe_rc hK hP dk.o rfl)) rfl rfl hl.1 rfl (lv_room (Nat.le_of_ble_eq_true rfl)) dX6_act_3 ⟨Nat.le_of_ble_eq_true rfl, Nat.le_of_ble_eq_true rfl⟩) hD hS hA (fun r_1 x_1 H locs hq_1 hP hD hS => ?_)
  obtain ⟨⟨uu, huu, hr_1⟩, ht_1⟩ := hq_1
  rw [hr_1]
  rw [ht_1] at hP hD
  have dk_2 : DK (pI T d 2 (nI (dr + 1))) d x b Ad (n, na, (upd fF 2 (nI (dr + 1))), fO, fW, fC, fR, fB) := dk.num
  refine lv_istore_n (lv' := [(1, .int (nI uu)), (0, .ref d)]) hx hb dX6_act_6 rfl hl (by decide) rfl (fun ls hl => ?_)
  refine lv_aload_n hx hb dX6_act_7 rfl (lv_at hl 1 rfl) ?_
  refine lv_bipush (v := 101) hx hb dX6_act_8 (by decide) ?_
  refine kc_i (va_runV (As := [.int 101]) (rest := []) ⟨hx, hb, hml, hown, htT⟩ (d_draw l D cA _ (PW cA S) b L xs hL (pI T d 2 (nI (dr + 1))) d x Ad n na (upd fF 2 (nI (dr + 1))) fO fW fC fR fB dk_2 (dr + 1) rfl (by omega) (101) (by omega) (by omega)) (cwV 1 htT (kg_V m_ml_X6_60 m_im_X6_draw m_sl_X6_draw m_in_X6 m_cd_X6_draw) rfl rfl rfl (by decide +kernel) ⟨Nat.le_of_ble_eq_true rfl, Nat.le_of_ble_eq_true rfl⟩) (kpe_V hK hP hD hTB hTX hX hbl hbA hAO hS hA (kpe_rc hK hP dk_2.o rfl)) rfl rfl hl.1 rfl (lv_room (Nat.le_of_ble_eq_true rfl)) dX6_act_10 ⟨Nat.le_of_ble_eq_true rfl, Nat.le_of_ble_eq_true rfl⟩) hD hS hA (fun r_3 x_3 H locs hq_3 hP hD hS => ?_)
  obtain ⟨⟨wo, hwo, hr_3⟩, ht_3⟩ := hq_3
  rw [hr_3]
  rw [ht_3] at hP hD
  have dk_4 : DK (pI (pI T d 2 (nI (dr + 1))) d 2 (nI (dr + 1 + 1))) d x b Ad (n, na, (upd (upd fF 2 (nI (dr + 1))) 2 (nI (dr + 1 + 1))), fO, fW, fC, fR, fB) := dk_2.num
  refine lv_istore_n (lv' := [(2, .int (nI wo)), (1, .int (nI uu)), (0, .ref d)]) hx hb dX6_act_13 rfl hl (by decide) rfl (fun ls hl => ?_)
  refine lv_iconst (v := 0) hx hb dX6_act_14 (by decide) ?_
  refine lv_istore_n (lv' := [(3, .int 0), (2, .int (nI wo)), (1, .int (nI uu)), (0, .ref d)]) hx hb dX6_act_15 rfl hl (by decide) rfl (fun ls hl => ?_)
  refine lv_aload_n hx hb dX6_act_16 rfl (lv_at hl 3 rfl) ?_
  refine kd_gets (r := (aA Ad)) hx hb htT m_u_X6 hown hK hP dk_4.o rfl 9 (by decide) (by decide) rfl dk_4.q9 (htT _ m_fl_X6_31) dX6_act_17 ?_
  refine lv_astore (lv' := [(4, .ref (aA Ad)), (3, .int 0), (2, .int (nI wo)), (1, .int (nI uu)), (0, .ref d)]) hx hb dX6_act_20 hl (by decide) rfl (fun ls hl => ?_)
  refine lv_aload hx hb dX6_act_22 (lv_at hl 0 rfl) ?_
  refine ky_lena (v := nI (na)) hx hb hK hP dk_4.aa rfl dX6_act_24 ?_
  refine lv_istore (lv' := [(5, .int (nI (na))), (4, .ref (aA Ad)), (3, .int 0), (2, .int (nI wo)), (1, .int (nI uu)), (0, .ref d)]) hx hb dX6_act_25 hl (by decide) rfl (fun ls hl => ?_)
  refine lv_iconst (v := 0) hx hb dX6_act_27 (by decide) ?_
  refine lv_istore (lv' := [(6, .int 0), (5, .int (nI (na))), (4, .ref (aA Ad)), (3, .int 0), (2, .int (nI wo)), (1, .int (nI uu)), (0, .ref d)]) hx hb dX6_act_28 hl (by decide) rfl (fun ls hl => ?_)
  refine kz_loop 30 (fun N9 H locs ls => ∃ (U : Pool) (B9 : Nat → Nat → Int32) (i : Nat), N9 = na - i ∧ i ≤ na ∧ DK U d x b Ad (n, na, (upd (upd fF 2 (nI (dr + 1))) 2 (nI (dr + 1 + 1))), fO, fW, fC, fR, B9) ∧ ARow M.2 (nI uu) (nI wo) na i fB B9 ∧ va_P D vwCl (PW cA U ++ PW cA S) H ∧ va_D A (PW cA U ++ PW cA S) ∧ va_S A s.heap H locs ∧ lv_has ls 8 [(6, .int (nI i)), (5, .int (nI na)), (4, .ref (aA Ad)), (3, .int (nI (rAcN M.2 (nI uu) i))), (0, .ref d), (1, .int (nI uu)), (2, .int (nI wo))]) (fun N9 ih_30 H locs ls hI => ?_) ⟨pI (pI T d 2 (nI (dr + 1))) d 2 (nI (dr + 1 + 1)), fB, 0, rfl, Nat.zero_le _, dk_4, (fun z hz => ⟨rfl, rfl, rfl, (hvm.b hz (j := 3) (by decide)).trans (congrFun rA26_0 z).symm, (hvm.b hz (j := 4) (by decide)).trans (congrFun rA27_0 z).symm⟩), hP, hD, hS, lv_sub hl [0, 1, 2, 3, 6, 5, 4] rfl⟩
  obtain ⟨U, B9, i, hn9, hi9, dkU, hrow, hP, hD, hS, hl⟩ := hI
  refine lv_iload hx hb dX6_act_30 (lv_at hl 0 rfl) ?_
  refine lv_iload hx hb dX6_act_32 (lv_at hl 1 rfl) ?_
  refine lv_icmp_ge (tgt := 77) hx hb dX6_act_34 (by decide) (fun c_5 => ?_) (fun c_5 => ?_)
  · replace c_5 := (nI_leI (a := na) (b := i) (by omega) (by omega)).mp c_5
    have hina : i = na := by omega
    rw [hina] at hl hrow
    refine lv_aload_n hx hb dX6_act_77 rfl (lv_at hl 4 rfl) ?_
    refine kd_gets (r := x) hx hb htT m_u_X6 hown hK hP dkU.o rfl 0 (by decide) (by decide) rfl dkU.q0 (htT _ m_fl_X6_10) dX6_act_78 ?_
    refine lv_iload_n hx hb dX6_act_81 rfl (lv_at hl 5 rfl) ?_
    refine lv_iload_n hx hb dX6_act_82 rfl (lv_at hl 6 rfl) ?_
    refine kn_i (va_runV (As := [.int (nI uu), .int (nI wo)]) (rest := []) ⟨hx, hb, hml, hown, htT⟩ (c_actX l D cA _ S x gg.c.hx ar gg.c.q0 gg.c.R (nI uu) (nI wo) (kOut_n (a := uu) (lo := 0) (hi := 9999) (by omega) (by omega) (by omega)) (kOut_n (a := wo) (lo := 0) (hi := 100) (by omega) (by omega) (by omega))) (cwV 2 htT (kg_V m_ml_X6_192 m_im_X5_act m_sl_X5_act m_in_X5 m_cd_X5_act) rfl rfl rfl (by decide +kernel) ⟨Nat.le_of_ble_eq_true rfl, Nat.le_of_ble_eq_true rfl⟩) (kn_V hK hP hD hTB gg.c.hx (Nat.le_of_ble_eq_true rfl) rfl) rfl rfl hl.1 rfl (lv_room (Nat.le_of_ble_eq_true rfl)) dX6_act_83 ⟨Nat.le_of_ble_eq_true rfl, Nat.le_of_ble_eq_true rfl⟩) hP hD hS hA (fun r_6 x_6 H locs hq_6 hP hD hS => ?_)
    rw [hq_6.1.trans (act_eq gg.t gg.c gg.l hna)]
    have gg2 : GG n na x_6 (mAct M na (nI uu) (nI wo)) x ar ak := by rw [hq_6.2.2]; exact gg.act (by rw [← hq_6.2.2]; exact hq_6.2.1)
    refine lv_iload_n hx hb dX6_act_86 rfl (lv_at hl 3 rfl) ?_
    refine lv_icmp_ne (tgt := 94) hx hb dX6_act_87 (by decide) (fun c_7 => ?_) (fun c_7 => ?_)
    · exact absurd rfl c_7
    · refine lv_iconst (v := 1) hx hb dX6_act_90 (by decide) ?_
      refine lv_goto (tgt := 95) hx hb dX6_act_91 (by decide) ?_
      exact W.zret (v := 1) hx hb hr (rfl) (fun t ht hW => ⟨⟨1, (U, x_6), rfl, ⟨rfl, n, na, dr + 1 + 1, cM, (sB + 100), _, _, _, _, _, _, _, (mAct M na (nI uu) (nI wo)), by omega, by omega, by omega, by omega, dkU, (((hvm.draw (d2 := dr + 1)).draw (d2 := dr + 1 + 1)).act (B := B9) (hrow.vm hvm)), gg2, (hM.act (sC := sB + 100) (by omega) (by omega) (by omega))⟩, by rw [ht]; exact hP, va_K.moved hW.alike hK, hD⟩, hS.F ht⟩) hS.2.2 dX6_act_95
  · replace c_5 : ¬ na ≤ i := fun h9 => c_5 ((nI_leI (a := na) (b := i) (by omega) (by omega)).mpr h9)
    have hin : i < na := by omega
    refine lv_aload hx hb dX6_act_37 (lv_at hl 2 rfl) ?_
    refine lv_iload hx hb dX6_act_39 (lv_at hl 0 rfl) ?_
    refine ky_alda (r := some (aAk Ad i)) hx hb hK hP dkU.aa (show vp_in (nI (i)) na from ki_in (by omega) (by omega)) ((congrArg _ (ki_cl (n := i) (by omega))).trans (dkU.mp (i := i) (show i < na by omega))) dX6_act_41 ?_
    refine lv_astore (lv' := [(7, .ref (aAk Ad i)), (6, .int (nI i)), (5, .int (nI na)), (4, .ref (aA Ad)), (3, .int (nI (rAcN M.2 (nI uu) i))), (0, .ref d), (1, .int (nI uu)), (2, .int (nI wo))]) hx hb dX6_act_42 hl (by decide) rfl (fun ls hl => ?_)
    refine lv_aload hx hb dX6_act_44 (lv_at hl 0 rfl) ?_
    refine lv_iconst (v := 1) hx hb dX6_act_46 (by decide) ?_
    refine kx_ialdv (x := M.2 24 i) hx hb hK (kmy_P hP) (dkU.ma (i := i) (show i < na by omega)) (Nat.le_of_ble_eq_true rfl) (Nat.le_of_ble_eq_true rfl) (show vp_in 1 5 from ki_in (n := 1) (by omega) (by omega)) ((congrArg _ (ki_cl (n := 1) (by omega))).trans ((dkU.mv (i := i) (j := 1) (show i < na by omega) (show 1 < 5 by omega)).trans (((hrow i hin).2.1.trans (hvm.b hin (j := 1) (by decide)))))) dX6_act_47 ?_
    refine lv_iload_n hx hb dX6_act_48 rfl (lv_at hl 6 rfl) ?_
    refine lv_icmp_eq (tgt := 55) hx hb dX6_act_49 (by decide) (fun c_8 => ?_) (fun c_8 => ?_)
    · refine lv_aload hx hb dX6_act_55 (lv_at hl 0 rfl) ?_
      refine lv_iconst (v := 3) hx hb dX6_act_57 (by decide) ?_
      refine lv_dup2_11 hx hb dX6_act_58 rfl rfl ?_
      refine kx_ialdv (x := B9 i 3) hx hb hK (kmy_P hP) (dkU.ma (i := i) (show i < na by omega)) (Nat.le_of_ble_eq_true rfl) (Nat.le_of_ble_eq_true rfl) (show vp_in 3 5 from ki_in (n := 3) (by omega) (by omega)) ((congrArg _ (ki_cl (n := 3) (by omega))).trans ((dkU.mv (i := i) (j := 3) (show i < na by omega) (show 3 < 5 by omega)).trans (rfl))) dX6_act_59 ?_
      refine lv_iload_n hx hb dX6_act_60 rfl (lv_at hl 7 rfl) ?_
      refine lv_iadd hx hb dX6_act_61 ?_
      refine ky_iastv hx hb hK hP hD hS (dkU.ma (i := i) (show i < na by omega)) (Nat.le_of_ble_eq_true rfl) (Nat.le_of_ble_eq_true rfl) (show vp_in 3 5 from ki_in (n := 3) (by omega) (by omega)) (ki_cl (n := 3) (by omega)) dX6_act_62 (fun H locs hP hD hS => ?_)
      have dk_9 : DK (pR U (aAk Ad i) 3 ((B9 i 3) + (nI wo))) d x b Ad (n, na, (upd (upd fF 2 (nI (dr + 1))) 2 (nI (dr + 1 + 1))), fO, fW, fC, fR, (u2 B9 i 3 ((B9 i 3) + (nI wo)))) := dkU.arm (show i < na by omega)
      refine lv_aload hx hb dX6_act_63 (lv_at hl 0 rfl) ?_
      refine lv_iconst (v := 4) hx hb dX6_act_65 (by decide) ?_
      refine lv_iconst (v := 1) hx hb dX6_act_66 (by decide) ?_
      refine ky_iastv hx hb hK hP hD hS (dk_9.ma (i := i) (show i < na by omega)) (Nat.le_of_ble_eq_true rfl) (Nat.le_of_ble_eq_true rfl) (show vp_in 4 5 from ki_in (n := 4) (by omega) (by omega)) (ki_cl (n := 4) (by omega)) dX6_act_67 (fun H locs hP hD hS => ?_)
      have dk_10 : DK (pR (pR U (aAk Ad i) 3 ((B9 i 3) + (nI wo))) (aAk Ad i) 4 1) d x b Ad (n, na, (upd (upd fF 2 (nI (dr + 1))) 2 (nI (dr + 1 + 1))), fO, fW, fC, fR, (u2 (u2 B9 i 3 ((B9 i 3) + (nI wo))) i 4 1)) := dk_9.arm (show i < na by omega)
      refine lv_iinc (v := nI ((rAcN M.2 (nI uu) i) + 1)) (lv' := [(3, .int (nI ((rAcN M.2 (nI uu) i) + 1))), (7, .ref (aAk Ad i)), (6, .int (nI i)), (5, .int (nI na)), (4, .ref (aA Ad)), (0, .ref d), (1, .int (nI uu)), (2, .int (nI wo))]) hx hb dX6_act_68 hl (k := 4) rfl (nI_1 _) (by decide) rfl (fun ls hl => ?_)
      refine lv_iinc (v := nI (i + 1)) (lv' := [(6, .int (nI (i + 1))), (3, .int (nI ((rAcN M.2 (nI uu) i) + 1))), (7, .ref (aAk Ad i)), (5, .int (nI na)), (4, .ref (aA Ad)), (0, .ref d), (1, .int (nI uu)), (2, .int (nI wo))]) hx hb dX6_act_71 hl (k := 2) rfl (nI_1 _) (by decide) rfl (fun ls hl => ?_)
      refine lv_goto (tgt := 30) hx hb dX6_act_74 (by decide) ?_
      have hl := lv_sub hl [0, 3, 4, 1, 5, 6, 7] rfl
      rw [show rAcN M.2 (nI uu) i + 1 = rAcN M.2 (nI uu) (i + 1) from (rAcN_y c_8).symm] at hl
      exact ih_30 _ (by omega) H locs ls ⟨pR (pR U (aAk Ad i) 3 ((B9 i 3) + (nI wo))) (aAk Ad i) 4 1, (u2 (u2 B9 i 3 ((B9 i 3) + (nI wo))) i 4 1), i + 1, rfl, (by omega), dk_10, (hrow.y c_8 hin rfl), hP, hD, hS, hl⟩
    · refine lv_goto (tgt := 71) hx hb dX6_act_52 (by decide) ?_
      refine lv_iinc (v := nI (i + 1)) (lv' := [(6, .int (nI (i + 1))), (7, .ref (aAk Ad i)), (5, .int (nI na)), (4, .ref (aA Ad)), (3, .int (nI (rAcN M.2 (nI uu) i))), (0, .ref d), (1, .int (nI uu)), (2, .int (nI wo))]) hx hb dX6_act_71 hl (k := 1) rfl (nI_1 _) (by decide) rfl (fun ls hl => ?_)
      refine lv_goto (tgt := 30) hx hb dX6_act_74 (by decide) ?_
      have hl := lv_sub hl [0, 2, 3, 4, 5, 6, 7] rfl
      rw [show rAcN M.2 (nI uu) i = rAcN M.2 (nI uu) (i + 1) from (rAcN_n c_8).symm] at hl
      exact ih_30 _ (by omega) H locs ls ⟨U, B9, i + 1, rfl, (by omega), dkU, (hrow.n c_8), hP, hD, hS, hl⟩

set_option maxRecDepth 100000 in
set_option maxHeartbeats 4000000 in
/-- change -/
theorem d_change (l : Launch) (hst : l.stackTraces = false) (D : va_G) (cA : Nat → ClassId) (sz : Nat) (b L : Nat) (xs : Nat → Int32) (hL : L < 2 ^ 31) (T S : Pool) (d x ar ak D0 c0 s0 n0 : Nat) (hD0 : D0 < 900000) (hc0 : c0 < 90000) (hs0 : s0 < 900000) (hJ : J38 d x b ar ak D0 c0 s0 n0 T S) (hn0 : 1 ≤ n0)  : Met l yX6_change (Cond.code yX6_change cX6_change 1 (some .boolean) :: TT) ({ frames := 8, cells := 9, slots := 109, locals := 135 }) (va_Pc [.ref d] (kPreE D cA (PW cA T ++ PW cA S) b L xs sz)) (va_Qi (fun (r_ : Int32) (x_ : Pool × Pool) => r_ = 1 ∧ J38 d x b ar ak (D0 + 9) (c0 + 4) s0 n0 x_.1 x_.2) (fun x_ => kB D cA (va_A (PW cA T ++ PW cA S) sz) (PW cA x_.1 ++ PW cA x_.2)) (va_A (PW cA T ++ PW cA S) sz)) 9 109 (va_A (PW cA T ++ PW cA S) sz) := by
  refine Met.ofW (cc := cX6_change) (maxL := 1) (ret := (some .boolean)) (by decide) rfl ?_
  intro p e s m args below meth c s₁ B hml hv
  obtain ⟨rfl, ⟨⟨hsz, hP, hK, hD0, hTB⟩, hTX⟩, hX, hbl, hbA, hAO⟩ := hv
  have hx := B.exec
  have hb := B.bytes
  have hr := B.returns
  have hts := atoms_spec (ws := Cond.code yX6_change cX6_change 1 (some .boolean) :: TT) B.pre
  have htT : ∀ w ∈ TT, w.before _ s = true := fun w h => hts w (List.mem_cons_of_mem _ h)
  have hown : s.vm.findClass RX6 = some m.cls := findClass_of_methodNamed B.named
  have hlocks := B.notSynchronized
  subst hsz
  have hD := hD0.self (sz := s.heap.size)
  generalize hAe : va_A (PW cA T ++ PW cA S) s.heap.size = A at hD hTX hbA ⊢
  have hA : ∀ q : Nat, s.heap.size ≤ q → A q := fun q h => by rw [← hAe]; exact Or.inr h
  have hS : va_S A s.heap s.heap [] := va_S.rf
  have hl := lv_entry ([.ref d]) (n := 1) (Nat.le_of_ble_eq_true rfl)
  rw [lg_entry_eq]
  generalize (lg_sl ([.ref d]) ++ List.replicate (1 - (lg_sl ([.ref d])).length) Slot.unset).toArray = ls at hl ⊢
  have hl : lv_has ls 1 [(0, .ref d)] := hl
  obtain ⟨n, na, dr, cM, sB, Ad, fF, fO, fW, fC, fR, fB, M, hn9, hdr9, hcM9, hsB9, dk, hvm, gg, hM⟩ := hJ
  have hn8 : n ≤ 8 := dk.n8
  have hna : na ≤ 100 := gg.r.na
  have hdr : fF 2 = nI dr := hvm.f2
  have oF5 : fF 5 = nI n := hvm.f5
  have oF3 : fF 3 = nI cM := hvm.f3.trans hM.1.1
  refine lv_aload_n hx hb dX6_change_0 rfl (lv_at hl 0 rfl) ?_
  refine lv_bipush (v := 10) hx hb dX6_change_1 (by decide) ?_
  refine kc_i (va_runV (As := [.int 10]) (rest := []) ⟨hx, hb, hml, hown, htT⟩ (d_draw l D cA _ (PW cA S) b L xs hL T d x Ad n na fF fO fW fC fR fB dk (dr) hdr (by omega) (10) (by omega) (by omega)) (cwV 1 htT (kg_V m_ml_X6_60 m_im_X6_draw m_sl_X6_draw m_in_X6 m_cd_X6_draw) rfl rfl rfl (by decide +kernel) ⟨Nat.le_of_ble_eq_true rfl, Nat.le_of_ble_eq_true rfl⟩) (kpe_V hK hP hD hTB hTX hX hbl hbA hAO hS hA (kpe_rc hK hP dk.o rfl)) rfl rfl hl.1 rfl (lv_room (Nat.le_of_ble_eq_true rfl)) dX6_change_3 ⟨Nat.le_of_ble_eq_true rfl, Nat.le_of_ble_eq_true rfl⟩) hD hS hA (fun r_1 x_1 H locs hq_1 hP hD hS => ?_)
  obtain ⟨⟨w10, hw10, hr_1⟩, ht_1⟩ := hq_1
  rw [hr_1]
  rw [ht_1] at hP hD
  have dk_2 : DK (pI T d 2 (nI (dr + 1))) d x b Ad (n, na, (upd fF 2 (nI (dr + 1))), fO, fW, fC, fR, fB) := dk.num
  have hJ1 : J38 d x b ar ak (D0 + 1) (c0) (s0) (n0) (pI T d 2 (nI (dr + 1))) (S) := ⟨n, na, dr + 1, cM, sB, _, _, _, _, _, _, _, M, by omega, by omega, by omega, by omega, dk_2, (hvm.draw (d2 := dr + 1)), gg, hM⟩
  rcases (show w10 = 0 ∨ w10 = 1 ∨ w10 = 2 ∨ w10 = 3 ∨ w10 = 4 ∨ w10 = 5 ∨ w10 = 6 ∨ w10 = 7 ∨ w10 = 8 ∨ w10 = 9 by omega) with rfl | rfl | rfl | rfl | rfl | rfl | rfl | rfl | rfl | rfl
  · refine lv_tableIn (off := 50) (tgt := 56) hx hb dX6_change_6 (by decide) (by decide) (by decide) (by decide) ?_
    refine lv_aload_n hx hb dX6_change_56 rfl (lv_at hl 0 rfl) ?_
    refine kc_i (va_runV (As := []) (rest := []) ⟨hx, hb, hml, hown, htT⟩ (d_add l D cA _ b L xs hL (pI T d 2 (nI (dr + 1))) S d x ar ak (D0 + 1) (c0) (s0) (n0) (by omega) (by omega) (by omega) hJ1) (cwV 0 htT (kg_V m_ml_X6_123 m_im_X6_add m_sl_X6_add m_in_X6 m_cd_X6_add) rfl rfl rfl (by decide +kernel) ⟨Nat.le_of_ble_eq_true rfl, Nat.le_of_ble_eq_true rfl⟩) (kpe_V hK hP hD hTB hTX hX hbl hbA hAO hS hA (kpe_rc hK hP (J38.o hJ1) rfl)) rfl rfl hl.1 rfl (lv_room (Nat.le_of_ble_eq_true rfl)) dX6_change_57 ⟨Nat.le_of_ble_eq_true rfl, Nat.le_of_ble_eq_true rfl⟩) hD hS hA (fun r_3 x_3 H locs hq_3 hP hD hS => ?_)
    rw [hq_3.1]
    have hJ_3 : J38 d x b ar ak (D0 + 9) (c0) (s0) (min 8 (n0 + 1)) x_3.1 x_3.2 := hq_3.2
    refine W.widen (k := 9) (n := 109) (Nat.le_of_ble_eq_true rfl) (Nat.le_of_ble_eq_true rfl) ?_
    exact W.zret (v := 1) hx hb hr (rfl) (fun t ht hW => ⟨⟨1, (x_3.1, x_3.2), rfl, ⟨rfl, J38.mono hJ_3 (by omega) (by omega) (by omega) (by omega)⟩, by rw [ht]; exact hP, va_K.moved hW.alike hK, hD⟩, hS.F ht⟩) hS.2.2 dX6_change_60
  · refine lv_tableIn (off := 55) (tgt := 61) hx hb dX6_change_6 (by decide) (by decide) (by decide) (by decide) ?_
    refine lv_aload_n hx hb dX6_change_61 rfl (lv_at hl 0 rfl) ?_
    refine kc_i (va_runV (As := []) (rest := []) ⟨hx, hb, hml, hown, htT⟩ (d_weigh l D cA _ b L xs hL (pI T d 2 (nI (dr + 1))) S d x ar ak (D0 + 1) (c0) (s0) (n0) (by omega) (by omega) (by omega) hJ1 (by omega)) (cwV 0 htT (kg_V m_ml_X6_126 m_im_X6_weigh m_sl_X6_weigh m_in_X6 m_cd_X6_weigh) rfl rfl rfl (by decide +kernel) ⟨Nat.le_of_ble_eq_true rfl, Nat.le_of_ble_eq_true rfl⟩) (kpe_V hK hP hD hTB hTX hX hbl hbA hAO hS hA (kpe_rc hK hP (J38.o hJ1) rfl)) rfl rfl hl.1 rfl (lv_room (Nat.le_of_ble_eq_true rfl)) dX6_change_62 ⟨Nat.le_of_ble_eq_true rfl, Nat.le_of_ble_eq_true rfl⟩) hD hS hA (fun r_4 x_4 H locs hq_4 hP hD hS => ?_)
    rw [hq_4.1]
    have hJ_4 : J38 d x b ar ak (D0 + 9) (c0) (s0) (n0) x_4.1 x_4.2 := hq_4.2
    refine W.widen (k := 9) (n := 109) (Nat.le_of_ble_eq_true rfl) (Nat.le_of_ble_eq_true rfl) ?_
    exact W.zret (v := 1) hx hb hr (rfl) (fun t ht hW => ⟨⟨1, (x_4.1, x_4.2), rfl, ⟨rfl, J38.mono hJ_4 (by omega) (by omega) (by omega) (by omega)⟩, by rw [ht]; exact hP, va_K.moved hW.alike hK, hD⟩, hS.F ht⟩) hS.2.2 dX6_change_65
  · refine lv_tableIn (off := 60) (tgt := 66) hx hb dX6_change_6 (by decide) (by decide) (by decide) (by decide) ?_
    refine lv_aload_n hx hb dX6_change_66 rfl (lv_at hl 0 rfl) ?_
    refine kc_i (va_runV (As := []) (rest := []) ⟨hx, hb, hml, hown, htT⟩ (d_turn l D cA _ b L xs hL (pI T d 2 (nI (dr + 1))) S d x ar ak (D0 + 1) (c0) (s0) (n0) (by omega) (by omega) (by omega) hJ1 (by omega)) (cwV 0 htT (kg_V m_ml_X6_128 m_im_X6_turn m_sl_X6_turn m_in_X6 m_cd_X6_turn) rfl rfl rfl (by decide +kernel) ⟨Nat.le_of_ble_eq_true rfl, Nat.le_of_ble_eq_true rfl⟩) (kpe_V hK hP hD hTB hTX hX hbl hbA hAO hS hA (kpe_rc hK hP (J38.o hJ1) rfl)) rfl rfl hl.1 rfl (lv_room (Nat.le_of_ble_eq_true rfl)) dX6_change_67 ⟨Nat.le_of_ble_eq_true rfl, Nat.le_of_ble_eq_true rfl⟩) hD hS hA (fun r_5 x_5 H locs hq_5 hP hD hS => ?_)
    rw [hq_5.1]
    have hJ_5 : J38 d x b ar ak (D0 + 9) (c0) (s0) (n0) x_5.1 x_5.2 := hq_5.2
    refine W.widen (k := 9) (n := 109) (Nat.le_of_ble_eq_true rfl) (Nat.le_of_ble_eq_true rfl) ?_
    exact W.zret (v := 1) hx hb hr (rfl) (fun t ht hW => ⟨⟨1, (x_5.1, x_5.2), rfl, ⟨rfl, J38.mono hJ_5 (by omega) (by omega) (by omega) (by omega)⟩, by rw [ht]; exact hP, va_K.moved hW.alike hK, hD⟩, hS.F ht⟩) hS.2.2 dX6_change_70
  · refine lv_tableIn (off := 65) (tgt := 71) hx hb dX6_change_6 (by decide) (by decide) (by decide) (by decide) ?_
    refine lv_aload_n hx hb dX6_change_71 rfl (lv_at hl 0 rfl) ?_
    refine kc_i (va_runV (As := []) (rest := []) ⟨hx, hb, hml, hown, htT⟩ (d_ramp l D cA _ b L xs hL (pI T d 2 (nI (dr + 1))) S d x ar ak (D0 + 1) (c0) (s0) (n0) (by omega) (by omega) (by omega) hJ1 (by omega)) (cwV 0 htT (kg_V m_ml_X6_132 m_im_X6_ramp m_sl_X6_ramp m_in_X6 m_cd_X6_ramp) rfl rfl rfl (by decide +kernel) ⟨Nat.le_of_ble_eq_true rfl, Nat.le_of_ble_eq_true rfl⟩) (kpe_V hK hP hD hTB hTX hX hbl hbA hAO hS hA (kpe_rc hK hP (J38.o hJ1) rfl)) rfl rfl hl.1 rfl (lv_room (Nat.le_of_ble_eq_true rfl)) dX6_change_72 ⟨Nat.le_of_ble_eq_true rfl, Nat.le_of_ble_eq_true rfl⟩) hD hS hA (fun r_6 x_6 H locs hq_6 hP hD hS => ?_)
    rw [hq_6.1]
    have hJ_6 : J38 d x b ar ak (D0 + 9) (c0) (s0) (n0) x_6.1 x_6.2 := hq_6.2
    refine W.widen (k := 9) (n := 109) (Nat.le_of_ble_eq_true rfl) (Nat.le_of_ble_eq_true rfl) ?_
    exact W.zret (v := 1) hx hb hr (rfl) (fun t ht hW => ⟨⟨1, (x_6.1, x_6.2), rfl, ⟨rfl, J38.mono hJ_6 (by omega) (by omega) (by omega) (by omega)⟩, by rw [ht]; exact hP, va_K.moved hW.alike hK, hD⟩, hS.F ht⟩) hS.2.2 dX6_change_75
  · refine lv_tableIn (off := 70) (tgt := 76) hx hb dX6_change_6 (by decide) (by decide) (by decide) (by decide) ?_
    refine lv_aload_n hx hb dX6_change_76 rfl (lv_at hl 0 rfl) ?_
    refine kc_i (vx_runVW (As := []) (rest := []) ⟨hx, hb, hml, hown, htT⟩ (d_place l hst D cA _ b L xs hL (pI T d 2 (nI (dr + 1))) S d x ar ak (D0 + 1) (c0) (s0) (n0) (by omega) (by omega) (by omega) hJ1 (by omega)) (vx_cwVW 0 htT (kg_V m_ml_X6_136 m_im_X6_place m_sl_X6_place m_in_X6 m_cd_X6_place) rfl rfl rfl (by decide +kernel) ⟨Nat.le_of_ble_eq_true rfl, Nat.le_of_ble_eq_true rfl⟩) (kpe_V hK hP hD hTB hTX hX hbl hbA hAO hS hA (kpe_rc hK hP (J38.o hJ1) rfl)) rfl rfl hl.1 rfl (lv_room (Nat.le_of_ble_eq_true rfl)) dX6_change_77 ⟨Nat.le_of_ble_eq_true rfl, Nat.le_of_ble_eq_true rfl⟩) hD hS hA (fun r_7 x_7 H locs hq_7 hP hD hS => ?_)
    rw [hq_7.1]
    have hJ_7 : J38 d x b ar ak (D0 + 9) (c0) (s0) (n0) x_7.1 x_7.2 := hq_7.2
    refine W.widen (k := 9) (n := 109) (Nat.le_of_ble_eq_true rfl) (Nat.le_of_ble_eq_true rfl) ?_
    exact W.zret (v := 1) hx hb hr (rfl) (fun t ht hW => ⟨⟨1, (x_7.1, x_7.2), rfl, ⟨rfl, J38.mono hJ_7 (by omega) (by omega) (by omega) (by omega)⟩, by rw [ht]; exact hP, va_K.moved hW.alike hK, hD⟩, hS.F ht⟩) hS.2.2 dX6_change_80
  · refine lv_tableIn (off := 75) (tgt := 81) hx hb dX6_change_6 (by decide) (by decide) (by decide) (by decide) ?_
    refine lv_aload_n hx hb dX6_change_81 rfl (lv_at hl 0 rfl) ?_
    refine kc_i (va_runV (As := []) (rest := []) ⟨hx, hb, hml, hown, htT⟩ (d_need l D cA _ b L xs hL (pI T d 2 (nI (dr + 1))) S d x ar ak (D0 + 1) (c0) (s0) (n0) (by omega) (by omega) (by omega) hJ1 (by omega)) (cwV 0 htT (kg_V m_ml_X6_134 m_im_X6_need m_sl_X6_need m_in_X6 m_cd_X6_need) rfl rfl rfl (by decide +kernel) ⟨Nat.le_of_ble_eq_true rfl, Nat.le_of_ble_eq_true rfl⟩) (kpe_V hK hP hD hTB hTX hX hbl hbA hAO hS hA (kpe_rc hK hP (J38.o hJ1) rfl)) rfl rfl hl.1 rfl (lv_room (Nat.le_of_ble_eq_true rfl)) dX6_change_82 ⟨Nat.le_of_ble_eq_true rfl, Nat.le_of_ble_eq_true rfl⟩) hD hS hA (fun r_8 x_8 H locs hq_8 hP hD hS => ?_)
    rw [hq_8.1]
    have hJ_8 : J38 d x b ar ak (D0 + 9) (c0) (s0) (n0) x_8.1 x_8.2 := hq_8.2
    refine W.widen (k := 9) (n := 109) (Nat.le_of_ble_eq_true rfl) (Nat.le_of_ble_eq_true rfl) ?_
    exact W.zret (v := 1) hx hb hr (rfl) (fun t ht hW => ⟨⟨1, (x_8.1, x_8.2), rfl, ⟨rfl, J38.mono hJ_8 (by omega) (by omega) (by omega) (by omega)⟩, by rw [ht]; exact hP, va_K.moved hW.alike hK, hD⟩, hS.F ht⟩) hS.2.2 dX6_change_85
  · refine lv_tableIn (off := 80) (tgt := 86) hx hb dX6_change_6 (by decide) (by decide) (by decide) (by decide) ?_
    refine lv_aload_n hx hb dX6_change_86 rfl (lv_at hl 0 rfl) ?_
    refine kc_i (va_runV (As := []) (rest := []) ⟨hx, hb, hml, hown, htT⟩ (d_rule l D cA _ b L xs hL (pI T d 2 (nI (dr + 1))) S d x ar ak (D0 + 1) (c0) (s0) (n0) (by omega) (by omega) (by omega) hJ1 (by omega)) (cwV 0 htT (kg_V m_ml_X6_130 m_im_X6_rule m_sl_X6_rule m_in_X6 m_cd_X6_rule) rfl rfl rfl (by decide +kernel) ⟨Nat.le_of_ble_eq_true rfl, Nat.le_of_ble_eq_true rfl⟩) (kpe_V hK hP hD hTB hTX hX hbl hbA hAO hS hA (kpe_rc hK hP (J38.o hJ1) rfl)) rfl rfl hl.1 rfl (lv_room (Nat.le_of_ble_eq_true rfl)) dX6_change_87 ⟨Nat.le_of_ble_eq_true rfl, Nat.le_of_ble_eq_true rfl⟩) hD hS hA (fun r_9 x_9 H locs hq_9 hP hD hS => ?_)
    rw [hq_9.1]
    have hJ_9 : J38 d x b ar ak (D0 + 9) (c0) (s0) (n0) x_9.1 x_9.2 := hq_9.2
    refine W.widen (k := 9) (n := 109) (Nat.le_of_ble_eq_true rfl) (Nat.le_of_ble_eq_true rfl) ?_
    exact W.zret (v := 1) hx hb hr (rfl) (fun t ht hW => ⟨⟨1, (x_9.1, x_9.2), rfl, ⟨rfl, J38.mono hJ_9 (by omega) (by omega) (by omega) (by omega)⟩, by rw [ht]; exact hP, va_K.moved hW.alike hK, hD⟩, hS.F ht⟩) hS.2.2 dX6_change_90
  · refine lv_tableIn (off := 85) (tgt := 91) hx hb dX6_change_6 (by decide) (by decide) (by decide) (by decide) ?_
    refine lv_aload_n hx hb dX6_change_91 rfl (lv_at hl 0 rfl) ?_
    refine kc_i (va_runV (As := []) (rest := []) ⟨hx, hb, hml, hown, htT⟩ (d_unrule l D cA _ b L xs hL (pI T d 2 (nI (dr + 1))) S d x ar ak (D0 + 1) (c0) (s0) (n0) (by omega) (by omega) (by omega) hJ1 (by omega)) (cwV 0 htT (kg_V m_ml_X6_140 m_im_X6_unrule m_sl_X6_unrule m_in_X6 m_cd_X6_unrule) rfl rfl rfl (by decide +kernel) ⟨Nat.le_of_ble_eq_true rfl, Nat.le_of_ble_eq_true rfl⟩) (kpe_V hK hP hD hTB hTX hX hbl hbA hAO hS hA (kpe_rc hK hP (J38.o hJ1) rfl)) rfl rfl hl.1 rfl (lv_room (Nat.le_of_ble_eq_true rfl)) dX6_change_92 ⟨Nat.le_of_ble_eq_true rfl, Nat.le_of_ble_eq_true rfl⟩) hD hS hA (fun r_10 x_10 H locs hq_10 hP hD hS => ?_)
    rw [hq_10.1]
    have hJ_10 : J38 d x b ar ak (D0 + 9) (c0) (s0) (n0) x_10.1 x_10.2 := hq_10.2
    refine W.widen (k := 9) (n := 109) (Nat.le_of_ble_eq_true rfl) (Nat.le_of_ble_eq_true rfl) ?_
    exact W.zret (v := 1) hx hb hr (rfl) (fun t ht hW => ⟨⟨1, (x_10.1, x_10.2), rfl, ⟨rfl, J38.mono hJ_10 (by omega) (by omega) (by omega) (by omega)⟩, by rw [ht]; exact hP, va_K.moved hW.alike hK, hD⟩, hS.F ht⟩) hS.2.2 dX6_change_95
  · refine lv_tableIn (off := 90) (tgt := 96) hx hb dX6_change_6 (by decide) (by decide) (by decide) (by decide) ?_
    refine lv_aload_n hx hb dX6_change_96 rfl (lv_at hl 0 rfl) ?_
    refine kc_i (va_runV (As := []) (rest := []) ⟨hx, hb, hml, hown, htT⟩ (d_hold l D cA _ b L xs hL (pI T d 2 (nI (dr + 1))) S d x ar ak (D0 + 1) (c0) (s0) (n0) (by omega) (by omega) (by omega) hJ1 (by omega)) (cwV 0 htT (kg_V m_ml_X6_138 m_im_X6_hold m_sl_X6_hold m_in_X6 m_cd_X6_hold) rfl rfl rfl (by decide +kernel) ⟨Nat.le_of_ble_eq_true rfl, Nat.le_of_ble_eq_true rfl⟩) (kpe_V hK hP hD hTB hTX hX hbl hbA hAO hS hA (kpe_rc hK hP (J38.o hJ1) rfl)) rfl rfl hl.1 rfl (lv_room (Nat.le_of_ble_eq_true rfl)) dX6_change_97 ⟨Nat.le_of_ble_eq_true rfl, Nat.le_of_ble_eq_true rfl⟩) hD hS hA (fun r_11 x_11 H locs hq_11 hP hD hS => ?_)
    rw [hq_11.1]
    have hJ_11 : J38 d x b ar ak (D0 + 9) (c0) (s0) (n0) x_11.1 x_11.2 := hq_11.2
    refine W.widen (k := 9) (n := 109) (Nat.le_of_ble_eq_true rfl) (Nat.le_of_ble_eq_true rfl) ?_
    exact W.zret (v := 1) hx hb hr (rfl) (fun t ht hW => ⟨⟨1, (x_11.1, x_11.2), rfl, ⟨rfl, J38.mono hJ_11 (by omega) (by omega) (by omega) (by omega)⟩, by rw [ht]; exact hP, va_K.moved hW.alike hK, hD⟩, hS.F ht⟩) hS.2.2 dX6_change_100
  · refine lv_tableOut (tgt := 101) hx hb dX6_change_6 (by decide) (by decide) ?_
    refine lv_aload_n hx hb dX6_change_101 rfl (lv_at hl 0 rfl) ?_
    refine kc_i (va_runV (As := []) (rest := []) ⟨hx, hb, hml, hown, htT⟩ (d_goOn l D cA _ b L xs hL (pI T d 2 (nI (dr + 1))) S d x ar ak (D0 + 1) (c0) (s0) (n0) (by omega) (by omega) (by omega) hJ1 (by omega)) (cwV 0 htT (kg_V m_ml_X6_142 m_im_X6_goOn m_sl_X6_goOn m_in_X6 m_cd_X6_goOn) rfl rfl rfl (by decide +kernel) ⟨Nat.le_of_ble_eq_true rfl, Nat.le_of_ble_eq_true rfl⟩) (kpe_V hK hP hD hTB hTX hX hbl hbA hAO hS hA (kpe_rc hK hP (J38.o hJ1) rfl)) rfl rfl hl.1 rfl (lv_room (Nat.le_of_ble_eq_true rfl)) dX6_change_102 ⟨Nat.le_of_ble_eq_true rfl, Nat.le_of_ble_eq_true rfl⟩) hD hS hA (fun r_12 x_12 H locs hq_12 hP hD hS => ?_)
    rw [hq_12.1]
    have hJ_12 : J38 d x b ar ak (D0 + 9) (c0 + 4) (s0) (n0) x_12.1 x_12.2 := hq_12.2
    refine W.widen (k := 9) (n := 109) (Nat.le_of_ble_eq_true rfl) (Nat.le_of_ble_eq_true rfl) ?_
    exact W.zret (v := 1) hx hb hr (rfl) (fun t ht hW => ⟨⟨1, (x_12.1, x_12.2), rfl, ⟨rfl, J38.mono hJ_12 (by omega) (by omega) (by omega) (by omega)⟩, by rw [ht]; exact hP, va_K.moved hW.alike hK, hD⟩, hS.F ht⟩) hS.2.2 dX6_change_105

set_option maxRecDepth 100000 in
set_option maxHeartbeats 4000000 in
/-- found -/
theorem d_found (l : Launch) (hst : l.stackTraces = false) (D : va_G) (cA : Nat → ClassId) (sz : Nat) (b L : Nat) (xs : Nat → Int32) (hL : L < 2 ^ 31) (T S : Pool) (d x ar ak D0 c0 s0 : Nat) (hD0 : D0 < 900000) (hc0 : c0 < 90000) (hs0 : s0 < 900000) (hJ : J38 d x b ar ak D0 c0 s0 0 T S)  : Met l yX6_found (Cond.code yX6_found cX6_found 2 (some .boolean) :: TT) ({ frames := 8, cells := 47, slots := 579, locals := 135 }) (va_Pc [.ref d] (kPreE D cA (PW cA T ++ PW cA S) b L xs sz)) (va_Qi (fun (r_ : Int32) (x_ : Pool × Pool) => r_ = 1 ∧ J38 d x b ar ak (D0 + 300) c0 s0 4 x_.1 x_.2) (fun x_ => kB D cA (va_A (PW cA T ++ PW cA S) sz) (PW cA x_.1 ++ PW cA x_.2)) (va_A (PW cA T ++ PW cA S) sz)) 47 579 (va_A (PW cA T ++ PW cA S) sz) := by
  refine Met.ofW (cc := cX6_found) (maxL := 2) (ret := (some .boolean)) (by decide) rfl ?_
  intro p e s m args below meth c s₁ B hml hv
  obtain ⟨rfl, ⟨⟨hsz, hP, hK, hD0, hTB⟩, hTX⟩, hX, hbl, hbA, hAO⟩ := hv
  have hx := B.exec
  have hb := B.bytes
  have hr := B.returns
  have hts := atoms_spec (ws := Cond.code yX6_found cX6_found 2 (some .boolean) :: TT) B.pre
  have htT : ∀ w ∈ TT, w.before _ s = true := fun w h => hts w (List.mem_cons_of_mem _ h)
  have hown : s.vm.findClass RX6 = some m.cls := findClass_of_methodNamed B.named
  have hlocks := B.notSynchronized
  subst hsz
  have hD := hD0.self (sz := s.heap.size)
  generalize hAe : va_A (PW cA T ++ PW cA S) s.heap.size = A at hD hTX hbA ⊢
  have hA : ∀ q : Nat, s.heap.size ≤ q → A q := fun q h => by rw [← hAe]; exact Or.inr h
  have hS : va_S A s.heap s.heap [] := va_S.rf
  have hl := lv_entry ([.ref d]) (n := 2) (Nat.le_of_ble_eq_true rfl)
  rw [lg_entry_eq]
  generalize (lg_sl ([.ref d]) ++ List.replicate (2 - (lg_sl ([.ref d])).length) Slot.unset).toArray = ls at hl ⊢
  have hl : lv_has ls 2 [(0, .ref d)] := hl
  refine lv_iconst (v := 0) hx hb dX6_found_0 (by decide) ?_
  refine lv_istore_n (lv' := [(1, .int 0), (0, .ref d)]) hx hb dX6_found_1 rfl hl (by decide) rfl (fun ls hl => ?_)
  refine lv_iload_n hx hb dX6_found_2 rfl (lv_at hl 0 rfl) ?_
  refine lv_iconst (v := 4) hx hb dX6_found_3 (by decide) ?_
  refine lv_icmp_ge (tgt := 22) hx hb dX6_found_4 (by decide) (fun c_1 => absurd c_1 (by decide)) (fun _ => ?_)
  refine lv_aload_n hx hb dX6_found_7 rfl (lv_at hl 1 rfl) ?_
  refine kc_i (va_runV (As := []) (rest := []) ⟨hx, hb, hml, hown, htT⟩ (d_add l D cA _ b L xs hL T S d x ar ak (D0) (c0) (s0) (0) (by omega) (by omega) (by omega) hJ) (cwV 0 htT (kg_V m_ml_X6_123 m_im_X6_add m_sl_X6_add m_in_X6 m_cd_X6_add) rfl rfl rfl (by decide +kernel) ⟨Nat.le_of_ble_eq_true rfl, Nat.le_of_ble_eq_true rfl⟩) (kpe_V hK hP hD hTB hTX hX hbl hbA hAO hS hA (kpe_rc hK hP (J38.o hJ) rfl)) rfl rfl hl.1 rfl (lv_room (Nat.le_of_ble_eq_true rfl)) dX6_found_8 ⟨Nat.le_of_ble_eq_true rfl, Nat.le_of_ble_eq_true rfl⟩) hD hS hA (fun r_2 x_2 H locs hq_2 hP hD hS => ?_)
  rw [hq_2.1]
  have hJ_2 : J38 d x b ar ak (D0 + 8) (c0) (s0) (min 8 (0 + 1)) x_2.1 x_2.2 := hq_2.2
  refine lv_if_ne (tgt := 16) hx hb dX6_found_11 (by decide) (fun _ => ?_) (fun c_3 => absurd c_3 (by decide))
  refine lv_iinc (v := 1) (lv' := [(1, .int 1), (0, .ref d)]) hx hb dX6_found_16 hl (k := 0) rfl (by decide) (by decide) rfl (fun ls hl => ?_)
  refine lv_goto (tgt := 2) hx hb dX6_found_19 (by decide) ?_
  refine lv_iload_n hx hb dX6_found_2 rfl (lv_at hl 0 rfl) ?_
  refine lv_iconst (v := 4) hx hb dX6_found_3 (by decide) ?_
  refine lv_icmp_ge (tgt := 22) hx hb dX6_found_4 (by decide) (fun c_4 => absurd c_4 (by decide)) (fun _ => ?_)
  refine lv_aload_n hx hb dX6_found_7 rfl (lv_at hl 1 rfl) ?_
  refine kc_i (va_runV (As := []) (rest := []) ⟨hx, hb, hml, hown, htT⟩ (d_add l D cA _ b L xs hL x_2.1 x_2.2 d x ar ak (D0 + 8) (c0) (s0) (min 8 (0 + 1)) (by omega) (by omega) (by omega) hJ_2) (cwV 0 htT (kg_V m_ml_X6_123 m_im_X6_add m_sl_X6_add m_in_X6 m_cd_X6_add) rfl rfl rfl (by decide +kernel) ⟨Nat.le_of_ble_eq_true rfl, Nat.le_of_ble_eq_true rfl⟩) (kpe_V hK hP hD hTB hTX hX hbl hbA hAO hS hA (kpe_rc hK hP (J38.o hJ_2) rfl)) rfl rfl hl.1 rfl (lv_room (Nat.le_of_ble_eq_true rfl)) dX6_found_8 ⟨Nat.le_of_ble_eq_true rfl, Nat.le_of_ble_eq_true rfl⟩) hD hS hA (fun r_5 x_5 H locs hq_5 hP hD hS => ?_)
  rw [hq_5.1]
  have hJ_5 : J38 d x b ar ak (D0 + 16) (c0) (s0) (min 8 (min 8 (0 + 1) + 1)) x_5.1 x_5.2 := hq_5.2
  refine lv_if_ne (tgt := 16) hx hb dX6_found_11 (by decide) (fun _ => ?_) (fun c_6 => absurd c_6 (by decide))
  refine lv_iinc (v := 2) (lv' := [(1, .int 2), (0, .ref d)]) hx hb dX6_found_16 hl (k := 0) rfl (by decide) (by decide) rfl (fun ls hl => ?_)
  refine lv_goto (tgt := 2) hx hb dX6_found_19 (by decide) ?_
  refine lv_iload_n hx hb dX6_found_2 rfl (lv_at hl 0 rfl) ?_
  refine lv_iconst (v := 4) hx hb dX6_found_3 (by decide) ?_
  refine lv_icmp_ge (tgt := 22) hx hb dX6_found_4 (by decide) (fun c_7 => absurd c_7 (by decide)) (fun _ => ?_)
  refine lv_aload_n hx hb dX6_found_7 rfl (lv_at hl 1 rfl) ?_
  refine kc_i (va_runV (As := []) (rest := []) ⟨hx, hb, hml, hown, htT⟩ (d_add l D cA _ b L xs hL x_5.1 x_5.2 d x ar ak (D0 + 16) (c0) (s0) (min 8 (min 8 (0 + 1) + 1)) (by omega) (by omega) (by omega) hJ_5) (cwV 0 htT (kg_V m_ml_X6_123 m_im_X6_add m_sl_X6_add m_in_X6 m_cd_X6_add) rfl rfl rfl (by decide +kernel) ⟨Nat.le_of_ble_eq_true rfl, Nat.le_of_ble_eq_true rfl⟩) (kpe_V hK hP hD hTB hTX hX hbl hbA hAO hS hA (kpe_rc hK hP (J38.o hJ_5) rfl)) rfl rfl hl.1 rfl (lv_room (Nat.le_of_ble_eq_true rfl)) dX6_found_8 ⟨Nat.le_of_ble_eq_true rfl, Nat.le_of_ble_eq_true rfl⟩) hD hS hA (fun r_8 x_8 H locs hq_8 hP hD hS => ?_)
  rw [hq_8.1]
  have hJ_8 : J38 d x b ar ak (D0 + 24) (c0) (s0) (min 8 (min 8 (min 8 (0 + 1) + 1) + 1)) x_8.1 x_8.2 := hq_8.2
  refine lv_if_ne (tgt := 16) hx hb dX6_found_11 (by decide) (fun _ => ?_) (fun c_9 => absurd c_9 (by decide))
  refine lv_iinc (v := 3) (lv' := [(1, .int 3), (0, .ref d)]) hx hb dX6_found_16 hl (k := 0) rfl (by decide) (by decide) rfl (fun ls hl => ?_)
  refine lv_goto (tgt := 2) hx hb dX6_found_19 (by decide) ?_
  refine lv_iload_n hx hb dX6_found_2 rfl (lv_at hl 0 rfl) ?_
  refine lv_iconst (v := 4) hx hb dX6_found_3 (by decide) ?_
  refine lv_icmp_ge (tgt := 22) hx hb dX6_found_4 (by decide) (fun c_10 => absurd c_10 (by decide)) (fun _ => ?_)
  refine lv_aload_n hx hb dX6_found_7 rfl (lv_at hl 1 rfl) ?_
  refine kc_i (va_runV (As := []) (rest := []) ⟨hx, hb, hml, hown, htT⟩ (d_add l D cA _ b L xs hL x_8.1 x_8.2 d x ar ak (D0 + 24) (c0) (s0) (min 8 (min 8 (min 8 (0 + 1) + 1) + 1)) (by omega) (by omega) (by omega) hJ_8) (cwV 0 htT (kg_V m_ml_X6_123 m_im_X6_add m_sl_X6_add m_in_X6 m_cd_X6_add) rfl rfl rfl (by decide +kernel) ⟨Nat.le_of_ble_eq_true rfl, Nat.le_of_ble_eq_true rfl⟩) (kpe_V hK hP hD hTB hTX hX hbl hbA hAO hS hA (kpe_rc hK hP (J38.o hJ_8) rfl)) rfl rfl hl.1 rfl (lv_room (Nat.le_of_ble_eq_true rfl)) dX6_found_8 ⟨Nat.le_of_ble_eq_true rfl, Nat.le_of_ble_eq_true rfl⟩) hD hS hA (fun r_11 x_11 H locs hq_11 hP hD hS => ?_)
  rw [hq_11.1]
  have hJ_11 : J38 d x b ar ak (D0 + 32) (c0) (s0) (min 8 (min 8 (min 8 (min 8 (0 + 1) + 1) + 1) + 1)) x_11.1 x_11.2 := hq_11.2
  refine lv_if_ne (tgt := 16) hx hb dX6_found_11 (by decide) (fun _ => ?_) (fun c_12 => absurd c_12 (by decide))
  refine lv_iinc (v := 4) (lv' := [(1, .int 4), (0, .ref d)]) hx hb dX6_found_16 hl (k := 0) rfl (by decide) (by decide) rfl (fun ls hl => ?_)
  refine lv_goto (tgt := 2) hx hb dX6_found_19 (by decide) ?_
  refine lv_iload_n hx hb dX6_found_2 rfl (lv_at hl 0 rfl) ?_
  refine lv_iconst (v := 4) hx hb dX6_found_3 (by decide) ?_
  refine lv_icmp_ge (tgt := 22) hx hb dX6_found_4 (by decide) (fun _ => ?_) (fun c_13 => absurd c_13 (by decide))
  have hJ4 : J38 d x b ar ak (D0 + 32) (c0) (s0) 4 x_11.1 x_11.2 := J38.mono hJ_11 (by omega) (by omega) (by omega) (by omega)
  refine lv_iconst (v := 0) hx hb dX6_found_22 (by decide) ?_
  refine lv_istore_n (lv' := [(1, .int 0), (0, .ref d)]) hx hb dX6_found_23 rfl hl (by decide) rfl (fun ls hl => ?_)
  refine lv_iload_n hx hb dX6_found_24 rfl (lv_at hl 0 rfl) ?_
  refine lv_bipush (v := 6) hx hb dX6_found_25 (by decide) ?_
  refine lv_icmp_ge (tgt := 83) hx hb dX6_found_27 (by decide) (fun c_14 => absurd c_14 (by decide)) (fun _ => ?_)
  refine lv_aload_n hx hb dX6_found_30 rfl (lv_at hl 1 rfl) ?_
  refine kc_i (va_runV (As := []) (rest := []) ⟨hx, hb, hml, hown, htT⟩ (d_weigh l D cA _ b L xs hL x_11.1 x_11.2 d x ar ak (D0 + 32) (c0) (s0) (4) (by omega) (by omega) (by omega) hJ4 (by omega)) (cwV 0 htT (kg_V m_ml_X6_126 m_im_X6_weigh m_sl_X6_weigh m_in_X6 m_cd_X6_weigh) rfl rfl rfl (by decide +kernel) ⟨Nat.le_of_ble_eq_true rfl, Nat.le_of_ble_eq_true rfl⟩) (kpe_V hK hP hD hTB hTX hX hbl hbA hAO hS hA (kpe_rc hK hP (J38.o hJ4) rfl)) rfl rfl hl.1 rfl (lv_room (Nat.le_of_ble_eq_true rfl)) dX6_found_31 ⟨Nat.le_of_ble_eq_true rfl, Nat.le_of_ble_eq_true rfl⟩) hD hS hA (fun r_15 x_15 H locs hq_15 hP hD hS => ?_)
  rw [hq_15.1]
  have hJ_15 : J38 d x b ar ak (D0 + 40) (c0) (s0) (4) x_15.1 x_15.2 := hq_15.2
  refine lv_if_eq (tgt := 75) hx hb dX6_found_34 (by decide) (fun c_16 => absurd c_16 (by decide)) (fun _ => ?_)
  refine lv_aload_n hx hb dX6_found_37 rfl (lv_at hl 1 rfl) ?_
  refine kc_i (va_runV (As := []) (rest := []) ⟨hx, hb, hml, hown, htT⟩ (d_turn l D cA _ b L xs hL x_15.1 x_15.2 d x ar ak (D0 + 40) (c0) (s0) (4) (by omega) (by omega) (by omega) hJ_15 (by omega)) (cwV 0 htT (kg_V m_ml_X6_128 m_im_X6_turn m_sl_X6_turn m_in_X6 m_cd_X6_turn) rfl rfl rfl (by decide +kernel) ⟨Nat.le_of_ble_eq_true rfl, Nat.le_of_ble_eq_true rfl⟩) (kpe_V hK hP hD hTB hTX hX hbl hbA hAO hS hA (kpe_rc hK hP (J38.o hJ_15) rfl)) rfl rfl hl.1 rfl (lv_room (Nat.le_of_ble_eq_true rfl)) dX6_found_38 ⟨Nat.le_of_ble_eq_true rfl, Nat.le_of_ble_eq_true rfl⟩) hD hS hA (fun r_17 x_17 H locs hq_17 hP hD hS => ?_)
  rw [hq_17.1]
  have hJ_17 : J38 d x b ar ak (D0 + 48) (c0) (s0) (4) x_17.1 x_17.2 := hq_17.2
  refine lv_if_eq (tgt := 75) hx hb dX6_found_41 (by decide) (fun c_18 => absurd c_18 (by decide)) (fun _ => ?_)
  refine lv_iload_n hx hb dX6_found_44 rfl (lv_at hl 0 rfl) ?_
  refine lv_iconst (v := 3) hx hb dX6_found_45 (by decide) ?_
  refine lv_icmp_ge (tgt := 56) hx hb dX6_found_46 (by decide) (fun c_19 => absurd c_19 (by decide)) (fun _ => ?_)
  refine lv_aload_n hx hb dX6_found_49 rfl (lv_at hl 1 rfl) ?_
  refine kc_i (va_runV (As := []) (rest := []) ⟨hx, hb, hml, hown, htT⟩ (d_rule l D cA _ b L xs hL x_17.1 x_17.2 d x ar ak (D0 + 48) (c0) (s0) (4) (by omega) (by omega) (by omega) hJ_17 (by omega)) (cwV 0 htT (kg_V m_ml_X6_130 m_im_X6_rule m_sl_X6_rule m_in_X6 m_cd_X6_rule) rfl rfl rfl (by decide +kernel) ⟨Nat.le_of_ble_eq_true rfl, Nat.le_of_ble_eq_true rfl⟩) (kpe_V hK hP hD hTB hTX hX hbl hbA hAO hS hA (kpe_rc hK hP (J38.o hJ_17) rfl)) rfl rfl hl.1 rfl (lv_room (Nat.le_of_ble_eq_true rfl)) dX6_found_50 ⟨Nat.le_of_ble_eq_true rfl, Nat.le_of_ble_eq_true rfl⟩) hD hS hA (fun r_20 x_20 H locs hq_20 hP hD hS => ?_)
  rw [hq_20.1]
  have hJ_20 : J38 d x b ar ak (D0 + 56) (c0) (s0) (4) x_20.1 x_20.2 := hq_20.2
  refine lv_if_eq (tgt := 75) hx hb dX6_found_53 (by decide) (fun c_21 => absurd c_21 (by decide)) (fun _ => ?_)
  refine lv_iload_n hx hb dX6_found_56 rfl (lv_at hl 0 rfl) ?_
  refine lv_iconst (v := 2) hx hb dX6_found_57 (by decide) ?_
  refine lv_icmp_ge (tgt := 77) hx hb dX6_found_58 (by decide) (fun c_22 => absurd c_22 (by decide)) (fun _ => ?_)
  refine lv_aload_n hx hb dX6_found_61 rfl (lv_at hl 1 rfl) ?_
  refine kc_i (va_runV (As := []) (rest := []) ⟨hx, hb, hml, hown, htT⟩ (d_ramp l D cA _ b L xs hL x_20.1 x_20.2 d x ar ak (D0 + 56) (c0) (s0) (4) (by omega) (by omega) (by omega) hJ_20 (by omega)) (cwV 0 htT (kg_V m_ml_X6_132 m_im_X6_ramp m_sl_X6_ramp m_in_X6 m_cd_X6_ramp) rfl rfl rfl (by decide +kernel) ⟨Nat.le_of_ble_eq_true rfl, Nat.le_of_ble_eq_true rfl⟩) (kpe_V hK hP hD hTB hTX hX hbl hbA hAO hS hA (kpe_rc hK hP (J38.o hJ_20) rfl)) rfl rfl hl.1 rfl (lv_room (Nat.le_of_ble_eq_true rfl)) dX6_found_62 ⟨Nat.le_of_ble_eq_true rfl, Nat.le_of_ble_eq_true rfl⟩) hD hS hA (fun r_23 x_23 H locs hq_23 hP hD hS => ?_)
  rw [hq_23.1]
  have hJ_23 : J38 d x b ar ak (D0 + 64) (c0) (s0) (4) x_23.1 x_23.2 := hq_23.2
  refine lv_if_eq (tgt := 75) hx hb dX6_found_65 (by decide) (fun c_24 => absurd c_24 (by decide)) (fun _ => ?_)
  refine lv_aload_n hx hb dX6_found_68 rfl (lv_at hl 1 rfl) ?_
  refine kc_i (va_runV (As := []) (rest := []) ⟨hx, hb, hml, hown, htT⟩ (d_need l D cA _ b L xs hL x_23.1 x_23.2 d x ar ak (D0 + 64) (c0) (s0) (4) (by omega) (by omega) (by omega) hJ_23 (by omega)) (cwV 0 htT (kg_V m_ml_X6_134 m_im_X6_need m_sl_X6_need m_in_X6 m_cd_X6_need) rfl rfl rfl (by decide +kernel) ⟨Nat.le_of_ble_eq_true rfl, Nat.le_of_ble_eq_true rfl⟩) (kpe_V hK hP hD hTB hTX hX hbl hbA hAO hS hA (kpe_rc hK hP (J38.o hJ_23) rfl)) rfl rfl hl.1 rfl (lv_room (Nat.le_of_ble_eq_true rfl)) dX6_found_69 ⟨Nat.le_of_ble_eq_true rfl, Nat.le_of_ble_eq_true rfl⟩) hD hS hA (fun r_25 x_25 H locs hq_25 hP hD hS => ?_)
  rw [hq_25.1]
  have hJ_25 : J38 d x b ar ak (D0 + 72) (c0) (s0) (4) x_25.1 x_25.2 := hq_25.2
  refine lv_if_ne (tgt := 77) hx hb dX6_found_72 (by decide) (fun _ => ?_) (fun c_26 => absurd c_26 (by decide))
  refine lv_iinc (v := 1) (lv' := [(1, .int 1), (0, .ref d)]) hx hb dX6_found_77 hl (k := 0) rfl (by decide) (by decide) rfl (fun ls hl => ?_)
  refine lv_goto (tgt := 24) hx hb dX6_found_80 (by decide) ?_
  refine lv_iload_n hx hb dX6_found_24 rfl (lv_at hl 0 rfl) ?_
  refine lv_bipush (v := 6) hx hb dX6_found_25 (by decide) ?_
  refine lv_icmp_ge (tgt := 83) hx hb dX6_found_27 (by decide) (fun c_27 => absurd c_27 (by decide)) (fun _ => ?_)
  refine lv_aload_n hx hb dX6_found_30 rfl (lv_at hl 1 rfl) ?_
  refine kc_i (va_runV (As := []) (rest := []) ⟨hx, hb, hml, hown, htT⟩ (d_weigh l D cA _ b L xs hL x_25.1 x_25.2 d x ar ak (D0 + 72) (c0) (s0) (4) (by omega) (by omega) (by omega) hJ_25 (by omega)) (cwV 0 htT (kg_V m_ml_X6_126 m_im_X6_weigh m_sl_X6_weigh m_in_X6 m_cd_X6_weigh) rfl rfl rfl (by decide +kernel) ⟨Nat.le_of_ble_eq_true rfl, Nat.le_of_ble_eq_true rfl⟩) (kpe_V hK hP hD hTB hTX hX hbl hbA hAO hS hA (kpe_rc hK hP (J38.o hJ_25) rfl)) rfl rfl hl.1 rfl (lv_room (Nat.le_of_ble_eq_true rfl)) dX6_found_31 ⟨Nat.le_of_ble_eq_true rfl, Nat.le_of_ble_eq_true rfl⟩) hD hS hA (fun r_28 x_28 H locs hq_28 hP hD hS => ?_)
  rw [hq_28.1]
  have hJ_28 : J38 d x b ar ak (D0 + 80) (c0) (s0) (4) x_28.1 x_28.2 := hq_28.2
  refine lv_if_eq (tgt := 75) hx hb dX6_found_34 (by decide) (fun c_29 => absurd c_29 (by decide)) (fun _ => ?_)
  refine lv_aload_n hx hb dX6_found_37 rfl (lv_at hl 1 rfl) ?_
  refine kc_i (va_runV (As := []) (rest := []) ⟨hx, hb, hml, hown, htT⟩ (d_turn l D cA _ b L xs hL x_28.1 x_28.2 d x ar ak (D0 + 80) (c0) (s0) (4) (by omega) (by omega) (by omega) hJ_28 (by omega)) (cwV 0 htT (kg_V m_ml_X6_128 m_im_X6_turn m_sl_X6_turn m_in_X6 m_cd_X6_turn) rfl rfl rfl (by decide +kernel) ⟨Nat.le_of_ble_eq_true rfl, Nat.le_of_ble_eq_true rfl⟩) (kpe_V hK hP hD hTB hTX hX hbl hbA hAO hS hA (kpe_rc hK hP (J38.o hJ_28) rfl)) rfl rfl hl.1 rfl (lv_room (Nat.le_of_ble_eq_true rfl)) dX6_found_38 ⟨Nat.le_of_ble_eq_true rfl, Nat.le_of_ble_eq_true rfl⟩) hD hS hA (fun r_30 x_30 H locs hq_30 hP hD hS => ?_)
  rw [hq_30.1]
  have hJ_30 : J38 d x b ar ak (D0 + 88) (c0) (s0) (4) x_30.1 x_30.2 := hq_30.2
  refine lv_if_eq (tgt := 75) hx hb dX6_found_41 (by decide) (fun c_31 => absurd c_31 (by decide)) (fun _ => ?_)
  refine lv_iload_n hx hb dX6_found_44 rfl (lv_at hl 0 rfl) ?_
  refine lv_iconst (v := 3) hx hb dX6_found_45 (by decide) ?_
  refine lv_icmp_ge (tgt := 56) hx hb dX6_found_46 (by decide) (fun c_32 => absurd c_32 (by decide)) (fun _ => ?_)
  refine lv_aload_n hx hb dX6_found_49 rfl (lv_at hl 1 rfl) ?_
  refine kc_i (va_runV (As := []) (rest := []) ⟨hx, hb, hml, hown, htT⟩ (d_rule l D cA _ b L xs hL x_30.1 x_30.2 d x ar ak (D0 + 88) (c0) (s0) (4) (by omega) (by omega) (by omega) hJ_30 (by omega)) (cwV 0 htT (kg_V m_ml_X6_130 m_im_X6_rule m_sl_X6_rule m_in_X6 m_cd_X6_rule) rfl rfl rfl (by decide +kernel) ⟨Nat.le_of_ble_eq_true rfl, Nat.le_of_ble_eq_true rfl⟩) (kpe_V hK hP hD hTB hTX hX hbl hbA hAO hS hA (kpe_rc hK hP (J38.o hJ_30) rfl)) rfl rfl hl.1 rfl (lv_room (Nat.le_of_ble_eq_true rfl)) dX6_found_50 ⟨Nat.le_of_ble_eq_true rfl, Nat.le_of_ble_eq_true rfl⟩) hD hS hA (fun r_33 x_33 H locs hq_33 hP hD hS => ?_)
  rw [hq_33.1]
  have hJ_33 : J38 d x b ar ak (D0 + 96) (c0) (s0) (4) x_33.1 x_33.2 := hq_33.2
  refine lv_if_eq (tgt := 75) hx hb dX6_found_53 (by decide) (fun c_34 => absurd c_34 (by decide)) (fun _ => ?_)
  refine lv_iload_n hx hb dX6_found_56 rfl (lv_at hl 0 rfl) ?_
  refine lv_iconst (v := 2) hx hb dX6_found_57 (by decide) ?_
  refine lv_icmp_ge (tgt := 77) hx hb dX6_found_58 (by decide) (fun c_35 => absurd c_35 (by decide)) (fun _ => ?_)
  refine lv_aload_n hx hb dX6_found_61 rfl (lv_at hl 1 rfl) ?_
  refine kc_i (va_runV (As := []) (rest := []) ⟨hx, hb, hml, hown, htT⟩ (d_ramp l D cA _ b L xs hL x_33.1 x_33.2 d x ar ak (D0 + 96) (c0) (s0) (4) (by omega) (by omega) (by omega) hJ_33 (by omega)) (cwV 0 htT (kg_V m_ml_X6_132 m_im_X6_ramp m_sl_X6_ramp m_in_X6 m_cd_X6_ramp) rfl rfl rfl (by decide +kernel) ⟨Nat.le_of_ble_eq_true rfl, Nat.le_of_ble_eq_true rfl⟩) (kpe_V hK hP hD hTB hTX hX hbl hbA hAO hS hA (kpe_rc hK hP (J38.o hJ_33) rfl)) rfl rfl hl.1 rfl (lv_room (Nat.le_of_ble_eq_true rfl)) dX6_found_62 ⟨Nat.le_of_ble_eq_true rfl, Nat.le_of_ble_eq_true rfl⟩) hD hS hA (fun r_36 x_36 H locs hq_36 hP hD hS => ?_)
  rw [hq_36.1]
  have hJ_36 : J38 d x b ar ak (D0 + 104) (c0) (s0) (4) x_36.1 x_36.2 := hq_36.2
  refine lv_if_eq (tgt := 75) hx hb dX6_found_65 (by decide) (fun c_37 => absurd c_37 (by decide)) (fun _ => ?_)
  refine lv_aload_n hx hb dX6_found_68 rfl (lv_at hl 1 rfl) ?_
  refine kc_i (va_runV (As := []) (rest := []) ⟨hx, hb, hml, hown, htT⟩ (d_need l D cA _ b L xs hL x_36.1 x_36.2 d x ar ak (D0 + 104) (c0) (s0) (4) (by omega) (by omega) (by omega) hJ_36 (by omega)) (cwV 0 htT (kg_V m_ml_X6_134 m_im_X6_need m_sl_X6_need m_in_X6 m_cd_X6_need) rfl rfl rfl (by decide +kernel) ⟨Nat.le_of_ble_eq_true rfl, Nat.le_of_ble_eq_true rfl⟩) (kpe_V hK hP hD hTB hTX hX hbl hbA hAO hS hA (kpe_rc hK hP (J38.o hJ_36) rfl)) rfl rfl hl.1 rfl (lv_room (Nat.le_of_ble_eq_true rfl)) dX6_found_69 ⟨Nat.le_of_ble_eq_true rfl, Nat.le_of_ble_eq_true rfl⟩) hD hS hA (fun r_38 x_38 H locs hq_38 hP hD hS => ?_)
  rw [hq_38.1]
  have hJ_38 : J38 d x b ar ak (D0 + 112) (c0) (s0) (4) x_38.1 x_38.2 := hq_38.2
  refine lv_if_ne (tgt := 77) hx hb dX6_found_72 (by decide) (fun _ => ?_) (fun c_39 => absurd c_39 (by decide))
  refine lv_iinc (v := 2) (lv' := [(1, .int 2), (0, .ref d)]) hx hb dX6_found_77 hl (k := 0) rfl (by decide) (by decide) rfl (fun ls hl => ?_)
  refine lv_goto (tgt := 24) hx hb dX6_found_80 (by decide) ?_
  refine lv_iload_n hx hb dX6_found_24 rfl (lv_at hl 0 rfl) ?_
  refine lv_bipush (v := 6) hx hb dX6_found_25 (by decide) ?_
  refine lv_icmp_ge (tgt := 83) hx hb dX6_found_27 (by decide) (fun c_40 => absurd c_40 (by decide)) (fun _ => ?_)
  refine lv_aload_n hx hb dX6_found_30 rfl (lv_at hl 1 rfl) ?_
  refine kc_i (va_runV (As := []) (rest := []) ⟨hx, hb, hml, hown, htT⟩ (d_weigh l D cA _ b L xs hL x_38.1 x_38.2 d x ar ak (D0 + 112) (c0) (s0) (4) (by omega) (by omega) (by omega) hJ_38 (by omega)) (cwV 0 htT (kg_V m_ml_X6_126 m_im_X6_weigh m_sl_X6_weigh m_in_X6 m_cd_X6_weigh) rfl rfl rfl (by decide +kernel) ⟨Nat.le_of_ble_eq_true rfl, Nat.le_of_ble_eq_true rfl⟩) (kpe_V hK hP hD hTB hTX hX hbl hbA hAO hS hA (kpe_rc hK hP (J38.o hJ_38) rfl)) rfl rfl hl.1 rfl (lv_room (Nat.le_of_ble_eq_true rfl)) dX6_found_31 ⟨Nat.le_of_ble_eq_true rfl, Nat.le_of_ble_eq_true rfl⟩) hD hS hA (fun r_41 x_41 H locs hq_41 hP hD hS => ?_)
  rw [hq_41.1]
  have hJ_41 : J38 d x b ar ak (D0 + 120) (c0) (s0) (4) x_41.1 x_41.2 := hq_41.2
  refine lv_if_eq (tgt := 75) hx hb dX6_found_34 (by decide) (fun c_42 => absurd c_42 (by decide)) (fun _ => ?_)
  refine lv_aload_n hx hb dX6_found_37 rfl (lv_at hl 1 rfl) ?_
  refine kc_i (va_runV (As := []) (rest := []) ⟨hx, hb, hml, hown, htT⟩ (d_turn l D cA _ b L xs hL x_41.1 x_41.2 d x ar ak (D0 + 120) (c0) (s0) (4) (by omega) (by omega) (by omega) hJ_41 (by omega)) (cwV 0 htT (kg_V m_ml_X6_128 m_im_X6_turn m_sl_X6_turn m_in_X6 m_cd_X6_turn) rfl rfl rfl (by decide +kernel) ⟨Nat.le_of_ble_eq_true rfl, Nat.le_of_ble_eq_true rfl⟩) (kpe_V hK hP hD hTB hTX hX hbl hbA hAO hS hA (kpe_rc hK hP (J38.o hJ_41) rfl)) rfl rfl hl.1 rfl (lv_room (Nat.le_of_ble_eq_true rfl)) dX6_found_38 ⟨Nat.le_of_ble_eq_true rfl, Nat.le_of_ble_eq_true rfl⟩) hD hS hA (fun r_43 x_43 H locs hq_43 hP hD hS => ?_)
  rw [hq_43.1]
  have hJ_43 : J38 d x b ar ak (D0 + 128) (c0) (s0) (4) x_43.1 x_43.2 := hq_43.2
  refine lv_if_eq (tgt := 75) hx hb dX6_found_41 (by decide) (fun c_44 => absurd c_44 (by decide)) (fun _ => ?_)
  refine lv_iload_n hx hb dX6_found_44 rfl (lv_at hl 0 rfl) ?_
  refine lv_iconst (v := 3) hx hb dX6_found_45 (by decide) ?_
  refine lv_icmp_ge (tgt := 56) hx hb dX6_found_46 (by decide) (fun c_45 => absurd c_45 (by decide)) (fun _ => ?_)
  refine lv_aload_n hx hb dX6_found_49 rfl (lv_at hl 1 rfl) ?_
  refine kc_i (va_runV (As := []) (rest := []) ⟨hx, hb, hml, hown, htT⟩ (d_rule l D cA _ b L xs hL x_43.1 x_43.2 d x ar ak (D0 + 128) (c0) (s0) (4) (by omega) (by omega) (by omega) hJ_43 (by omega)) (cwV 0 htT (kg_V m_ml_X6_130 m_im_X6_rule m_sl_X6_rule m_in_X6 m_cd_X6_rule) rfl rfl rfl (by decide +kernel) ⟨Nat.le_of_ble_eq_true rfl, Nat.le_of_ble_eq_true rfl⟩) (kpe_V hK hP hD hTB hTX hX hbl hbA hAO hS hA (kpe_rc hK hP (J38.o hJ_43) rfl)) rfl rfl hl.1 rfl (lv_room (Nat.le_of_ble_eq_true rfl)) dX6_found_50 ⟨Nat.le_of_ble_eq_true rfl, Nat.le_of_ble_eq_true rfl⟩) hD hS hA (fun r_46 x_46 H locs hq_46 hP hD hS => ?_)
  rw [hq_46.1]
  have hJ_46 : J38 d x b ar ak (D0 + 136) (c0) (s0) (4) x_46.1 x_46.2 := hq_46.2
  refine lv_if_eq (tgt := 75) hx hb dX6_found_53 (by decide) (fun c_47 => absurd c_47 (by decide)) (fun _ => ?_)
  refine lv_iload_n hx hb dX6_found_56 rfl (lv_at hl 0 rfl) ?_
  refine lv_iconst (v := 2) hx hb dX6_found_57 (by decide) ?_
  refine lv_icmp_ge (tgt := 77) hx hb dX6_found_58 (by decide) (fun _ => ?_) (fun c_48 => absurd c_48 (by decide))
  refine lv_iinc (v := 3) (lv' := [(1, .int 3), (0, .ref d)]) hx hb dX6_found_77 hl (k := 0) rfl (by decide) (by decide) rfl (fun ls hl => ?_)
  refine lv_goto (tgt := 24) hx hb dX6_found_80 (by decide) ?_
  refine lv_iload_n hx hb dX6_found_24 rfl (lv_at hl 0 rfl) ?_
  refine lv_bipush (v := 6) hx hb dX6_found_25 (by decide) ?_
  refine lv_icmp_ge (tgt := 83) hx hb dX6_found_27 (by decide) (fun c_49 => absurd c_49 (by decide)) (fun _ => ?_)
  refine lv_aload_n hx hb dX6_found_30 rfl (lv_at hl 1 rfl) ?_
  refine kc_i (va_runV (As := []) (rest := []) ⟨hx, hb, hml, hown, htT⟩ (d_weigh l D cA _ b L xs hL x_46.1 x_46.2 d x ar ak (D0 + 136) (c0) (s0) (4) (by omega) (by omega) (by omega) hJ_46 (by omega)) (cwV 0 htT (kg_V m_ml_X6_126 m_im_X6_weigh m_sl_X6_weigh m_in_X6 m_cd_X6_weigh) rfl rfl rfl (by decide +kernel) ⟨Nat.le_of_ble_eq_true rfl, Nat.le_of_ble_eq_true rfl⟩) (kpe_V hK hP hD hTB hTX hX hbl hbA hAO hS hA (kpe_rc hK hP (J38.o hJ_46) rfl)) rfl rfl hl.1 rfl (lv_room (Nat.le_of_ble_eq_true rfl)) dX6_found_31 ⟨Nat.le_of_ble_eq_true rfl, Nat.le_of_ble_eq_true rfl⟩) hD hS hA (fun r_50 x_50 H locs hq_50 hP hD hS => ?_)
  rw [hq_50.1]
  have hJ_50 : J38 d x b ar ak (D0 + 144) (c0) (s0) (4) x_50.1 x_50.2 := hq_50.2
  refine lv_if_eq (tgt := 75) hx hb dX6_found_34 (by decide) (fun c_51 => absurd c_51 (by decide)) (fun _ => ?_)
  refine lv_aload_n hx hb dX6_found_37 rfl (lv_at hl 1 rfl) ?_
  refine kc_i (va_runV (As := []) (rest := []) ⟨hx, hb, hml, hown, htT⟩ (d_turn l D cA _ b L xs hL x_50.1 x_50.2 d x ar ak (D0 + 144) (c0) (s0) (4) (by omega) (by omega) (by omega) hJ_50 (by omega)) (cwV 0 htT (kg_V m_ml_X6_128 m_im_X6_turn m_sl_X6_turn m_in_X6 m_cd_X6_turn) rfl rfl rfl (by decide +kernel) ⟨Nat.le_of_ble_eq_true rfl, Nat.le_of_ble_eq_true rfl⟩) (kpe_V hK hP hD hTB hTX hX hbl hbA hAO hS hA (kpe_rc hK hP (J38.o hJ_50) rfl)) rfl rfl hl.1 rfl (lv_room (Nat.le_of_ble_eq_true rfl)) dX6_found_38 ⟨Nat.le_of_ble_eq_true rfl, Nat.le_of_ble_eq_true rfl⟩) hD hS hA (fun r_52 x_52 H locs hq_52 hP hD hS => ?_)
  rw [hq_52.1]
  have hJ_52 : J38 d x b ar ak (D0 + 152) (c0) (s0) (4) x_52.1 x_52.2 := hq_52.2
  refine lv_if_eq (tgt := 75) hx hb dX6_found_41 (by decide) (fun c_53 => absurd c_53 (by decide)) (fun _ => ?_)
  refine lv_iload_n hx hb dX6_found_44 rfl (lv_at hl 0 rfl) ?_
  refine lv_iconst (v := 3) hx hb dX6_found_45 (by decide) ?_
  refine lv_icmp_ge (tgt := 56) hx hb dX6_found_46 (by decide) (fun _ => ?_) (fun c_54 => absurd c_54 (by decide))
  refine lv_iload_n hx hb dX6_found_56 rfl (lv_at hl 0 rfl) ?_
  refine lv_iconst (v := 2) hx hb dX6_found_57 (by decide) ?_
  refine lv_icmp_ge (tgt := 77) hx hb dX6_found_58 (by decide) (fun _ => ?_) (fun c_55 => absurd c_55 (by decide))
  refine lv_iinc (v := 4) (lv' := [(1, .int 4), (0, .ref d)]) hx hb dX6_found_77 hl (k := 0) rfl (by decide) (by decide) rfl (fun ls hl => ?_)
  refine lv_goto (tgt := 24) hx hb dX6_found_80 (by decide) ?_
  refine lv_iload_n hx hb dX6_found_24 rfl (lv_at hl 0 rfl) ?_
  refine lv_bipush (v := 6) hx hb dX6_found_25 (by decide) ?_
  refine lv_icmp_ge (tgt := 83) hx hb dX6_found_27 (by decide) (fun c_56 => absurd c_56 (by decide)) (fun _ => ?_)
  refine lv_aload_n hx hb dX6_found_30 rfl (lv_at hl 1 rfl) ?_
  refine kc_i (va_runV (As := []) (rest := []) ⟨hx, hb, hml, hown, htT⟩ (d_weigh l D cA _ b L xs hL x_52.1 x_52.2 d x ar ak (D0 + 152) (c0) (s0) (4) (by omega) (by omega) (by omega) hJ_52 (by omega)) (cwV 0 htT (kg_V m_ml_X6_126 m_im_X6_weigh m_sl_X6_weigh m_in_X6 m_cd_X6_weigh) rfl rfl rfl (by decide +kernel) ⟨Nat.le_of_ble_eq_true rfl, Nat.le_of_ble_eq_true rfl⟩) (kpe_V hK hP hD hTB hTX hX hbl hbA hAO hS hA (kpe_rc hK hP (J38.o hJ_52) rfl)) rfl rfl hl.1 rfl (lv_room (Nat.le_of_ble_eq_true rfl)) dX6_found_31 ⟨Nat.le_of_ble_eq_true rfl, Nat.le_of_ble_eq_true rfl⟩) hD hS hA (fun r_57 x_57 H locs hq_57 hP hD hS => ?_)
  rw [hq_57.1]
  have hJ_57 : J38 d x b ar ak (D0 + 160) (c0) (s0) (4) x_57.1 x_57.2 := hq_57.2
  refine lv_if_eq (tgt := 75) hx hb dX6_found_34 (by decide) (fun c_58 => absurd c_58 (by decide)) (fun _ => ?_)
  refine lv_aload_n hx hb dX6_found_37 rfl (lv_at hl 1 rfl) ?_
  refine kc_i (va_runV (As := []) (rest := []) ⟨hx, hb, hml, hown, htT⟩ (d_turn l D cA _ b L xs hL x_57.1 x_57.2 d x ar ak (D0 + 160) (c0) (s0) (4) (by omega) (by omega) (by omega) hJ_57 (by omega)) (cwV 0 htT (kg_V m_ml_X6_128 m_im_X6_turn m_sl_X6_turn m_in_X6 m_cd_X6_turn) rfl rfl rfl (by decide +kernel) ⟨Nat.le_of_ble_eq_true rfl, Nat.le_of_ble_eq_true rfl⟩) (kpe_V hK hP hD hTB hTX hX hbl hbA hAO hS hA (kpe_rc hK hP (J38.o hJ_57) rfl)) rfl rfl hl.1 rfl (lv_room (Nat.le_of_ble_eq_true rfl)) dX6_found_38 ⟨Nat.le_of_ble_eq_true rfl, Nat.le_of_ble_eq_true rfl⟩) hD hS hA (fun r_59 x_59 H locs hq_59 hP hD hS => ?_)
  rw [hq_59.1]
  have hJ_59 : J38 d x b ar ak (D0 + 168) (c0) (s0) (4) x_59.1 x_59.2 := hq_59.2
  refine lv_if_eq (tgt := 75) hx hb dX6_found_41 (by decide) (fun c_60 => absurd c_60 (by decide)) (fun _ => ?_)
  refine lv_iload_n hx hb dX6_found_44 rfl (lv_at hl 0 rfl) ?_
  refine lv_iconst (v := 3) hx hb dX6_found_45 (by decide) ?_
  refine lv_icmp_ge (tgt := 56) hx hb dX6_found_46 (by decide) (fun _ => ?_) (fun c_61 => absurd c_61 (by decide))
  refine lv_iload_n hx hb dX6_found_56 rfl (lv_at hl 0 rfl) ?_
  refine lv_iconst (v := 2) hx hb dX6_found_57 (by decide) ?_
  refine lv_icmp_ge (tgt := 77) hx hb dX6_found_58 (by decide) (fun _ => ?_) (fun c_62 => absurd c_62 (by decide))
  refine lv_iinc (v := 5) (lv' := [(1, .int 5), (0, .ref d)]) hx hb dX6_found_77 hl (k := 0) rfl (by decide) (by decide) rfl (fun ls hl => ?_)
  refine lv_goto (tgt := 24) hx hb dX6_found_80 (by decide) ?_
  refine lv_iload_n hx hb dX6_found_24 rfl (lv_at hl 0 rfl) ?_
  refine lv_bipush (v := 6) hx hb dX6_found_25 (by decide) ?_
  refine lv_icmp_ge (tgt := 83) hx hb dX6_found_27 (by decide) (fun c_63 => absurd c_63 (by decide)) (fun _ => ?_)
  refine lv_aload_n hx hb dX6_found_30 rfl (lv_at hl 1 rfl) ?_
  refine kc_i (va_runV (As := []) (rest := []) ⟨hx, hb, hml, hown, htT⟩ (d_weigh l D cA _ b L xs hL x_59.1 x_59.2 d x ar ak (D0 + 168) (c0) (s0) (4) (by omega) (by omega) (by omega) hJ_59 (by omega)) (cwV 0 htT (kg_V m_ml_X6_126 m_im_X6_weigh m_sl_X6_weigh m_in_X6 m_cd_X6_weigh) rfl rfl rfl (by decide +kernel) ⟨Nat.le_of_ble_eq_true rfl, Nat.le_of_ble_eq_true rfl⟩) (kpe_V hK hP hD hTB hTX hX hbl hbA hAO hS hA (kpe_rc hK hP (J38.o hJ_59) rfl)) rfl rfl hl.1 rfl (lv_room (Nat.le_of_ble_eq_true rfl)) dX6_found_31 ⟨Nat.le_of_ble_eq_true rfl, Nat.le_of_ble_eq_true rfl⟩) hD hS hA (fun r_64 x_64 H locs hq_64 hP hD hS => ?_)
  rw [hq_64.1]
  have hJ_64 : J38 d x b ar ak (D0 + 176) (c0) (s0) (4) x_64.1 x_64.2 := hq_64.2
  refine lv_if_eq (tgt := 75) hx hb dX6_found_34 (by decide) (fun c_65 => absurd c_65 (by decide)) (fun _ => ?_)
  refine lv_aload_n hx hb dX6_found_37 rfl (lv_at hl 1 rfl) ?_
  refine kc_i (va_runV (As := []) (rest := []) ⟨hx, hb, hml, hown, htT⟩ (d_turn l D cA _ b L xs hL x_64.1 x_64.2 d x ar ak (D0 + 176) (c0) (s0) (4) (by omega) (by omega) (by omega) hJ_64 (by omega)) (cwV 0 htT (kg_V m_ml_X6_128 m_im_X6_turn m_sl_X6_turn m_in_X6 m_cd_X6_turn) rfl rfl rfl (by decide +kernel) ⟨Nat.le_of_ble_eq_true rfl, Nat.le_of_ble_eq_true rfl⟩) (kpe_V hK hP hD hTB hTX hX hbl hbA hAO hS hA (kpe_rc hK hP (J38.o hJ_64) rfl)) rfl rfl hl.1 rfl (lv_room (Nat.le_of_ble_eq_true rfl)) dX6_found_38 ⟨Nat.le_of_ble_eq_true rfl, Nat.le_of_ble_eq_true rfl⟩) hD hS hA (fun r_66 x_66 H locs hq_66 hP hD hS => ?_)
  rw [hq_66.1]
  have hJ_66 : J38 d x b ar ak (D0 + 184) (c0) (s0) (4) x_66.1 x_66.2 := hq_66.2
  refine lv_if_eq (tgt := 75) hx hb dX6_found_41 (by decide) (fun c_67 => absurd c_67 (by decide)) (fun _ => ?_)
  refine lv_iload_n hx hb dX6_found_44 rfl (lv_at hl 0 rfl) ?_
  refine lv_iconst (v := 3) hx hb dX6_found_45 (by decide) ?_
  refine lv_icmp_ge (tgt := 56) hx hb dX6_found_46 (by decide) (fun _ => ?_) (fun c_68 => absurd c_68 (by decide))
  refine lv_iload_n hx hb dX6_found_56 rfl (lv_at hl 0 rfl) ?_
  refine lv_iconst (v := 2) hx hb dX6_found_57 (by decide) ?_
  refine lv_icmp_ge (tgt := 77) hx hb dX6_found_58 (by decide) (fun _ => ?_) (fun c_69 => absurd c_69 (by decide))
  refine lv_iinc (v := 6) (lv' := [(1, .int 6), (0, .ref d)]) hx hb dX6_found_77 hl (k := 0) rfl (by decide) (by decide) rfl (fun ls hl => ?_)
  refine lv_goto (tgt := 24) hx hb dX6_found_80 (by decide) ?_
  refine lv_iload_n hx hb dX6_found_24 rfl (lv_at hl 0 rfl) ?_
  refine lv_bipush (v := 6) hx hb dX6_found_25 (by decide) ?_
  refine lv_icmp_ge (tgt := 83) hx hb dX6_found_27 (by decide) (fun _ => ?_) (fun c_70 => absurd c_70 (by decide))
  refine lv_iconst (v := 0) hx hb dX6_found_83 (by decide) ?_
  refine lv_istore_n (lv' := [(1, .int 0), (0, .ref d)]) hx hb dX6_found_84 rfl hl (by decide) rfl (fun ls hl => ?_)
  refine kz_loop 85 (fun N9 H locs ls => ∃ (U : Pool) (Y : Pool) (i : Nat), N9 = 8 - i ∧ i ≤ 8 ∧ J38 d x b ar ak (D0 + 184) (c0) (s0) (4) U Y ∧ va_P D vwCl (PW cA U ++ PW cA Y) H ∧ va_D A (PW cA U ++ PW cA Y) ∧ va_S A s.heap H locs ∧ lv_has ls 2 [(1, .int (nI i)), (0, .ref d)]) (fun N9 ih_85 H locs ls hI => ?_) ⟨x_66.1, x_66.2, 0, rfl, Nat.zero_le _, hJ_66, hP, hD, hS, lv_sub hl [0, 1] rfl⟩
  obtain ⟨U, Y, i, hn9, hi9, hJ9, hP, hD, hS, hl⟩ := hI
  have hJc := hJ9
  obtain ⟨n, na, dr, cM, sB, Ad, fF, fO, fW, fC, fR, fB, M, hn9, hdr9, hcM9, hsB9, dk, hvm, gg, hM⟩ := hJc
  have hn8 : n ≤ 8 := dk.n8
  have hna : na ≤ 100 := gg.r.na
  have hdr : fF 2 = nI dr := hvm.f2
  have oF5 : fF 5 = nI n := hvm.f5
  have oF3 : fF 3 = nI cM := hvm.f3.trans hM.1.1
  refine lv_iload_n hx hb dX6_found_85 rfl (lv_at hl 0 rfl) ?_
  refine lv_aload_n hx hb dX6_found_86 rfl (lv_at hl 1 rfl) ?_
  refine kd_getiv (x := nI n) hx hb htT m_u_X6 hown hK hP dk.o rfl 5 (by decide) (by decide) rfl (htT _ m_fl_X6_57) ((dk.f 5).trans ((show _ = fF 5 from rfl).trans oF5)) dX6_found_87 ?_
  refine lv_icmp_ge (tgt := 139) hx hb dX6_found_90 (by decide) (fun c_71 => ?_) (fun c_71 => ?_)
  · replace c_71 := (nI_leI (a := n) (b := i) (by omega) (by omega)).mp c_71
    refine lv_aload_n hx hb dX6_found_139 rfl (lv_at hl 1 rfl) ?_
    refine kc_i (vx_runVW (As := []) (rest := []) ⟨hx, hb, hml, hown, htT⟩ (d_place l hst D cA _ b L xs hL U Y d x ar ak (D0 + 184) (c0) (s0) (4) (by omega) (by omega) (by omega) hJ9 (by omega)) (vx_cwVW 0 htT (kg_V m_ml_X6_136 m_im_X6_place m_sl_X6_place m_in_X6 m_cd_X6_place) rfl rfl rfl (by decide +kernel) ⟨Nat.le_of_ble_eq_true rfl, Nat.le_of_ble_eq_true rfl⟩) (kpe_V hK hP hD hTB hTX hX hbl hbA hAO hS hA (kpe_rc hK hP (J38.o hJ9) rfl)) rfl rfl hl.1 rfl (lv_room (Nat.le_of_ble_eq_true rfl)) dX6_found_140 ⟨Nat.le_of_ble_eq_true rfl, Nat.le_of_ble_eq_true rfl⟩) hD hS hA (fun r_72 x_72 H locs hq_72 hP hD hS => ?_)
    rw [hq_72.1]
    have hJ_72 : J38 d x b ar ak (D0 + 192) (c0) (s0) (4) x_72.1 x_72.2 := hq_72.2
    refine lv_if_eq (tgt := 164) hx hb dX6_found_143 (by decide) (fun c_73 => absurd c_73 (by decide)) (fun _ => ?_)
    refine lv_aload_n hx hb dX6_found_146 rfl (lv_at hl 1 rfl) ?_
    refine kc_i (vx_runVW (As := []) (rest := []) ⟨hx, hb, hml, hown, htT⟩ (d_place l hst D cA _ b L xs hL x_72.1 x_72.2 d x ar ak (D0 + 192) (c0) (s0) (4) (by omega) (by omega) (by omega) hJ_72 (by omega)) (vx_cwVW 0 htT (kg_V m_ml_X6_136 m_im_X6_place m_sl_X6_place m_in_X6 m_cd_X6_place) rfl rfl rfl (by decide +kernel) ⟨Nat.le_of_ble_eq_true rfl, Nat.le_of_ble_eq_true rfl⟩) (kpe_V hK hP hD hTB hTX hX hbl hbA hAO hS hA (kpe_rc hK hP (J38.o hJ_72) rfl)) rfl rfl hl.1 rfl (lv_room (Nat.le_of_ble_eq_true rfl)) dX6_found_147 ⟨Nat.le_of_ble_eq_true rfl, Nat.le_of_ble_eq_true rfl⟩) hD hS hA (fun r_74 x_74 H locs hq_74 hP hD hS => ?_)
    rw [hq_74.1]
    have hJ_74 : J38 d x b ar ak (D0 + 200) (c0) (s0) (4) x_74.1 x_74.2 := hq_74.2
    refine lv_if_eq (tgt := 164) hx hb dX6_found_150 (by decide) (fun c_75 => absurd c_75 (by decide)) (fun _ => ?_)
    refine lv_aload_n hx hb dX6_found_153 rfl (lv_at hl 1 rfl) ?_
    refine kc_i (va_runV (As := []) (rest := []) ⟨hx, hb, hml, hown, htT⟩ (d_hold l D cA _ b L xs hL x_74.1 x_74.2 d x ar ak (D0 + 200) (c0) (s0) (4) (by omega) (by omega) (by omega) hJ_74 (by omega)) (cwV 0 htT (kg_V m_ml_X6_138 m_im_X6_hold m_sl_X6_hold m_in_X6 m_cd_X6_hold) rfl rfl rfl (by decide +kernel) ⟨Nat.le_of_ble_eq_true rfl, Nat.le_of_ble_eq_true rfl⟩) (kpe_V hK hP hD hTB hTX hX hbl hbA hAO hS hA (kpe_rc hK hP (J38.o hJ_74) rfl)) rfl rfl hl.1 rfl (lv_room (Nat.le_of_ble_eq_true rfl)) dX6_found_154 ⟨Nat.le_of_ble_eq_true rfl, Nat.le_of_ble_eq_true rfl⟩) hD hS hA (fun r_76 x_76 H locs hq_76 hP hD hS => ?_)
    rw [hq_76.1]
    have hJ_76 : J38 d x b ar ak (D0 + 208) (c0) (s0) (4) x_76.1 x_76.2 := hq_76.2
    refine lv_if_eq (tgt := 164) hx hb dX6_found_157 (by decide) (fun c_77 => absurd c_77 (by decide)) (fun _ => ?_)
    refine lv_iconst (v := 1) hx hb dX6_found_160 (by decide) ?_
    refine lv_goto (tgt := 165) hx hb dX6_found_161 (by decide) ?_
    exact W.zret (v := 1) hx hb hr (rfl) (fun t ht hW => ⟨⟨1, (x_76.1, x_76.2), rfl, ⟨rfl, J38.mono hJ_76 (by omega) (by omega) (by omega) (by omega)⟩, by rw [ht]; exact hP, va_K.moved hW.alike hK, hD⟩, hS.F ht⟩) hS.2.2 dX6_found_165
  · replace c_71 : ¬ n ≤ i := fun h9 => c_71 ((nI_leI (a := n) (b := i) (by omega) (by omega)).mpr h9)
    have hk : i < n := by omega
    have q8_i : i < 8 := by omega
    obtain ⟨a_i, ja_i⟩ := gg.c.row i (by omega)
    have sw_i := gg.sw2 (by omega) ja_i
    rcases (gg.r.2.1 i hk).2 with h11 | h11
    · refine lv_aload_n hx hb dX6_found_93 rfl (lv_at hl 1 rfl) ?_
      refine kd_gets (r := x) hx hb htT m_u_X6 hown hK hP dk.o rfl 0 (by decide) (by decide) rfl dk.q0 (htT _ m_fl_X6_10) dX6_found_94 ?_
      refine lv_iload_n hx hb dX6_found_97 rfl (lv_at hl 0 rfl) ?_
      refine lv_iconst (v := 1) hx hb dX6_found_98 (by decide) ?_
      refine kn_i (va_runV (As := [.int (nI i), .int 1]) (rest := []) ⟨hx, hb, hml, hown, htT⟩ (c_turn l D cA _ Y x gg.c.hx ar gg.c.q0 ak gg.c.q1 gg.c.kk gg.c.R i q8_i a_i ja_i (nI i) sw_i 1 (Or.inr rfl)) (cwV 2 htT (kg_V m_ml_X6_75 m_im_X5_turn m_sl_X5_turn m_in_X5 m_cd_X5_turn) rfl rfl rfl (by decide +kernel) ⟨Nat.le_of_ble_eq_true rfl, Nat.le_of_ble_eq_true rfl⟩) (kn_V hK hP hD hTB gg.c.hx (Nat.le_of_ble_eq_true rfl) rfl) rfl rfl hl.1 rfl (lv_room (Nat.le_of_ble_eq_true rfl)) dX6_found_99 ⟨Nat.le_of_ble_eq_true rfl, Nat.le_of_ble_eq_true rfl⟩) hP hD hS hA (fun r_78 x_78 H locs hq_78 hP hD hS => ?_)
      rw [hq_78.1.trans ((gg.l.rn hk ja_i (q := (9, 11)) (by decide)).trans h11)]
      have gg2 : GG n na x_78 (mR M 11 i 1) x ar ak := by rw [hq_78.2]; exact gg.turn hk ja_i (Or.inr rfl)
      refine lv_aload_n hx hb dX6_found_102 rfl (lv_at hl 1 rfl) ?_
      refine kd_gets (r := (aO Ad)) hx hb htT m_u_X6 hown hK hP dk.o rfl 6 (by decide) (by decide) rfl dk.q6 (htT _ m_fl_X6_18) dX6_found_103 ?_
      refine lv_iload_n hx hb dX6_found_106 rfl (lv_at hl 0 rfl) ?_
      refine ky_alda (r := some (aOk Ad i)) hx hb hK hP dk.ao (show vp_in (nI (i)) 8 from ki_in (by omega) (by omega)) ((congrArg _ (ki_cl (n := i) (by omega))).trans (dk.op (k := i) (show i < n by omega))) dX6_found_107 ?_
      refine lv_iconst (v := 3) hx hb dX6_found_108 (by decide) ?_
      refine kx_ialdv (x := 0) hx hb hK (kmy_P hP) (dk.oa (k := i) (show i < n by omega)) (Nat.le_of_ble_eq_true rfl) (Nat.le_of_ble_eq_true rfl) (show vp_in 3 12 from ki_in (n := 3) (by omega) (by omega)) ((congrArg _ (ki_cl (n := 3) (by omega))).trans ((dk.ov (k := i) (j := 3) (show i < n by omega) (show 3 < 12 by omega)).trans (((hvm.o hk (q := (3, 11)) (by decide)).trans h11)))) dX6_found_109 ?_
      refine lv_iconst (v := 1) hx hb dX6_found_110 (by decide) ?_
      refine lv_icmp_ne (tgt := 118) hx hb dX6_found_111 (by decide) (fun _ => ?_) (fun c_79 => absurd c_79 (by decide))
      refine lv_iconst (v := 0) hx hb dX6_found_118 (by decide) ?_
      refine lv_icmp_eq (tgt := 124) hx hb dX6_found_119 (by decide) (fun _ => ?_) (fun c_80 => absurd c_80 (by decide))
      refine lv_aload_n hx hb dX6_found_124 rfl (lv_at hl 1 rfl) ?_
      refine kd_gets (r := (aO Ad)) hx hb htT m_u_X6 hown hK hP dk.o rfl 6 (by decide) (by decide) rfl dk.q6 (htT _ m_fl_X6_18) dX6_found_125 ?_
      refine lv_iload_n hx hb dX6_found_128 rfl (lv_at hl 0 rfl) ?_
      refine ky_alda (r := some (aOk Ad i)) hx hb hK hP dk.ao (show vp_in (nI (i)) 8 from ki_in (by omega) (by omega)) ((congrArg _ (ki_cl (n := i) (by omega))).trans (dk.op (k := i) (show i < n by omega))) dX6_found_129 ?_
      refine lv_iconst (v := 3) hx hb dX6_found_130 (by decide) ?_
      refine lv_iconst (v := 1) hx hb dX6_found_131 (by decide) ?_
      refine ky_iastv hx hb hK hP hD hS (dk.oa (k := i) (show i < n by omega)) (Nat.le_of_ble_eq_true rfl) (Nat.le_of_ble_eq_true rfl) (show vp_in 3 12 from ki_in (n := 3) (by omega) (by omega)) (ki_cl (n := 3) (by omega)) dX6_found_132 (fun H locs hP hD hS => ?_)
      have dk_81 : DK (pR U (aOk Ad i) 3 1) d x b Ad (n, na, fF, (u2 fO i 3 1), fW, fC, fR, fB) := dk.one (show i < n by omega)
      refine lv_iinc (v := nI (i + 1)) (lv' := [(1, .int (nI (i + 1))), (0, .ref d)]) hx hb dX6_found_133 hl (k := 0) rfl (nI_1 _) (by decide) rfl (fun ls hl => ?_)
      refine lv_goto (tgt := 85) hx hb dX6_found_136 (by decide) ?_
      have hJn : J38 d x b ar ak (D0 + 184) (c0) (s0) (4) (pR U (aOk Ad i) 3 1) (x_78) := ⟨n, na, dr, cM, sB, _, _, _, _, _, _, _, (mR M 11 i 1), by omega, by omega, by omega, by omega, dk_81, (hvm.one (k := i) (q := (3, 11)) (by decide) (by decide) (v := 1)), gg2, hM.turn⟩
      have hl := lv_sub hl [0, 1] rfl
      exact ih_85 _ (by omega) H locs ls ⟨pR U (aOk Ad i) 3 1, x_78, i + 1, rfl, (by omega), hJn, hP, hD, hS, hl⟩
    · refine lv_aload_n hx hb dX6_found_93 rfl (lv_at hl 1 rfl) ?_
      refine kd_gets (r := x) hx hb htT m_u_X6 hown hK hP dk.o rfl 0 (by decide) (by decide) rfl dk.q0 (htT _ m_fl_X6_10) dX6_found_94 ?_
      refine lv_iload_n hx hb dX6_found_97 rfl (lv_at hl 0 rfl) ?_
      refine lv_iconst (v := 1) hx hb dX6_found_98 (by decide) ?_
      refine kn_i (va_runV (As := [.int (nI i), .int 1]) (rest := []) ⟨hx, hb, hml, hown, htT⟩ (c_turn l D cA _ Y x gg.c.hx ar gg.c.q0 ak gg.c.q1 gg.c.kk gg.c.R i q8_i a_i ja_i (nI i) sw_i 1 (Or.inr rfl)) (cwV 2 htT (kg_V m_ml_X6_75 m_im_X5_turn m_sl_X5_turn m_in_X5 m_cd_X5_turn) rfl rfl rfl (by decide +kernel) ⟨Nat.le_of_ble_eq_true rfl, Nat.le_of_ble_eq_true rfl⟩) (kn_V hK hP hD hTB gg.c.hx (Nat.le_of_ble_eq_true rfl) rfl) rfl rfl hl.1 rfl (lv_room (Nat.le_of_ble_eq_true rfl)) dX6_found_99 ⟨Nat.le_of_ble_eq_true rfl, Nat.le_of_ble_eq_true rfl⟩) hP hD hS hA (fun r_82 x_82 H locs hq_82 hP hD hS => ?_)
      rw [hq_82.1.trans ((gg.l.rn hk ja_i (q := (9, 11)) (by decide)).trans h11)]
      have gg2 : GG n na x_82 (mR M 11 i 1) x ar ak := by rw [hq_82.2]; exact gg.turn hk ja_i (Or.inr rfl)
      refine lv_aload_n hx hb dX6_found_102 rfl (lv_at hl 1 rfl) ?_
      refine kd_gets (r := (aO Ad)) hx hb htT m_u_X6 hown hK hP dk.o rfl 6 (by decide) (by decide) rfl dk.q6 (htT _ m_fl_X6_18) dX6_found_103 ?_
      refine lv_iload_n hx hb dX6_found_106 rfl (lv_at hl 0 rfl) ?_
      refine ky_alda (r := some (aOk Ad i)) hx hb hK hP dk.ao (show vp_in (nI (i)) 8 from ki_in (by omega) (by omega)) ((congrArg _ (ki_cl (n := i) (by omega))).trans (dk.op (k := i) (show i < n by omega))) dX6_found_107 ?_
      refine lv_iconst (v := 3) hx hb dX6_found_108 (by decide) ?_
      refine kx_ialdv (x := 1) hx hb hK (kmy_P hP) (dk.oa (k := i) (show i < n by omega)) (Nat.le_of_ble_eq_true rfl) (Nat.le_of_ble_eq_true rfl) (show vp_in 3 12 from ki_in (n := 3) (by omega) (by omega)) ((congrArg _ (ki_cl (n := 3) (by omega))).trans ((dk.ov (k := i) (j := 3) (show i < n by omega) (show 3 < 12 by omega)).trans (((hvm.o hk (q := (3, 11)) (by decide)).trans h11)))) dX6_found_109 ?_
      refine lv_iconst (v := 1) hx hb dX6_found_110 (by decide) ?_
      refine lv_icmp_ne (tgt := 118) hx hb dX6_found_111 (by decide) (fun c_83 => absurd c_83 (by decide)) (fun _ => ?_)
      refine lv_iconst (v := 1) hx hb dX6_found_114 (by decide) ?_
      refine lv_goto (tgt := 119) hx hb dX6_found_115 (by decide) ?_
      refine lv_icmp_eq (tgt := 124) hx hb dX6_found_119 (by decide) (fun _ => ?_) (fun c_84 => absurd c_84 (by decide))
      refine lv_aload_n hx hb dX6_found_124 rfl (lv_at hl 1 rfl) ?_
      refine kd_gets (r := (aO Ad)) hx hb htT m_u_X6 hown hK hP dk.o rfl 6 (by decide) (by decide) rfl dk.q6 (htT _ m_fl_X6_18) dX6_found_125 ?_
      refine lv_iload_n hx hb dX6_found_128 rfl (lv_at hl 0 rfl) ?_
      refine ky_alda (r := some (aOk Ad i)) hx hb hK hP dk.ao (show vp_in (nI (i)) 8 from ki_in (by omega) (by omega)) ((congrArg _ (ki_cl (n := i) (by omega))).trans (dk.op (k := i) (show i < n by omega))) dX6_found_129 ?_
      refine lv_iconst (v := 3) hx hb dX6_found_130 (by decide) ?_
      refine lv_iconst (v := 1) hx hb dX6_found_131 (by decide) ?_
      refine ky_iastv hx hb hK hP hD hS (dk.oa (k := i) (show i < n by omega)) (Nat.le_of_ble_eq_true rfl) (Nat.le_of_ble_eq_true rfl) (show vp_in 3 12 from ki_in (n := 3) (by omega) (by omega)) (ki_cl (n := 3) (by omega)) dX6_found_132 (fun H locs hP hD hS => ?_)
      have dk_85 : DK (pR U (aOk Ad i) 3 1) d x b Ad (n, na, fF, (u2 fO i 3 1), fW, fC, fR, fB) := dk.one (show i < n by omega)
      refine lv_iinc (v := nI (i + 1)) (lv' := [(1, .int (nI (i + 1))), (0, .ref d)]) hx hb dX6_found_133 hl (k := 0) rfl (nI_1 _) (by decide) rfl (fun ls hl => ?_)
      refine lv_goto (tgt := 85) hx hb dX6_found_136 (by decide) ?_
      have hJn : J38 d x b ar ak (D0 + 184) (c0) (s0) (4) (pR U (aOk Ad i) 3 1) (x_82) := ⟨n, na, dr, cM, sB, _, _, _, _, _, _, _, (mR M 11 i 1), by omega, by omega, by omega, by omega, dk_85, (hvm.one (k := i) (q := (3, 11)) (by decide) (by decide) (v := 1)), gg2, hM.turn⟩
      have hl := lv_sub hl [0, 1] rfl
      exact ih_85 _ (by omega) H locs ls ⟨pR U (aOk Ad i) 3 1, x_82, i + 1, rfl, (by omega), hJn, hP, hD, hS, hl⟩

