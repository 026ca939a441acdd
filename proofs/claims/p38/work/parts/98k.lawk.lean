set_option maxRecDepth 100000 in
set_option maxHeartbeats 4000000 in
/-- one switch -/
theorem law_k (l : Launch) (hst : l.stackTraces = false) {p : Program} {e : Env} {s : State} {m : MethodId} {below : List Frame} {meth : Method} {c : Code} {b L : Nat} {xs : Nat → Int32} (C0 : lw_At p s m meth c b L xs) {D : va_G} {cA : Nat → ClassId} {A : Nat → Prop} (hA : ∀ q : Nat, s.heap.size ≤ q → A q) (hbA : ¬ A b) (hK : va_K D vwCl (ty6 cA) s) (hTB : TBok s) (hTX : TXok A s) (hAO : va_AOA .int s ∧ va_AOA (.array .int) s) (hL : L < 2 ^ 31) {d x ar ak n na cM sB k aa sp ti D9 u0 v0 : Nat} {bq : Int64} {M : MSt} {Ad : DA} {fO fW : Nat → Nat → Int32} {fC : Nat → Nat} {fR : Nat → Nat → Nat → Int32} {fB : Nat → Nat → Int32} {ru : Nat → Nat} (hu0 : u0 ≤ 500000) (hv0 : v0 ≤ 6000000) (hk : k < n) (hn8 : n ≤ 8) (hna : na ≤ 100) (hok : okG M n na ru) (hM : MK n na cM sB M) (hcM : cM < 900000) (hsB : sB < 1000000) (hD9 : D9 < 1900000) (hnext : ∀ (T S : Pool) (fF : Nat → Int32) (dr : Nat) (H : Heap) (locs : List Loc) (ls : Array Slot) (dd : Drawn), s.drawn.sameBut dd lw_cs → dr ≤ D9 + 25 → DK T d x b Ad (n, na, fF, fO, fW, fC, fR, fB) → VM (n, na, fF, fO, fW, fC, fR, fB) n na dr M → GG n na S M x ar ak → va_P D vwCl (PW cA T ++ PW cA S) H → va_D A (PW cA T ++ PW cA S) → va_S A s.heap H locs → lv_has ls 16 [(8, .int (nI k)), (7, .int (nI (aa + sumN (fun v => nT M.2 (nI k) (nI v) na) (vcT M k)))), (5, .long bq), (4, .int (nI sp)), (3, .ref x), (2, .ref d), (1, .int (nI ti)), (0, .ref b)] → W p l e room_1 (s.setDrawn dd) m #[Value.ref b] below meth c H locs u0 v0 (lw_Z below #[Value.ref b] s) (F0 m 852 ls [])) {T S : Pool} {fF : Nat → Int32} {dr : Nat} {H : Heap} {locs : List Loc} {ls : Array Slot} {dd : Drawn} (hd0 : s.drawn.sameBut dd lw_cs) (hdr9 : dr ≤ D9) (dk : DK T d x b Ad (n, na, fF, fO, fW, fC, fR, fB)) (hvm : VM (n, na, fF, fO, fW, fC, fR, fB) n na dr M) (gg : GG n na S M x ar ak) (hP : va_P D vwCl (PW cA T ++ PW cA S) H) (hD : va_D A (PW cA T ++ PW cA S)) (hS : va_S A s.heap H locs) (hl : lv_has ls 16 [(8, .int (nI k)), (7, .int (nI (aa))), (5, .long bq), (4, .int (nI sp)), (3, .ref x), (2, .ref d), (1, .int (nI ti)), (0, .ref b)]) : W p l e room_1 (s.setDrawn dd) m #[Value.ref b] below meth c H locs u0 v0 (lw_Z below #[Value.ref b] s) (F0 m 108 ls []) := by
  obtain ⟨hx, hb, hr, hml, hown, hts, hX, hbl, hlocks, hgv⟩ := id C0
  have htT0 : ∀ w ∈ TT, w.before _ s = true := fun w h => hts w (tt_in h)
  have hTB0 := hTB
  have hK0 := hK
  have hown0 : s.vm.findClass RL = some m.cls := hown
  have hTX0 := hTX
  have hX0 := hX
  have hAO0 := hAO
  have htT : ∀ w ∈ TT, w.before _ (s.setDrawn dd) = true := dr_words htT0 dd
  have hTB : TBok (s.setDrawn dd) := TBok.same (u := s) (U := s.setDrawn dd) rfl (Vm.Alike.refl s.vm) hTB0
  have hK : va_K D vwCl (ty6 cA) (s.setDrawn dd) := hK0
  have hown : (s.setDrawn dd).vm.findClass RL = some m.cls := hown0
  have hTX : TXok A (s.setDrawn dd) := hTX0.dr dd
  have hX : va_X b L xs (s.setDrawn dd) (s.setDrawn dd).heap := hX0
  have hAO : va_AOA .int (s.setDrawn dd) ∧ va_AOA (.array .int) (s.setDrawn dd) := ⟨va_AOA.moved (u := s) (U := s.setDrawn dd) (Vm.Alike.refl s.vm) hAO0.1, va_AOA.moved (u := s) (U := s.setDrawn dd) (Vm.Alike.refl s.vm) hAO0.2⟩
  have hdr : fF 2 = nI dr := hvm.f2
  have evc : M.2 5 k = nI (vcT M k) := (vcs_ok gg.t.2.2.2 k hk).2
  have hvc4 : (vcT M k) ≤ 4 := (vcs_ok gg.t.2.2.2 k hk).1
  have hvc2 : 2 ≤ (vcT M k) := by obtain ⟨vc9, h1, h2, h3⟩ := gg.vc hk; have h9 : vc9 = (vcT M k) := (nI_eq (by omega) (by omega)).mp (h3.symm.trans evc); omega
  have q8_k : k < 8 := by omega
  obtain ⟨a_k, ja_k⟩ := gg.c.row k (by omega)
  have sw_k := gg.sw2 (by omega) ja_k
  obtain ⟨o9, ho9, eo9⟩ : ∃ o, o ≤ 1 ∧ M.2 11 k = nI o := by rcases (gg.r.2.1 k hk).2 with h9 | h9; exact ⟨0, by omega, h9⟩; exact ⟨1, by omega, h9⟩
  have haa := nT_sw gg hk
  refine lv_aload_n hx hb dL_law_108 rfl (lv_at hl 5 rfl) ?_
  refine kd_gets (r := (aO Ad)) hx hb htT m_u_X6 hown hK hP dk.o rfl 6 (by decide) (by decide) rfl dk.q6 (htT _ m_fl_L_41) dL_law_109 ?_
  refine lv_iload hx hb dL_law_112 (lv_at hl 0 rfl) ?_
  refine ky_alda (r := some (aOk Ad k)) hx hb hK hP dk.ao (show vp_in (nI (k)) 8 from ki_in (by omega) (by omega)) ((congrArg _ (ki_cl (n := k) (by omega))).trans (dk.op (k := k) (show k < n by omega))) dL_law_114 ?_
  refine lv_iconst (v := 1) hx hb dL_law_115 (by decide) ?_
  refine kx_ialdv (x := nI (vcT M k)) hx hb hK (kmy_P hP) (dk.oa (k := k) (show k < n by omega)) (Nat.le_of_ble_eq_true rfl) (Nat.le_of_ble_eq_true rfl) (show vp_in 1 12 from ki_in (n := 1) (by omega) (by omega)) ((congrArg _ (ki_cl (n := 1) (by omega))).trans ((dk.ov (k := k) (j := 1) (show k < n by omega) (show 1 < 12 by omega)).trans (((hvm.o hk (q := (1, 5)) (by decide)).trans evc)))) dL_law_116 ?_
  refine lv_istore (lv' := [(9, .int (nI (vcT M k))), (8, .int (nI k)), (7, .int (nI (aa))), (5, .long bq), (4, .int (nI sp)), (3, .ref x), (2, .ref d), (1, .int (nI ti)), (0, .ref b)]) hx hb dL_law_117 hl (by decide) rfl (fun ls hl => ?_)
  refine lv_iconst (v := 0) hx hb dL_law_119 (by decide) ?_
  refine lv_istore (lv' := [(10, .int 0), (9, .int (nI (vcT M k))), (8, .int (nI k)), (7, .int (nI (aa))), (5, .long bq), (4, .int (nI sp)), (3, .ref x), (2, .ref d), (1, .int (nI ti)), (0, .ref b)]) hx hb dL_law_120 hl (by decide) rfl (fun ls hl => ?_)
  refine lv_iconst (v := 0) hx hb dL_law_122 (by decide) ?_
  refine lv_istore (lv' := [(11, .int 0), (10, .int 0), (9, .int (nI (vcT M k))), (8, .int (nI k)), (7, .int (nI (aa))), (5, .long bq), (4, .int (nI sp)), (3, .ref x), (2, .ref d), (1, .int (nI ti)), (0, .ref b)]) hx hb dL_law_123 hl (by decide) rfl (fun ls hl => ?_)
  refine kz_loopD 125 (fun N9 H locs ls => ∃ (U : Pool) (Y : Pool) (fu : Nat → Int32) (ru9 : Nat) (i : Nat), N9 = 12 - i ∧ i ≤ 12 ∧ ru9 ≤ dr + 2 * i ∧ DK U d x b Ad (n, na, fu, fO, fW, fC, fR, fB) ∧ VM (n, na, fu, fO, fW, fC, fR, fB) n na ru9 M ∧ GG n na Y M x ar ak ∧ va_P D vwCl (PW cA U ++ PW cA Y) H ∧ va_D A (PW cA U ++ PW cA Y) ∧ va_S A s.heap H locs ∧ lv_has ls 16 [(11, .int (nI i)), (10, .int 0), (9, .int (nI (vcT M k))), (8, .int (nI k)), (7, .int (nI (aa))), (5, .long bq), (4, .int (nI sp)), (3, .ref x), (2, .ref d), (1, .int (nI ti)), (0, .ref b)]) (fun N9 ih_125 H locs ls e_125 hd0 hI => ?_) hd0 ⟨T, S, fF, dr, 0, rfl, Nat.zero_le _, (by omega), dk, hvm, gg, hP, hD, hS, lv_sub hl [0, 1, 2, 3, 4, 5, 6, 7, 8, 9, 10] rfl⟩
  obtain ⟨U, Y, fu, ru9, i, hn9, hi9, hru9, dku, hvmu, ggu, hP, hD, hS, hl⟩ := hI
  have htT : ∀ w ∈ TT, w.before _ (s.setDrawn e_125) = true := dr_words htT0 e_125
  have hTB : TBok (s.setDrawn e_125) := TBok.same (u := s) (U := s.setDrawn e_125) rfl (Vm.Alike.refl s.vm) hTB0
  have hK : va_K D vwCl (ty6 cA) (s.setDrawn e_125) := hK0
  have hown : (s.setDrawn e_125).vm.findClass RL = some m.cls := hown0
  have hTX : TXok A (s.setDrawn e_125) := hTX0.dr e_125
  have hX : va_X b L xs (s.setDrawn e_125) (s.setDrawn e_125).heap := hX0
  have hAO : va_AOA .int (s.setDrawn e_125) ∧ va_AOA (.array .int) (s.setDrawn e_125) := ⟨va_AOA.moved (u := s) (U := s.setDrawn e_125) (Vm.Alike.refl s.vm) hAO0.1, va_AOA.moved (u := s) (U := s.setDrawn e_125) (Vm.Alike.refl s.vm) hAO0.2⟩
  obtain ⟨a_k, ja_k⟩ := ggu.c.row k (by omega)
  have sw_k := ggu.sw2 (by omega) ja_k
  refine lv_iload hx hb dL_law_125 (lv_at hl 0 rfl) ?_
  refine lv_bipush (v := 12) hx hb dL_law_127 (by decide) ?_
  refine lv_icmp_ge (tgt := 344) hx hb dL_law_129 (by decide) (fun c_1 => ?_) (fun c_1 => ?_)
  · replace c_1 := (nI_leI (a := 12) (b := i) (by omega) (by omega)).mp c_1
    refine lv_iconst (v := 0) hx hb dL_law_344 (by decide) ?_
    refine lv_istore (lv' := [(11, .int 0), (10, .int 0), (9, .int (nI (vcT M k))), (8, .int (nI k)), (7, .int (nI (aa))), (5, .long bq), (4, .int (nI sp)), (3, .ref x), (2, .ref d), (1, .int (nI ti)), (0, .ref b)]) hx hb dL_law_345 hl (by decide) rfl (fun ls hl => ?_)
    have hbv : ∀ u, u < 20 → ∃ w, w < (vcT M k) ∧ (rBy M na ru k u).1 = nI w := fun u hu => by_var ggu hM hok hk u (by omega)
    have hb4 : ∀ u, u < 20 → ∃ w, w < 4 ∧ (rBy M na ru k u).1 = nI w := fun u hu => by obtain ⟨w, h1, h2⟩ := hbv u hu; exact ⟨w, by omega, h2⟩
    refine kz_loopD 347 (fun N9 H locs ls => ∃ (Y2 : Pool) (j : Nat), N9 = (vcT M k) - j ∧ j ≤ (vcT M k) ∧ GG n na Y2 M x ar ak ∧ va_P D vwCl (PW cA U ++ PW cA Y2) H ∧ va_D A (PW cA U ++ PW cA Y2) ∧ va_S A s.heap H locs ∧ lv_has ls 16 [(11, .int (nI j)), (10, .int (rBel (fun u => (rBy M na ru k u).1) j)), (9, .int (nI (vcT M k))), (8, .int (nI k)), (7, .int (nI (aa + sumN (fun v => nT M.2 (nI k) (nI v) na) j))), (5, .long bq), (4, .int (nI sp)), (3, .ref x), (2, .ref d), (1, .int (nI ti)), (0, .ref b)]) (fun N9 ih_347 H locs ls e_347 hd0 hI => ?_) hd0 ⟨Y, 0, rfl, Nat.zero_le _, ggu, hP, hD, hS, lv_sub hl [0, 1, 2, 3, 4, 5, 6, 7, 8, 9, 10] rfl⟩
    obtain ⟨Y2, j, hn9, hj9, ggv, hP, hD, hS, hl⟩ := hI
    have htT : ∀ w ∈ TT, w.before _ (s.setDrawn e_347) = true := dr_words htT0 e_347
    have hTB : TBok (s.setDrawn e_347) := TBok.same (u := s) (U := s.setDrawn e_347) rfl (Vm.Alike.refl s.vm) hTB0
    have hK : va_K D vwCl (ty6 cA) (s.setDrawn e_347) := hK0
    have hown : (s.setDrawn e_347).vm.findClass RL = some m.cls := hown0
    have hTX : TXok A (s.setDrawn e_347) := hTX0.dr e_347
    have hX : va_X b L xs (s.setDrawn e_347) (s.setDrawn e_347).heap := hX0
    have hAO : va_AOA .int (s.setDrawn e_347) ∧ va_AOA (.array .int) (s.setDrawn e_347) := ⟨va_AOA.moved (u := s) (U := s.setDrawn e_347) (Vm.Alike.refl s.vm) hAO0.1, va_AOA.moved (u := s) (U := s.setDrawn e_347) (Vm.Alike.refl s.vm) hAO0.2⟩
    obtain ⟨a_k, ja_k⟩ := ggv.c.row k (by omega)
    have sw_k := ggv.sw2 (by omega) ja_k
    refine lv_iload hx hb dL_law_347 (lv_at hl 0 rfl) ?_
    refine lv_iload hx hb dL_law_349 (lv_at hl 2 rfl) ?_
    refine lv_icmp_ge (tgt := 499) hx hb dL_law_351 (by decide) (fun c_2 => ?_) (fun c_2 => ?_)
    · replace c_2 := (nI_leI (a := (vcT M k)) (b := j) (by omega) (by omega)).mp c_2
      have hjv : j = (vcT M k) := by omega
      rw [hjv, rBel_all hvc4 hbv] at hl
      obtain ⟨zb, hzb, ezb⟩ := bad_n ggv hk ja_k
      obtain ⟨s0, s1, s50, s1k, es0, es1, es50, es1k, hs1, hs50, hs1k, hs50k⟩ := share_le hM hk (by omega)
      refine lv_iload hx hb dL_law_499 (lv_at hl 1 rfl) ?_
      refine lv_bipush (v := 20) hx hb dL_law_501 (by decide) ?_
      refine lv_icmp_ne (tgt := 576) hx hb dL_law_503 (by decide) (fun c_3 => absurd c_3 (by decide)) (fun _ => ?_)
      refine lv_aload_n hx hb dL_law_506 rfl (lv_at hl 7 rfl) ?_
      refine lv_iload hx hb dL_law_507 (lv_at hl 3 rfl) ?_
      refine kn_i (va_runV (As := [.int (nI k)]) (rest := []) ⟨hx, hb, hml, hown, htT⟩ (c_badX l D cA _ Y2 x ggv.c.hx ar ggv.c.q0 ak ggv.c.q1 ggv.c.kk ggv.c.R k q8_k a_k ja_k (nI k) sw_k) (cwV 1 htT (kg_V m_ml_L_83 m_im_X5_bad m_sl_X5_bad m_in_X5 m_cd_X5_bad) rfl rfl rfl (by decide +kernel) ⟨Nat.le_of_ble_eq_true rfl, Nat.le_of_ble_eq_true rfl⟩) (kn_V hK hP hD hTB ggv.c.hx (Nat.le_of_ble_eq_true rfl) rfl) rfl rfl hl.1 rfl (lv_room (Nat.le_of_ble_eq_true rfl)) dL_law_509 ⟨(by show _ ≤ 600086; omega), (by show _ ≤ 7301442; omega)⟩) hP hD hS hA (fun r_4 x_4 H locs hq_4 hP hD hS => ?_)
      rw [hq_4.2] at hP hD
      rw [hq_4.1.trans ((bad_eq ggv.t ggv.l hna hk ja_k evc hvc4).trans ezb)]
      refine lv_if_lt (tgt := 576) hx hb dL_law_512 (by decide) (fun c_5 => ?_) (fun c_5 => ?_)
      · replace c_5 := (nI_ltI (a := zb) (b := 0) (by omega) (by omega)).mp c_5
        exfalso; omega
      · replace c_5 : ¬ (zb < 0) := fun h9 => c_5 ((nI_ltI (a := zb) (b := 0) (by omega) (by omega)).mpr h9)
        refine lv_aload_n hx hb dL_law_515 rfl (lv_at hl 7 rfl) ?_
        refine lv_iload hx hb dL_law_516 (lv_at hl 3 rfl) ?_
        refine lv_iconst (v := 0) hx hb dL_law_518 (by decide) ?_
        refine kjD_d hd0 List.perm_append_comm (va_runV_D (As := [.int (nI k), .int 0]) (rest := []) ⟨hx, hb, hml, hown, htT⟩ (c_liftX l D cA _ Y2 x ggv.c.hx ar ggv.c.q0 ak ggv.c.q1 ggv.c.kk ggv.c.R k q8_k a_k ja_k (nI k) sw_k (nI 0) (ggv.vko hk ja_k evc (v := 0) (by omega) hvc4)) (cwV 2 htT (kg_V m_ml_L_77 m_im_X5_lift m_sl_X5_lift m_in_X5 m_cd_X5_lift) rfl rfl rfl (by decide +kernel) ⟨Nat.le_of_ble_eq_true rfl, Nat.le_of_ble_eq_true rfl⟩) (kn_V hK hP hD hTB ggv.c.hx (Nat.le_of_ble_eq_true rfl) rfl) rfl rfl hl.1 rfl (lv_room (Nat.le_of_ble_eq_true rfl)) dL_law_519 ⟨(by show _ ≤ 600086; omega), (by show _ ≤ 7301442; omega)⟩) hP hD hS hA (fun r_6 x_6 H locs hq_6 hP hD hS d_6 hd0 => ?_)
        replace hP := kj_P List.perm_append_comm hP
        replace hD := kj_D List.perm_append_comm hD
        have htT : ∀ w ∈ TT, w.before _ (s.setDrawn d_6) = true := dr_words htT0 d_6
        have hTB : TBok (s.setDrawn d_6) := TBok.same (u := s) (U := s.setDrawn d_6) rfl (Vm.Alike.refl s.vm) hTB0
        have hK : va_K D vwCl (ty6 cA) (s.setDrawn d_6) := hK0
        have hown : (s.setDrawn d_6).vm.findClass RL = some m.cls := hown0
        have hTX : TXok A (s.setDrawn d_6) := hTX0.dr d_6
        have hX : va_X b L xs (s.setDrawn d_6) (s.setDrawn d_6).heap := hX0
        have hAO : va_AOA .int (s.setDrawn d_6) ∧ va_AOA (.array .int) (s.setDrawn d_6) := ⟨va_AOA.moved (u := s) (U := s.setDrawn d_6) (Vm.Alike.refl s.vm) hAO0.1, va_AOA.moved (u := s) (U := s.setDrawn d_6) (Vm.Alike.refl s.vm) hAO0.2⟩
        rw [hq_6.2] at hP hD
        have hm_6 : r_6 = FP.dsub (kMn M na k 0) (kMn M na k 0) := ggv.lift hk ja_k (v := 0) (by omega) hq_6.1
        subst hm_6
        rw [show FP.dsub (kMn M na k 0) (kMn M na k 0) = FP.dconst0 from lift_eq0 _ _]
        refine lv_dconst0 hx hb dL_law_522 ?_
        refine lv_dcmp hx hb dL_law_523 ?_
        refine lv_if_ne (tgt := 576) hx hb dL_law_524 (by decide) (fun c_8 => ?_) (fun c_8 => ?_)
        · exact absurd c_8 (fun h9 => h9 (cm_eqz d00))
        · refine lv_aload_n hx hb dL_law_527 rfl (lv_at hl 7 rfl) ?_
          refine lv_iload hx hb dL_law_528 (lv_at hl 3 rfl) ?_
          refine kn_i (va_runV (As := [.int (nI k)]) (rest := []) ⟨hx, hb, hml, hown, htT⟩ (c_share l D cA _ Y2 x ggv.c.hx ar ggv.c.q0 ak ggv.c.q1 ggv.c.kk ggv.c.R k q8_k a_k ja_k (nI k) sw_k) (cwV 1 htT (kg_V m_ml_L_86 m_im_X5_share m_sl_X5_share m_in_X5 m_cd_X5_share) rfl rfl rfl (by decide +kernel) ⟨Nat.le_of_ble_eq_true rfl, Nat.le_of_ble_eq_true rfl⟩) (kn_V hK hP hD hTB ggv.c.hx (Nat.le_of_ble_eq_true rfl) rfl) rfl rfl hl.1 rfl (lv_room (Nat.le_of_ble_eq_true rfl)) dL_law_530 ⟨(by show _ ≤ 600086; omega), (by show _ ≤ 7301442; omega)⟩) hP hD hS hA (fun r_9 x_9 H locs hq_9 hP hD hS => ?_)
          rw [hq_9.2] at hP hD
          rw [hq_9.1.trans ((ggv.far hk ja_k).trans es0)]
          refine lv_aload_n hx hb dL_law_533 rfl (lv_at hl 7 rfl) ?_
          refine lv_iload hx hb dL_law_534 (lv_at hl 3 rfl) ?_
          refine lv_iconst (v := 1) hx hb dL_law_536 (by decide) ?_
          refine kn_i (va_runV (As := [.int (nI k), .int 1]) (rest := [.int (nI s0)]) ⟨hx, hb, hml, hown, htT⟩ (c_shareIn l D cA _ Y2 x ggv.c.hx ar ggv.c.q0 ak ggv.c.q1 ggv.c.kk ggv.c.R k q8_k a_k ja_k (nI k) sw_k 1 (by decide)) (cwV 2 htT (kg_V m_ml_L_89 m_im_X5_shareIn m_sl_X5_shareIn m_in_X5 m_cd_X5_shareIn) rfl rfl rfl (by decide +kernel) ⟨Nat.le_of_ble_eq_true rfl, Nat.le_of_ble_eq_true rfl⟩) (kn_V hK hP hD hTB ggv.c.hx (Nat.le_of_ble_eq_true rfl) rfl) rfl rfl hl.1 rfl (lv_room (Nat.le_of_ble_eq_true rfl)) dL_law_537 ⟨(by show _ ≤ 600086; omega), (by show _ ≤ 7301442; omega)⟩) hP hD hS hA (fun r_10 x_10 H locs hq_10 hP hD hS => ?_)
          rw [hq_10.2] at hP hD
          rw [hq_10.1.trans ((ggv.far2 hk ja_k 1).trans es1)]
          refine lv_icmp_gt (tgt := 576) hx hb dL_law_540 (by decide) (fun c_11 => ?_) (fun c_11 => ?_)
          · replace c_11 := (nI_ltI (a := s1) (b := s0) (by omega) (by omega)).mp c_11
            exfalso; omega
          · replace c_11 : ¬ (s1 < s0) := fun h9 => c_11 ((nI_ltI (a := s1) (b := s0) (by omega) (by omega)).mpr h9)
            refine lv_aload_n hx hb dL_law_543 rfl (lv_at hl 7 rfl) ?_
            refine lv_iload hx hb dL_law_544 (lv_at hl 3 rfl) ?_
            refine lv_iconst (v := 1) hx hb dL_law_546 (by decide) ?_
            refine kn_i (va_runV (As := [.int (nI k), .int 1]) (rest := []) ⟨hx, hb, hml, hown, htT⟩ (c_shareIn l D cA _ Y2 x ggv.c.hx ar ggv.c.q0 ak ggv.c.q1 ggv.c.kk ggv.c.R k q8_k a_k ja_k (nI k) sw_k 1 (by decide)) (cwV 2 htT (kg_V m_ml_L_89 m_im_X5_shareIn m_sl_X5_shareIn m_in_X5 m_cd_X5_shareIn) rfl rfl rfl (by decide +kernel) ⟨Nat.le_of_ble_eq_true rfl, Nat.le_of_ble_eq_true rfl⟩) (kn_V hK hP hD hTB ggv.c.hx (Nat.le_of_ble_eq_true rfl) rfl) rfl rfl hl.1 rfl (lv_room (Nat.le_of_ble_eq_true rfl)) dL_law_547 ⟨(by show _ ≤ 600086; omega), (by show _ ≤ 7301442; omega)⟩) hP hD hS hA (fun r_12 x_12 H locs hq_12 hP hD hS => ?_)
            rw [hq_12.2] at hP hD
            rw [hq_12.1.trans ((ggv.far2 hk ja_k 1).trans es1)]
            refine lv_aload_n hx hb dL_law_550 rfl (lv_at hl 7 rfl) ?_
            refine lv_iload hx hb dL_law_551 (lv_at hl 3 rfl) ?_
            refine lv_bipush (v := 50) hx hb dL_law_553 (by decide) ?_
            refine kn_i (va_runV (As := [.int (nI k), .int 50]) (rest := [.int (nI s1)]) ⟨hx, hb, hml, hown, htT⟩ (c_shareIn l D cA _ Y2 x ggv.c.hx ar ggv.c.q0 ak ggv.c.q1 ggv.c.kk ggv.c.R k q8_k a_k ja_k (nI k) sw_k 50 (by decide)) (cwV 2 htT (kg_V m_ml_L_89 m_im_X5_shareIn m_sl_X5_shareIn m_in_X5 m_cd_X5_shareIn) rfl rfl rfl (by decide +kernel) ⟨Nat.le_of_ble_eq_true rfl, Nat.le_of_ble_eq_true rfl⟩) (kn_V hK hP hD hTB ggv.c.hx (Nat.le_of_ble_eq_true rfl) rfl) rfl rfl hl.1 rfl (lv_room (Nat.le_of_ble_eq_true rfl)) dL_law_555 ⟨(by show _ ≤ 600086; omega), (by show _ ≤ 7301442; omega)⟩) hP hD hS hA (fun r_13 x_13 H locs hq_13 hP hD hS => ?_)
            rw [hq_13.2] at hP hD
            rw [hq_13.1.trans ((ggv.far2 hk ja_k 50).trans es50)]
            refine lv_icmp_gt (tgt := 576) hx hb dL_law_558 (by decide) (fun c_14 => ?_) (fun c_14 => ?_)
            · replace c_14 := (nI_ltI (a := s50) (b := s1) (by omega) (by omega)).mp c_14
              exfalso; omega
            · replace c_14 : ¬ (s50 < s1) := fun h9 => c_14 ((nI_ltI (a := s50) (b := s1) (by omega) (by omega)).mpr h9)
              refine lv_aload_n hx hb dL_law_561 rfl (lv_at hl 7 rfl) ?_
              refine lv_iload hx hb dL_law_562 (lv_at hl 3 rfl) ?_
              refine lv_sipush (v := 1000) hx hb dL_law_564 (by decide) ?_
              refine kn_i (va_runV (As := [.int (nI k), .int 1000]) (rest := []) ⟨hx, hb, hml, hown, htT⟩ (c_shareIn l D cA _ Y2 x ggv.c.hx ar ggv.c.q0 ak ggv.c.q1 ggv.c.kk ggv.c.R k q8_k a_k ja_k (nI k) sw_k 1000 (by decide)) (cwV 2 htT (kg_V m_ml_L_89 m_im_X5_shareIn m_sl_X5_shareIn m_in_X5 m_cd_X5_shareIn) rfl rfl rfl (by decide +kernel) ⟨Nat.le_of_ble_eq_true rfl, Nat.le_of_ble_eq_true rfl⟩) (kn_V hK hP hD hTB ggv.c.hx (Nat.le_of_ble_eq_true rfl) rfl) rfl rfl hl.1 rfl (lv_room (Nat.le_of_ble_eq_true rfl)) dL_law_567 ⟨(by show _ ≤ 600086; omega), (by show _ ≤ 7301442; omega)⟩) hP hD hS hA (fun r_15 x_15 H locs hq_15 hP hD hS => ?_)
              rw [hq_15.2] at hP hD
              rw [hq_15.1.trans ((ggv.far2 hk ja_k 1000).trans es1k)]
              refine lv_sipush (v := 1000) hx hb dL_law_570 (by decide) ?_
              refine lv_icmp_le (tgt := 578) hx hb dL_law_573 (by decide) (fun c_16 => ?_) (fun c_16 => ?_)
              · replace c_16 := (nI_leI (a := s1k) (b := 1000) (by omega) (by omega)).mp c_16
                refine kz_cutD 736 (fun H locs ls => ∃ (Z9 : Pool), GG n na Z9 M x ar ak ∧ va_P D vwCl (PW cA U ++ PW cA Z9) H ∧ va_D A (PW cA U ++ PW cA Z9) ∧ va_S A s.heap H locs ∧ lv_has ls 16 [(9, .int (nI (vcT M k))), (8, .int (nI k)), (7, .int (nI (aa + sumN (fun v => nT M.2 (nI k) (nI v) na) (vcT M k)))), (5, .long bq), (4, .int (nI sp)), (3, .ref x), (2, .ref d), (1, .int (nI ti)), (0, .ref b)]) (fun hcut736 => ?_) (fun H locs ls f9736 hd0 hI => ?_)
                · refine lv_aload_n hx hb dL_law_578 rfl (lv_at hl 7 rfl) ?_
                  refine lv_iload hx hb dL_law_579 (lv_at hl 3 rfl) ?_
                  have ebq := best_eq ggv.t hk ja_k evc hvc4
                  rcases best_n ggv hk with ⟨eb, hall⟩ | ⟨r9, hr9, eb, h09, hmax⟩
                  · refine kjD_i hd0 List.perm_append_comm (va_runV_D (As := [.int (nI k)]) (rest := []) ⟨hx, hb, hml, hown, htT⟩ (c_bestX l D cA _ Y2 x ggv.c.hx ar ggv.c.q0 ak ggv.c.q1 ggv.c.kk ggv.c.R k q8_k a_k ja_k (nI k) sw_k) (cwV 1 htT (kg_V m_ml_L_92 m_im_X5_best m_sl_X5_best m_in_X5 m_cd_X5_best) rfl rfl rfl (by decide +kernel) ⟨Nat.le_of_ble_eq_true rfl, Nat.le_of_ble_eq_true rfl⟩) (kn_V hK hP hD hTB ggv.c.hx (Nat.le_of_ble_eq_true rfl) rfl) rfl rfl hl.1 rfl (lv_room (Nat.le_of_ble_eq_true rfl)) dL_law_581 ⟨(by show _ ≤ 600086; omega), (by show _ ≤ 7301442; omega)⟩) hP hD hS hA (fun r_17 x_17 H locs hq_17 hP hD hS d_17 hd0 => ?_)
                    replace hP := kj_P List.perm_append_comm hP
                    replace hD := kj_D List.perm_append_comm hD
                    have htT : ∀ w ∈ TT, w.before _ (s.setDrawn d_17) = true := dr_words htT0 d_17
                    have hTB : TBok (s.setDrawn d_17) := TBok.same (u := s) (U := s.setDrawn d_17) rfl (Vm.Alike.refl s.vm) hTB0
                    have hK : va_K D vwCl (ty6 cA) (s.setDrawn d_17) := hK0
                    have hown : (s.setDrawn d_17).vm.findClass RL = some m.cls := hown0
                    have hTX : TXok A (s.setDrawn d_17) := hTX0.dr d_17
                    have hX : va_X b L xs (s.setDrawn d_17) (s.setDrawn d_17).heap := hX0
                    have hAO : va_AOA .int (s.setDrawn d_17) ∧ va_AOA (.array .int) (s.setDrawn d_17) := ⟨va_AOA.moved (u := s) (U := s.setDrawn d_17) (Vm.Alike.refl s.vm) hAO0.1, va_AOA.moved (u := s) (U := s.setDrawn d_17) (Vm.Alike.refl s.vm) hAO0.2⟩
                    rw [hq_17.2] at hP hD
                    rw [hq_17.1.trans (ebq.trans eb)]
                    refine lv_istore (lv' := [(11, .int (-1)), (10, .int 20), (9, .int (nI (vcT M k))), (8, .int (nI k)), (7, .int (nI (aa + sumN (fun v => nT M.2 (nI k) (nI v) na) (vcT M k)))), (5, .long bq), (4, .int (nI sp)), (3, .ref x), (2, .ref d), (1, .int (nI ti)), (0, .ref b)]) hx hb dL_law_584 hl (by decide) rfl (fun ls hl => ?_)
                    refine lv_iload hx hb dL_law_586 (lv_at hl 0 rfl) ?_
                    refine lv_if_ge (tgt := 595) hx hb dL_law_588 (by decide) (fun c_18 => absurd c_18 (by decide)) (fun _ => ?_)
                    refine lv_iconst (v := 1) hx hb dL_law_591 (by decide) ?_
                    refine lv_goto (tgt := 596) hx hb dL_law_592 (by decide) ?_
                    refine lv_aload_n hx hb dL_law_596 rfl (lv_at hl 7 rfl) ?_
                    refine lv_iload hx hb dL_law_597 (lv_at hl 3 rfl) ?_
                    refine lv_iconst (v := 0) hx hb dL_law_599 (by decide) ?_
                    refine lv_iconst (v := 0) hx hb dL_law_600 (by decide) ?_
                    refine kn_i (va_runV (As := [.int (nI k), .int 0, .int 0]) (rest := [.int 1]) ⟨hx, hb, hml, hown, htT⟩ (c_toldX l D cA _ Y2 x ggv.c.hx ar ggv.c.q0 ak ggv.c.q1 ggv.c.kk ggv.c.R k q8_k a_k ja_k (nI k) sw_k (nI 0) (ggv.vko hk ja_k evc (v := 0) (by omega) hvc4) 0 (by decide)) (cwV 3 htT (kg_V m_ml_L_70 m_im_X5_told m_sl_X5_told m_in_X5 m_cd_X5_told) rfl rfl rfl (by decide +kernel) ⟨Nat.le_of_ble_eq_true rfl, Nat.le_of_ble_eq_true rfl⟩) (kn_V hK hP hD hTB ggv.c.hx (Nat.le_of_ble_eq_true rfl) rfl) rfl rfl hl.1 rfl (lv_room (Nat.le_of_ble_eq_true rfl)) dL_law_601 ⟨(by show _ ≤ 600086; omega), (by show _ ≤ 7301442; omega)⟩) hP hD hS hA (fun r_19 x_19 H locs hq_19 hP hD hS => ?_)
                    rw [hq_19.2] at hP hD
                    rw [hq_19.1.trans (ggv.told0 hk ja_k (v := 0) (by omega))]
                    have hnt_19 := nT_le M.2 (nI k) (nI 0) na
                    have hz_19 := hall 0 (by omega)
                    refine lv_aload_n hx hb dL_law_604 rfl (lv_at hl 7 rfl) ?_
                    refine lv_iload hx hb dL_law_605 (lv_at hl 3 rfl) ?_
                    refine lv_iconst (v := 1) hx hb dL_law_607 (by decide) ?_
                    refine lv_iconst (v := 0) hx hb dL_law_608 (by decide) ?_
                    refine kn_i (va_runV (As := [.int (nI k), .int 1, .int 0]) (rest := [.int (nI (nT M.2 (nI k) (nI 0) na)), .int 1]) ⟨hx, hb, hml, hown, htT⟩ (c_toldX l D cA _ Y2 x ggv.c.hx ar ggv.c.q0 ak ggv.c.q1 ggv.c.kk ggv.c.R k q8_k a_k ja_k (nI k) sw_k (nI 1) (ggv.vko hk ja_k evc (v := 1) (by omega) hvc4) 0 (by decide)) (cwV 3 htT (kg_V m_ml_L_70 m_im_X5_told m_sl_X5_told m_in_X5 m_cd_X5_told) rfl rfl rfl (by decide +kernel) ⟨Nat.le_of_ble_eq_true rfl, Nat.le_of_ble_eq_true rfl⟩) (kn_V hK hP hD hTB ggv.c.hx (Nat.le_of_ble_eq_true rfl) rfl) rfl rfl hl.1 rfl (lv_room (Nat.le_of_ble_eq_true rfl)) dL_law_609 ⟨(by show _ ≤ 600086; omega), (by show _ ≤ 7301442; omega)⟩) hP hD hS hA (fun r_20 x_20 H locs hq_20 hP hD hS => ?_)
                    rw [hq_20.2] at hP hD
                    rw [hq_20.1.trans (ggv.told0 hk ja_k (v := 1) (by omega))]
                    have hnt_20 := nT_le M.2 (nI k) (nI 1) na
                    have hz_20 := hall 1 (by omega)
                    refine lv_iadd hx hb dL_law_612 ?_
                    rw [show ((nI (nT M.2 (nI k) (nI 0) na)) + (nI (nT M.2 (nI k) (nI 1) na)) : Int32) = nI ((nT M.2 (nI k) (nI 0) na) + (nT M.2 (nI k) (nI 1) na)) from nI_add (nT M.2 (nI k) (nI 0) na) (nT M.2 (nI k) (nI 1) na)]
                    refine lv_iload hx hb dL_law_613 (lv_at hl 2 rfl) ?_
                    refine lv_iconst (v := 2) hx hb dL_law_615 (by decide) ?_
                    refine lv_icmp_le (tgt := 630) hx hb dL_law_616 (by decide) (fun c_21 => ?_) (fun c_21 => ?_)
                    · replace c_21 := (nI_leI (a := vcT M k) (b := 2) (by omega) (by omega)).mp c_21
                      refine lv_iconst (v := 0) hx hb dL_law_630 (by decide) ?_
                      refine lv_iadd hx hb dL_law_631 ?_
                      rw [show ((nI ((nT M.2 (nI k) (nI 0) na) + (nT M.2 (nI k) (nI 1) na))) + 0 : Int32) = nI (((nT M.2 (nI k) (nI 0) na) + (nT M.2 (nI k) (nI 1) na)) + 0) from nI_add ((nT M.2 (nI k) (nI 0) na) + (nT M.2 (nI k) (nI 1) na)) 0]
                      refine lv_iload hx hb dL_law_632 (lv_at hl 2 rfl) ?_
                      refine lv_iconst (v := 3) hx hb dL_law_634 (by decide) ?_
                      refine lv_icmp_le (tgt := 649) hx hb dL_law_635 (by decide) (fun c_22 => ?_) (fun c_22 => ?_)
                      · replace c_22 := (nI_leI (a := vcT M k) (b := 3) (by omega) (by omega)).mp c_22
                        refine lv_iconst (v := 0) hx hb dL_law_649 (by decide) ?_
                        refine lv_iadd hx hb dL_law_650 ?_
                        rw [show ((nI (((nT M.2 (nI k) (nI 0) na) + (nT M.2 (nI k) (nI 1) na)) + 0)) + 0 : Int32) = nI ((((nT M.2 (nI k) (nI 0) na) + (nT M.2 (nI k) (nI 1) na)) + 0) + 0) from nI_add (((nT M.2 (nI k) (nI 0) na) + (nT M.2 (nI k) (nI 1) na)) + 0) 0]
                        refine lv_if_ne (tgt := 658) hx hb dL_law_651 (by decide) (fun c_23 => ?_) (fun c_23 => ?_)
                        · replace c_23 : ¬ ((((nT M.2 (nI k) (nI 0) na) + (nT M.2 (nI k) (nI 1) na)) + 0) + 0 = 0) := fun h9 => c_23 ((nI_eq (a := (((nT M.2 (nI k) (nI 0) na) + (nT M.2 (nI k) (nI 1) na)) + 0) + 0) (b := 0) (by omega) (by omega)).mpr h9)
                          refine lv_iconst (v := 0) hx hb dL_law_658 (by decide) ?_
                          refine lv_icmp_ne (tgt := 679) hx hb dL_law_659 (by decide) (fun _ => ?_) (fun c_24 => absurd c_24 (by decide))
                          exfalso; omega
                        · replace c_23 := (nI_eq (a := (((nT M.2 (nI k) (nI 0) na) + (nT M.2 (nI k) (nI 1) na)) + 0) + 0) (b := 0) (by omega) (by omega)).mp c_23
                          refine lv_iconst (v := 1) hx hb dL_law_654 (by decide) ?_
                          refine lv_goto (tgt := 659) hx hb dL_law_655 (by decide) ?_
                          refine lv_icmp_ne (tgt := 679) hx hb dL_law_659 (by decide) (fun c_25 => absurd c_25 (by decide)) (fun _ => ?_)
                          refine lv_aload_n hx hb dL_law_662 rfl (lv_at hl 7 rfl) ?_
                          refine lv_iload hx hb dL_law_663 (lv_at hl 3 rfl) ?_
                          refine lv_aload_n hx hb dL_law_665 rfl (lv_at hl 7 rfl) ?_
                          refine lv_iload hx hb dL_law_666 (lv_at hl 3 rfl) ?_
                          refine kn_i (va_runV (As := [.int (nI k)]) (rest := [.int (nI k), .ref x]) ⟨hx, hb, hml, hown, htT⟩ (c_share l D cA _ Y2 x ggv.c.hx ar ggv.c.q0 ak ggv.c.q1 ggv.c.kk ggv.c.R k q8_k a_k ja_k (nI k) sw_k) (cwV 1 htT (kg_V m_ml_L_86 m_im_X5_share m_sl_X5_share m_in_X5 m_cd_X5_share) rfl rfl rfl (by decide +kernel) ⟨Nat.le_of_ble_eq_true rfl, Nat.le_of_ble_eq_true rfl⟩) (kn_V hK hP hD hTB ggv.c.hx (Nat.le_of_ble_eq_true rfl) rfl) rfl rfl hl.1 rfl (lv_room (Nat.le_of_ble_eq_true rfl)) dL_law_668 ⟨(by show _ ≤ 600086; omega), (by show _ ≤ 7301442; omega)⟩) hP hD hS hA (fun r_26 x_26 H locs hq_26 hP hD hS => ?_)
                          rw [hq_26.2] at hP hD
                          rw [hq_26.1.trans ((ggv.far hk ja_k).trans es0)]
                          refine lv_bipush (v := 20) hx hb dL_law_671 (by decide) ?_
                          refine kn_i (va_runV (As := [.int (nI k), .int (nI s0), .int 20]) (rest := []) ⟨hx, hb, hml, hown, htT⟩ (c_wouldChangeX l D cA _ Y2 x ggv.c.hx ar ggv.c.q0 ak ggv.c.q1 ggv.c.kk ggv.c.R k q8_k a_k ja_k (nI k) sw_k (nI s0) (kOut_n (a := s0) (lo := 0) (hi := 1000) (by omega) (by omega) (by omega)) 20 (by decide) (by decide) (by decide) (fun u => (rBy M na ru k u).1) (by_eq ggv.l ggv.c hok ggv.y rfl rfl hk ja_k) (rNw M na ru k (nI s0)) (wc_eq ggv.l ggv.c hok ggv.y rfl rfl hk ja_k)) (cwV 3 htT (kg_V m_ml_L_95 m_im_X5_wouldChange m_sl_X5_wouldChange m_in_X5 m_cd_X5_wouldChange) rfl rfl rfl (by decide +kernel) ⟨Nat.le_of_ble_eq_true rfl, Nat.le_of_ble_eq_true rfl⟩) (kn_V hK hP hD hTB ggv.c.hx (Nat.le_of_ble_eq_true rfl) rfl) rfl rfl hl.1 rfl (lv_room (Nat.le_of_ble_eq_true rfl)) dL_law_673 ⟨(by show _ ≤ 600086; omega), (by show _ ≤ 7301442; omega)⟩) hP hD hS hA (fun r_27 x_27 H locs hq_27 hP hD hS => ?_)
                          have gg_27 : GG n na x_27 M x ar ak := ggv.eA hq_27.2
                          obtain ⟨a_k, ja_k⟩ := gg_27.c.row k (by omega)
                          have sw_k := gg_27.sw2 (by omega) ja_k
                          rw [hq_27.1.trans (would_0 es0)]
                          refine lv_if_eq (tgt := 681) hx hb dL_law_676 (by decide) (fun _ => ?_) (fun c_28 => absurd c_28 (by decide))
                          refine lv_iconst (v := 0) hx hb dL_law_681 (by decide) ?_
                          refine lv_istore (lv' := [(12, .int 0), (11, .int (-1)), (10, .int 20), (9, .int (nI (vcT M k))), (8, .int (nI k)), (7, .int (nI (aa + sumN (fun v => nT M.2 (nI k) (nI v) na) (vcT M k)))), (5, .long bq), (4, .int (nI sp)), (3, .ref x), (2, .ref d), (1, .int (nI ti)), (0, .ref b)]) hx hb dL_law_682 hl (by decide) rfl (fun ls hl => ?_)
                          refine kz_loopD 684 (fun N9 H locs ls => ∃ (i2 : Nat), N9 = (vcT M k) - i2 ∧ i2 ≤ (vcT M k) ∧ va_P D vwCl (PW cA U ++ PW cA x_27) H ∧ va_D A (PW cA U ++ PW cA x_27) ∧ va_S A s.heap H locs ∧ lv_has ls 16 [(12, .int (nI i2)), (11, .int (-1)), (9, .int (nI (vcT M k))), (8, .int (nI k)), (7, .int (nI (aa + sumN (fun v => nT M.2 (nI k) (nI v) na) (vcT M k)))), (5, .long bq), (4, .int (nI sp)), (3, .ref x), (2, .ref d), (1, .int (nI ti)), (0, .ref b)]) (fun N9 ih_684 H locs ls e_684 hd0 hI => ?_) hd0 ⟨0, rfl, Nat.zero_le _, hP, hD, hS, lv_sub hl [0, 1, 3, 4, 5, 6, 7, 8, 9, 10, 11] rfl⟩
                          obtain ⟨i2, hn9, hi29, hP, hD, hS, hl⟩ := hI
                          have htT : ∀ w ∈ TT, w.before _ (s.setDrawn e_684) = true := dr_words htT0 e_684
                          have hTB : TBok (s.setDrawn e_684) := TBok.same (u := s) (U := s.setDrawn e_684) rfl (Vm.Alike.refl s.vm) hTB0
                          have hK : va_K D vwCl (ty6 cA) (s.setDrawn e_684) := hK0
                          have hown : (s.setDrawn e_684).vm.findClass RL = some m.cls := hown0
                          have hTX : TXok A (s.setDrawn e_684) := hTX0.dr e_684
                          have hX : va_X b L xs (s.setDrawn e_684) (s.setDrawn e_684).heap := hX0
                          have hAO : va_AOA .int (s.setDrawn e_684) ∧ va_AOA (.array .int) (s.setDrawn e_684) := ⟨va_AOA.moved (u := s) (U := s.setDrawn e_684) (Vm.Alike.refl s.vm) hAO0.1, va_AOA.moved (u := s) (U := s.setDrawn e_684) (Vm.Alike.refl s.vm) hAO0.2⟩
                          refine lv_iload hx hb dL_law_684 (lv_at hl 0 rfl) ?_
                          refine lv_iload hx hb dL_law_686 (lv_at hl 2 rfl) ?_
                          refine lv_icmp_ge (tgt := 736) hx hb dL_law_688 (by decide) (fun c_29 => ?_) (fun c_29 => ?_)
                          · replace c_29 := (nI_leI (a := vcT M k) (b := i2) (by omega) (by omega)).mp c_29
                            exact hcut736 H locs _ e_684 hd0 ⟨x_27, gg_27, hP, hD, hS, lv_sub hl [2, 3, 4, 5, 6, 7, 8, 9, 10] rfl⟩
                          · replace c_29 : ¬ (vcT M k ≤ i2) := fun h9 => c_29 ((nI_leI (a := vcT M k) (b := i2) (by omega) (by omega)).mpr h9)
                            refine lv_iload hx hb dL_law_691 (lv_at hl 1 rfl) ?_
                            refine lv_if_lt (tgt := 736) hx hb dL_law_693 (by decide) (fun _ => ?_) (fun c_30 => absurd c_30 (by decide))
                            exact hcut736 H locs _ e_684 hd0 ⟨x_27, gg_27, hP, hD, hS, lv_sub hl [2, 3, 4, 5, 6, 7, 8, 9, 10] rfl⟩
                      · replace c_22 : ¬ (vcT M k ≤ 3) := fun h9 => c_22 ((nI_leI (a := vcT M k) (b := 3) (by omega) (by omega)).mpr h9)
                        refine lv_aload_n hx hb dL_law_638 rfl (lv_at hl 7 rfl) ?_
                        refine lv_iload hx hb dL_law_639 (lv_at hl 3 rfl) ?_
                        refine lv_iconst (v := 3) hx hb dL_law_641 (by decide) ?_
                        refine lv_iconst (v := 0) hx hb dL_law_642 (by decide) ?_
                        refine kn_i (va_runV (As := [.int (nI k), .int 3, .int 0]) (rest := [.int (nI (((nT M.2 (nI k) (nI 0) na) + (nT M.2 (nI k) (nI 1) na)) + 0)), .int 1]) ⟨hx, hb, hml, hown, htT⟩ (c_toldX l D cA _ Y2 x ggv.c.hx ar ggv.c.q0 ak ggv.c.q1 ggv.c.kk ggv.c.R k q8_k a_k ja_k (nI k) sw_k (nI 3) (ggv.vko hk ja_k evc (v := 3) (by omega) hvc4) 0 (by decide)) (cwV 3 htT (kg_V m_ml_L_70 m_im_X5_told m_sl_X5_told m_in_X5 m_cd_X5_told) rfl rfl rfl (by decide +kernel) ⟨Nat.le_of_ble_eq_true rfl, Nat.le_of_ble_eq_true rfl⟩) (kn_V hK hP hD hTB ggv.c.hx (Nat.le_of_ble_eq_true rfl) rfl) rfl rfl hl.1 rfl (lv_room (Nat.le_of_ble_eq_true rfl)) dL_law_643 ⟨(by show _ ≤ 600086; omega), (by show _ ≤ 7301442; omega)⟩) hP hD hS hA (fun r_31 x_31 H locs hq_31 hP hD hS => ?_)
                        rw [hq_31.2] at hP hD
                        rw [hq_31.1.trans (ggv.told0 hk ja_k (v := 3) (by omega))]
                        have hnt_31 := nT_le M.2 (nI k) (nI 3) na
                        have hz_31 := hall 3 (by omega)
                        refine lv_goto (tgt := 650) hx hb dL_law_646 (by decide) ?_
                        refine lv_iadd hx hb dL_law_650 ?_
                        rw [show ((nI (((nT M.2 (nI k) (nI 0) na) + (nT M.2 (nI k) (nI 1) na)) + 0)) + (nI (nT M.2 (nI k) (nI 3) na)) : Int32) = nI ((((nT M.2 (nI k) (nI 0) na) + (nT M.2 (nI k) (nI 1) na)) + 0) + (nT M.2 (nI k) (nI 3) na)) from nI_add (((nT M.2 (nI k) (nI 0) na) + (nT M.2 (nI k) (nI 1) na)) + 0) (nT M.2 (nI k) (nI 3) na)]
                        refine lv_if_ne (tgt := 658) hx hb dL_law_651 (by decide) (fun c_32 => ?_) (fun c_32 => ?_)
                        · replace c_32 : ¬ ((((nT M.2 (nI k) (nI 0) na) + (nT M.2 (nI k) (nI 1) na)) + 0) + (nT M.2 (nI k) (nI 3) na) = 0) := fun h9 => c_32 ((nI_eq (a := (((nT M.2 (nI k) (nI 0) na) + (nT M.2 (nI k) (nI 1) na)) + 0) + (nT M.2 (nI k) (nI 3) na)) (b := 0) (by omega) (by omega)).mpr h9)
                          refine lv_iconst (v := 0) hx hb dL_law_658 (by decide) ?_
                          refine lv_icmp_ne (tgt := 679) hx hb dL_law_659 (by decide) (fun _ => ?_) (fun c_33 => absurd c_33 (by decide))
                          exfalso; omega
                        · replace c_32 := (nI_eq (a := (((nT M.2 (nI k) (nI 0) na) + (nT M.2 (nI k) (nI 1) na)) + 0) + (nT M.2 (nI k) (nI 3) na)) (b := 0) (by omega) (by omega)).mp c_32
                          refine lv_iconst (v := 1) hx hb dL_law_654 (by decide) ?_
                          refine lv_goto (tgt := 659) hx hb dL_law_655 (by decide) ?_
                          refine lv_icmp_ne (tgt := 679) hx hb dL_law_659 (by decide) (fun c_34 => absurd c_34 (by decide)) (fun _ => ?_)
                          refine lv_aload_n hx hb dL_law_662 rfl (lv_at hl 7 rfl) ?_
                          refine lv_iload hx hb dL_law_663 (lv_at hl 3 rfl) ?_
                          refine lv_aload_n hx hb dL_law_665 rfl (lv_at hl 7 rfl) ?_
                          refine lv_iload hx hb dL_law_666 (lv_at hl 3 rfl) ?_
                          refine kn_i (va_runV (As := [.int (nI k)]) (rest := [.int (nI k), .ref x]) ⟨hx, hb, hml, hown, htT⟩ (c_share l D cA _ Y2 x ggv.c.hx ar ggv.c.q0 ak ggv.c.q1 ggv.c.kk ggv.c.R k q8_k a_k ja_k (nI k) sw_k) (cwV 1 htT (kg_V m_ml_L_86 m_im_X5_share m_sl_X5_share m_in_X5 m_cd_X5_share) rfl rfl rfl (by decide +kernel) ⟨Nat.le_of_ble_eq_true rfl, Nat.le_of_ble_eq_true rfl⟩) (kn_V hK hP hD hTB ggv.c.hx (Nat.le_of_ble_eq_true rfl) rfl) rfl rfl hl.1 rfl (lv_room (Nat.le_of_ble_eq_true rfl)) dL_law_668 ⟨(by show _ ≤ 600086; omega), (by show _ ≤ 7301442; omega)⟩) hP hD hS hA (fun r_35 x_35 H locs hq_35 hP hD hS => ?_)
                          rw [hq_35.2] at hP hD
                          rw [hq_35.1.trans ((ggv.far hk ja_k).trans es0)]
                          refine lv_bipush (v := 20) hx hb dL_law_671 (by decide) ?_
                          refine kn_i (va_runV (As := [.int (nI k), .int (nI s0), .int 20]) (rest := []) ⟨hx, hb, hml, hown, htT⟩ (c_wouldChangeX l D cA _ Y2 x ggv.c.hx ar ggv.c.q0 ak ggv.c.q1 ggv.c.kk ggv.c.R k q8_k a_k ja_k (nI k) sw_k (nI s0) (kOut_n (a := s0) (lo := 0) (hi := 1000) (by omega) (by omega) (by omega)) 20 (by decide) (by decide) (by decide) (fun u => (rBy M na ru k u).1) (by_eq ggv.l ggv.c hok ggv.y rfl rfl hk ja_k) (rNw M na ru k (nI s0)) (wc_eq ggv.l ggv.c hok ggv.y rfl rfl hk ja_k)) (cwV 3 htT (kg_V m_ml_L_95 m_im_X5_wouldChange m_sl_X5_wouldChange m_in_X5 m_cd_X5_wouldChange) rfl rfl rfl (by decide +kernel) ⟨Nat.le_of_ble_eq_true rfl, Nat.le_of_ble_eq_true rfl⟩) (kn_V hK hP hD hTB ggv.c.hx (Nat.le_of_ble_eq_true rfl) rfl) rfl rfl hl.1 rfl (lv_room (Nat.le_of_ble_eq_true rfl)) dL_law_673 ⟨(by show _ ≤ 600086; omega), (by show _ ≤ 7301442; omega)⟩) hP hD hS hA (fun r_36 x_36 H locs hq_36 hP hD hS => ?_)
                          have gg_36 : GG n na x_36 M x ar ak := ggv.eA hq_36.2
                          obtain ⟨a_k, ja_k⟩ := gg_36.c.row k (by omega)
                          have sw_k := gg_36.sw2 (by omega) ja_k
                          rw [hq_36.1.trans (would_0 es0)]
                          refine lv_if_eq (tgt := 681) hx hb dL_law_676 (by decide) (fun _ => ?_) (fun c_37 => absurd c_37 (by decide))
                          refine lv_iconst (v := 0) hx hb dL_law_681 (by decide) ?_
                          refine lv_istore (lv' := [(12, .int 0), (11, .int (-1)), (10, .int 20), (9, .int (nI (vcT M k))), (8, .int (nI k)), (7, .int (nI (aa + sumN (fun v => nT M.2 (nI k) (nI v) na) (vcT M k)))), (5, .long bq), (4, .int (nI sp)), (3, .ref x), (2, .ref d), (1, .int (nI ti)), (0, .ref b)]) hx hb dL_law_682 hl (by decide) rfl (fun ls hl => ?_)
                          refine kz_loopD 684 (fun N9 H locs ls => ∃ (i2 : Nat), N9 = (vcT M k) - i2 ∧ i2 ≤ (vcT M k) ∧ va_P D vwCl (PW cA U ++ PW cA x_36) H ∧ va_D A (PW cA U ++ PW cA x_36) ∧ va_S A s.heap H locs ∧ lv_has ls 16 [(12, .int (nI i2)), (11, .int (-1)), (9, .int (nI (vcT M k))), (8, .int (nI k)), (7, .int (nI (aa + sumN (fun v => nT M.2 (nI k) (nI v) na) (vcT M k)))), (5, .long bq), (4, .int (nI sp)), (3, .ref x), (2, .ref d), (1, .int (nI ti)), (0, .ref b)]) (fun N9 ih_684 H locs ls e_684 hd0 hI => ?_) hd0 ⟨0, rfl, Nat.zero_le _, hP, hD, hS, lv_sub hl [0, 1, 3, 4, 5, 6, 7, 8, 9, 10, 11] rfl⟩
                          obtain ⟨i2, hn9, hi29, hP, hD, hS, hl⟩ := hI
                          have htT : ∀ w ∈ TT, w.before _ (s.setDrawn e_684) = true := dr_words htT0 e_684
                          have hTB : TBok (s.setDrawn e_684) := TBok.same (u := s) (U := s.setDrawn e_684) rfl (Vm.Alike.refl s.vm) hTB0
                          have hK : va_K D vwCl (ty6 cA) (s.setDrawn e_684) := hK0
                          have hown : (s.setDrawn e_684).vm.findClass RL = some m.cls := hown0
                          have hTX : TXok A (s.setDrawn e_684) := hTX0.dr e_684
                          have hX : va_X b L xs (s.setDrawn e_684) (s.setDrawn e_684).heap := hX0
                          have hAO : va_AOA .int (s.setDrawn e_684) ∧ va_AOA (.array .int) (s.setDrawn e_684) := ⟨va_AOA.moved (u := s) (U := s.setDrawn e_684) (Vm.Alike.refl s.vm) hAO0.1, va_AOA.moved (u := s) (U := s.setDrawn e_684) (Vm.Alike.refl s.vm) hAO0.2⟩
                          refine lv_iload hx hb dL_law_684 (lv_at hl 0 rfl) ?_
                          refine lv_iload hx hb dL_law_686 (lv_at hl 2 rfl) ?_
                          refine lv_icmp_ge (tgt := 736) hx hb dL_law_688 (by decide) (fun c_38 => ?_) (fun c_38 => ?_)
                          · replace c_38 := (nI_leI (a := vcT M k) (b := i2) (by omega) (by omega)).mp c_38
                            exact hcut736 H locs _ e_684 hd0 ⟨x_36, gg_36, hP, hD, hS, lv_sub hl [2, 3, 4, 5, 6, 7, 8, 9, 10] rfl⟩
                          · replace c_38 : ¬ (vcT M k ≤ i2) := fun h9 => c_38 ((nI_leI (a := vcT M k) (b := i2) (by omega) (by omega)).mpr h9)
                            refine lv_iload hx hb dL_law_691 (lv_at hl 1 rfl) ?_
                            refine lv_if_lt (tgt := 736) hx hb dL_law_693 (by decide) (fun _ => ?_) (fun c_39 => absurd c_39 (by decide))
                            exact hcut736 H locs _ e_684 hd0 ⟨x_36, gg_36, hP, hD, hS, lv_sub hl [2, 3, 4, 5, 6, 7, 8, 9, 10] rfl⟩
                    · replace c_21 : ¬ (vcT M k ≤ 2) := fun h9 => c_21 ((nI_leI (a := vcT M k) (b := 2) (by omega) (by omega)).mpr h9)
                      refine lv_aload_n hx hb dL_law_619 rfl (lv_at hl 7 rfl) ?_
                      refine lv_iload hx hb dL_law_620 (lv_at hl 3 rfl) ?_
                      refine lv_iconst (v := 2) hx hb dL_law_622 (by decide) ?_
                      refine lv_iconst (v := 0) hx hb dL_law_623 (by decide) ?_
                      refine kn_i (va_runV (As := [.int (nI k), .int 2, .int 0]) (rest := [.int (nI ((nT M.2 (nI k) (nI 0) na) + (nT M.2 (nI k) (nI 1) na))), .int 1]) ⟨hx, hb, hml, hown, htT⟩ (c_toldX l D cA _ Y2 x ggv.c.hx ar ggv.c.q0 ak ggv.c.q1 ggv.c.kk ggv.c.R k q8_k a_k ja_k (nI k) sw_k (nI 2) (ggv.vko hk ja_k evc (v := 2) (by omega) hvc4) 0 (by decide)) (cwV 3 htT (kg_V m_ml_L_70 m_im_X5_told m_sl_X5_told m_in_X5 m_cd_X5_told) rfl rfl rfl (by decide +kernel) ⟨Nat.le_of_ble_eq_true rfl, Nat.le_of_ble_eq_true rfl⟩) (kn_V hK hP hD hTB ggv.c.hx (Nat.le_of_ble_eq_true rfl) rfl) rfl rfl hl.1 rfl (lv_room (Nat.le_of_ble_eq_true rfl)) dL_law_624 ⟨(by show _ ≤ 600086; omega), (by show _ ≤ 7301442; omega)⟩) hP hD hS hA (fun r_40 x_40 H locs hq_40 hP hD hS => ?_)
                      rw [hq_40.2] at hP hD
                      rw [hq_40.1.trans (ggv.told0 hk ja_k (v := 2) (by omega))]
                      have hnt_40 := nT_le M.2 (nI k) (nI 2) na
                      have hz_40 := hall 2 (by omega)
                      refine lv_goto (tgt := 631) hx hb dL_law_627 (by decide) ?_
                      refine lv_iadd hx hb dL_law_631 ?_
                      rw [show ((nI ((nT M.2 (nI k) (nI 0) na) + (nT M.2 (nI k) (nI 1) na))) + (nI (nT M.2 (nI k) (nI 2) na)) : Int32) = nI (((nT M.2 (nI k) (nI 0) na) + (nT M.2 (nI k) (nI 1) na)) + (nT M.2 (nI k) (nI 2) na)) from nI_add ((nT M.2 (nI k) (nI 0) na) + (nT M.2 (nI k) (nI 1) na)) (nT M.2 (nI k) (nI 2) na)]
                      refine lv_iload hx hb dL_law_632 (lv_at hl 2 rfl) ?_
                      refine lv_iconst (v := 3) hx hb dL_law_634 (by decide) ?_
                      refine lv_icmp_le (tgt := 649) hx hb dL_law_635 (by decide) (fun c_41 => ?_) (fun c_41 => ?_)
                      · replace c_41 := (nI_leI (a := vcT M k) (b := 3) (by omega) (by omega)).mp c_41
                        refine lv_iconst (v := 0) hx hb dL_law_649 (by decide) ?_
                        refine lv_iadd hx hb dL_law_650 ?_
                        rw [show ((nI (((nT M.2 (nI k) (nI 0) na) + (nT M.2 (nI k) (nI 1) na)) + (nT M.2 (nI k) (nI 2) na))) + 0 : Int32) = nI ((((nT M.2 (nI k) (nI 0) na) + (nT M.2 (nI k) (nI 1) na)) + (nT M.2 (nI k) (nI 2) na)) + 0) from nI_add (((nT M.2 (nI k) (nI 0) na) + (nT M.2 (nI k) (nI 1) na)) + (nT M.2 (nI k) (nI 2) na)) 0]
                        refine lv_if_ne (tgt := 658) hx hb dL_law_651 (by decide) (fun c_42 => ?_) (fun c_42 => ?_)
                        · replace c_42 : ¬ ((((nT M.2 (nI k) (nI 0) na) + (nT M.2 (nI k) (nI 1) na)) + (nT M.2 (nI k) (nI 2) na)) + 0 = 0) := fun h9 => c_42 ((nI_eq (a := (((nT M.2 (nI k) (nI 0) na) + (nT M.2 (nI k) (nI 1) na)) + (nT M.2 (nI k) (nI 2) na)) + 0) (b := 0) (by omega) (by omega)).mpr h9)
                          refine lv_iconst (v := 0) hx hb dL_law_658 (by decide) ?_
                          refine lv_icmp_ne (tgt := 679) hx hb dL_law_659 (by decide) (fun _ => ?_) (fun c_43 => absurd c_43 (by decide))
                          exfalso; omega
                        · replace c_42 := (nI_eq (a := (((nT M.2 (nI k) (nI 0) na) + (nT M.2 (nI k) (nI 1) na)) + (nT M.2 (nI k) (nI 2) na)) + 0) (b := 0) (by omega) (by omega)).mp c_42
                          refine lv_iconst (v := 1) hx hb dL_law_654 (by decide) ?_
                          refine lv_goto (tgt := 659) hx hb dL_law_655 (by decide) ?_
                          refine lv_icmp_ne (tgt := 679) hx hb dL_law_659 (by decide) (fun c_44 => absurd c_44 (by decide)) (fun _ => ?_)
                          refine lv_aload_n hx hb dL_law_662 rfl (lv_at hl 7 rfl) ?_
                          refine lv_iload hx hb dL_law_663 (lv_at hl 3 rfl) ?_
                          refine lv_aload_n hx hb dL_law_665 rfl (lv_at hl 7 rfl) ?_
                          refine lv_iload hx hb dL_law_666 (lv_at hl 3 rfl) ?_
                          refine kn_i (va_runV (As := [.int (nI k)]) (rest := [.int (nI k), .ref x]) ⟨hx, hb, hml, hown, htT⟩ (c_share l D cA _ Y2 x ggv.c.hx ar ggv.c.q0 ak ggv.c.q1 ggv.c.kk ggv.c.R k q8_k a_k ja_k (nI k) sw_k) (cwV 1 htT (kg_V m_ml_L_86 m_im_X5_share m_sl_X5_share m_in_X5 m_cd_X5_share) rfl rfl rfl (by decide +kernel) ⟨Nat.le_of_ble_eq_true rfl, Nat.le_of_ble_eq_true rfl⟩) (kn_V hK hP hD hTB ggv.c.hx (Nat.le_of_ble_eq_true rfl) rfl) rfl rfl hl.1 rfl (lv_room (Nat.le_of_ble_eq_true rfl)) dL_law_668 ⟨(by show _ ≤ 600086; omega), (by show _ ≤ 7301442; omega)⟩) hP hD hS hA (fun r_45 x_45 H locs hq_45 hP hD hS => ?_)
                          rw [hq_45.2] at hP hD
                          rw [hq_45.1.trans ((ggv.far hk ja_k).trans es0)]
                          refine lv_bipush (v := 20) hx hb dL_law_671 (by decide) ?_
                          refine kn_i (va_runV (As := [.int (nI k), .int (nI s0), .int 20]) (rest := []) ⟨hx, hb, hml, hown, htT⟩ (c_wouldChangeX l D cA _ Y2 x ggv.c.hx ar ggv.c.q0 ak ggv.c.q1 ggv.c.kk ggv.c.R k q8_k a_k ja_k (nI k) sw_k (nI s0) (kOut_n (a := s0) (lo := 0) (hi := 1000) (by omega) (by omega) (by omega)) 20 (by decide) (by decide) (by decide) (fun u => (rBy M na ru k u).1) (by_eq ggv.l ggv.c hok ggv.y rfl rfl hk ja_k) (rNw M na ru k (nI s0)) (wc_eq ggv.l ggv.c hok ggv.y rfl rfl hk ja_k)) (cwV 3 htT (kg_V m_ml_L_95 m_im_X5_wouldChange m_sl_X5_wouldChange m_in_X5 m_cd_X5_wouldChange) rfl rfl rfl (by decide +kernel) ⟨Nat.le_of_ble_eq_true rfl, Nat.le_of_ble_eq_true rfl⟩) (kn_V hK hP hD hTB ggv.c.hx (Nat.le_of_ble_eq_true rfl) rfl) rfl rfl hl.1 rfl (lv_room (Nat.le_of_ble_eq_true rfl)) dL_law_673 ⟨(by show _ ≤ 600086; omega), (by show _ ≤ 7301442; omega)⟩) hP hD hS hA (fun r_46 x_46 H locs hq_46 hP hD hS => ?_)
                          have gg_46 : GG n na x_46 M x ar ak := ggv.eA hq_46.2
                          obtain ⟨a_k, ja_k⟩ := gg_46.c.row k (by omega)
                          have sw_k := gg_46.sw2 (by omega) ja_k
                          rw [hq_46.1.trans (would_0 es0)]
                          refine lv_if_eq (tgt := 681) hx hb dL_law_676 (by decide) (fun _ => ?_) (fun c_47 => absurd c_47 (by decide))
                          refine lv_iconst (v := 0) hx hb dL_law_681 (by decide) ?_
                          refine lv_istore (lv' := [(12, .int 0), (11, .int (-1)), (10, .int 20), (9, .int (nI (vcT M k))), (8, .int (nI k)), (7, .int (nI (aa + sumN (fun v => nT M.2 (nI k) (nI v) na) (vcT M k)))), (5, .long bq), (4, .int (nI sp)), (3, .ref x), (2, .ref d), (1, .int (nI ti)), (0, .ref b)]) hx hb dL_law_682 hl (by decide) rfl (fun ls hl => ?_)
                          refine kz_loopD 684 (fun N9 H locs ls => ∃ (i2 : Nat), N9 = (vcT M k) - i2 ∧ i2 ≤ (vcT M k) ∧ va_P D vwCl (PW cA U ++ PW cA x_46) H ∧ va_D A (PW cA U ++ PW cA x_46) ∧ va_S A s.heap H locs ∧ lv_has ls 16 [(12, .int (nI i2)), (11, .int (-1)), (9, .int (nI (vcT M k))), (8, .int (nI k)), (7, .int (nI (aa + sumN (fun v => nT M.2 (nI k) (nI v) na) (vcT M k)))), (5, .long bq), (4, .int (nI sp)), (3, .ref x), (2, .ref d), (1, .int (nI ti)), (0, .ref b)]) (fun N9 ih_684 H locs ls e_684 hd0 hI => ?_) hd0 ⟨0, rfl, Nat.zero_le _, hP, hD, hS, lv_sub hl [0, 1, 3, 4, 5, 6, 7, 8, 9, 10, 11] rfl⟩
                          obtain ⟨i2, hn9, hi29, hP, hD, hS, hl⟩ := hI
                          have htT : ∀ w ∈ TT, w.before _ (s.setDrawn e_684) = true := dr_words htT0 e_684
                          have hTB : TBok (s.setDrawn e_684) := TBok.same (u := s) (U := s.setDrawn e_684) rfl (Vm.Alike.refl s.vm) hTB0
                          have hK : va_K D vwCl (ty6 cA) (s.setDrawn e_684) := hK0
                          have hown : (s.setDrawn e_684).vm.findClass RL = some m.cls := hown0
                          have hTX : TXok A (s.setDrawn e_684) := hTX0.dr e_684
                          have hX : va_X b L xs (s.setDrawn e_684) (s.setDrawn e_684).heap := hX0
                          have hAO : va_AOA .int (s.setDrawn e_684) ∧ va_AOA (.array .int) (s.setDrawn e_684) := ⟨va_AOA.moved (u := s) (U := s.setDrawn e_684) (Vm.Alike.refl s.vm) hAO0.1, va_AOA.moved (u := s) (U := s.setDrawn e_684) (Vm.Alike.refl s.vm) hAO0.2⟩
                          refine lv_iload hx hb dL_law_684 (lv_at hl 0 rfl) ?_
                          refine lv_iload hx hb dL_law_686 (lv_at hl 2 rfl) ?_
                          refine lv_icmp_ge (tgt := 736) hx hb dL_law_688 (by decide) (fun c_48 => ?_) (fun c_48 => ?_)
                          · replace c_48 := (nI_leI (a := vcT M k) (b := i2) (by omega) (by omega)).mp c_48
                            exact hcut736 H locs _ e_684 hd0 ⟨x_46, gg_46, hP, hD, hS, lv_sub hl [2, 3, 4, 5, 6, 7, 8, 9, 10] rfl⟩
                          · replace c_48 : ¬ (vcT M k ≤ i2) := fun h9 => c_48 ((nI_leI (a := vcT M k) (b := i2) (by omega) (by omega)).mpr h9)
                            refine lv_iload hx hb dL_law_691 (lv_at hl 1 rfl) ?_
                            refine lv_if_lt (tgt := 736) hx hb dL_law_693 (by decide) (fun _ => ?_) (fun c_49 => absurd c_49 (by decide))
                            exact hcut736 H locs _ e_684 hd0 ⟨x_46, gg_46, hP, hD, hS, lv_sub hl [2, 3, 4, 5, 6, 7, 8, 9, 10] rfl⟩
                      · replace c_41 : ¬ (vcT M k ≤ 3) := fun h9 => c_41 ((nI_leI (a := vcT M k) (b := 3) (by omega) (by omega)).mpr h9)
                        refine lv_aload_n hx hb dL_law_638 rfl (lv_at hl 7 rfl) ?_
                        refine lv_iload hx hb dL_law_639 (lv_at hl 3 rfl) ?_
                        refine lv_iconst (v := 3) hx hb dL_law_641 (by decide) ?_
                        refine lv_iconst (v := 0) hx hb dL_law_642 (by decide) ?_
                        refine kn_i (va_runV (As := [.int (nI k), .int 3, .int 0]) (rest := [.int (nI (((nT M.2 (nI k) (nI 0) na) + (nT M.2 (nI k) (nI 1) na)) + (nT M.2 (nI k) (nI 2) na))), .int 1]) ⟨hx, hb, hml, hown, htT⟩ (c_toldX l D cA _ Y2 x ggv.c.hx ar ggv.c.q0 ak ggv.c.q1 ggv.c.kk ggv.c.R k q8_k a_k ja_k (nI k) sw_k (nI 3) (ggv.vko hk ja_k evc (v := 3) (by omega) hvc4) 0 (by decide)) (cwV 3 htT (kg_V m_ml_L_70 m_im_X5_told m_sl_X5_told m_in_X5 m_cd_X5_told) rfl rfl rfl (by decide +kernel) ⟨Nat.le_of_ble_eq_true rfl, Nat.le_of_ble_eq_true rfl⟩) (kn_V hK hP hD hTB ggv.c.hx (Nat.le_of_ble_eq_true rfl) rfl) rfl rfl hl.1 rfl (lv_room (Nat.le_of_ble_eq_true rfl)) dL_law_643 ⟨(by show _ ≤ 600086; omega), (by show _ ≤ 7301442; omega)⟩) hP hD hS hA (fun r_50 x_50 H locs hq_50 hP hD hS => ?_)
                        rw [hq_50.2] at hP hD
                        rw [hq_50.1.trans (ggv.told0 hk ja_k (v := 3) (by omega))]
                        have hnt_50 := nT_le M.2 (nI k) (nI 3) na
                        have hz_50 := hall 3 (by omega)
                        refine lv_goto (tgt := 650) hx hb dL_law_646 (by decide) ?_
                        refine lv_iadd hx hb dL_law_650 ?_
                        rw [show ((nI (((nT M.2 (nI k) (nI 0) na) + (nT M.2 (nI k) (nI 1) na)) + (nT M.2 (nI k) (nI 2) na))) + (nI (nT M.2 (nI k) (nI 3) na)) : Int32) = nI ((((nT M.2 (nI k) (nI 0) na) + (nT M.2 (nI k) (nI 1) na)) + (nT M.2 (nI k) (nI 2) na)) + (nT M.2 (nI k) (nI 3) na)) from nI_add (((nT M.2 (nI k) (nI 0) na) + (nT M.2 (nI k) (nI 1) na)) + (nT M.2 (nI k) (nI 2) na)) (nT M.2 (nI k) (nI 3) na)]
                        refine lv_if_ne (tgt := 658) hx hb dL_law_651 (by decide) (fun c_51 => ?_) (fun c_51 => ?_)
                        · replace c_51 : ¬ ((((nT M.2 (nI k) (nI 0) na) + (nT M.2 (nI k) (nI 1) na)) + (nT M.2 (nI k) (nI 2) na)) + (nT M.2 (nI k) (nI 3) na) = 0) := fun h9 => c_51 ((nI_eq (a := (((nT M.2 (nI k) (nI 0) na) + (nT M.2 (nI k) (nI 1) na)) + (nT M.2 (nI k) (nI 2) na)) + (nT M.2 (nI k) (nI 3) na)) (b := 0) (by omega) (by omega)).mpr h9)
                          refine lv_iconst (v := 0) hx hb dL_law_658 (by decide) ?_
                          refine lv_icmp_ne (tgt := 679) hx hb dL_law_659 (by decide) (fun _ => ?_) (fun c_52 => absurd c_52 (by decide))
                          exfalso; omega
                        · replace c_51 := (nI_eq (a := (((nT M.2 (nI k) (nI 0) na) + (nT M.2 (nI k) (nI 1) na)) + (nT M.2 (nI k) (nI 2) na)) + (nT M.2 (nI k) (nI 3) na)) (b := 0) (by omega) (by omega)).mp c_51
                          refine lv_iconst (v := 1) hx hb dL_law_654 (by decide) ?_
                          refine lv_goto (tgt := 659) hx hb dL_law_655 (by decide) ?_
                          refine lv_icmp_ne (tgt := 679) hx hb dL_law_659 (by decide) (fun c_53 => absurd c_53 (by decide)) (fun _ => ?_)
                          refine lv_aload_n hx hb dL_law_662 rfl (lv_at hl 7 rfl) ?_
                          refine lv_iload hx hb dL_law_663 (lv_at hl 3 rfl) ?_
                          refine lv_aload_n hx hb dL_law_665 rfl (lv_at hl 7 rfl) ?_
                          refine lv_iload hx hb dL_law_666 (lv_at hl 3 rfl) ?_
                          refine kn_i (va_runV (As := [.int (nI k)]) (rest := [.int (nI k), .ref x]) ⟨hx, hb, hml, hown, htT⟩ (c_share l D cA _ Y2 x ggv.c.hx ar ggv.c.q0 ak ggv.c.q1 ggv.c.kk ggv.c.R k q8_k a_k ja_k (nI k) sw_k) (cwV 1 htT (kg_V m_ml_L_86 m_im_X5_share m_sl_X5_share m_in_X5 m_cd_X5_share) rfl rfl rfl (by decide +kernel) ⟨Nat.le_of_ble_eq_true rfl, Nat.le_of_ble_eq_true rfl⟩) (kn_V hK hP hD hTB ggv.c.hx (Nat.le_of_ble_eq_true rfl) rfl) rfl rfl hl.1 rfl (lv_room (Nat.le_of_ble_eq_true rfl)) dL_law_668 ⟨(by show _ ≤ 600086; omega), (by show _ ≤ 7301442; omega)⟩) hP hD hS hA (fun r_54 x_54 H locs hq_54 hP hD hS => ?_)
                          rw [hq_54.2] at hP hD
                          rw [hq_54.1.trans ((ggv.far hk ja_k).trans es0)]
                          refine lv_bipush (v := 20) hx hb dL_law_671 (by decide) ?_
                          refine kn_i (va_runV (As := [.int (nI k), .int (nI s0), .int 20]) (rest := []) ⟨hx, hb, hml, hown, htT⟩ (c_wouldChangeX l D cA _ Y2 x ggv.c.hx ar ggv.c.q0 ak ggv.c.q1 ggv.c.kk ggv.c.R k q8_k a_k ja_k (nI k) sw_k (nI s0) (kOut_n (a := s0) (lo := 0) (hi := 1000) (by omega) (by omega) (by omega)) 20 (by decide) (by decide) (by decide) (fun u => (rBy M na ru k u).1) (by_eq ggv.l ggv.c hok ggv.y rfl rfl hk ja_k) (rNw M na ru k (nI s0)) (wc_eq ggv.l ggv.c hok ggv.y rfl rfl hk ja_k)) (cwV 3 htT (kg_V m_ml_L_95 m_im_X5_wouldChange m_sl_X5_wouldChange m_in_X5 m_cd_X5_wouldChange) rfl rfl rfl (by decide +kernel) ⟨Nat.le_of_ble_eq_true rfl, Nat.le_of_ble_eq_true rfl⟩) (kn_V hK hP hD hTB ggv.c.hx (Nat.le_of_ble_eq_true rfl) rfl) rfl rfl hl.1 rfl (lv_room (Nat.le_of_ble_eq_true rfl)) dL_law_673 ⟨(by show _ ≤ 600086; omega), (by show _ ≤ 7301442; omega)⟩) hP hD hS hA (fun r_55 x_55 H locs hq_55 hP hD hS => ?_)
                          have gg_55 : GG n na x_55 M x ar ak := ggv.eA hq_55.2
                          obtain ⟨a_k, ja_k⟩ := gg_55.c.row k (by omega)
                          have sw_k := gg_55.sw2 (by omega) ja_k
                          rw [hq_55.1.trans (would_0 es0)]
                          refine lv_if_eq (tgt := 681) hx hb dL_law_676 (by decide) (fun _ => ?_) (fun c_56 => absurd c_56 (by decide))
                          refine lv_iconst (v := 0) hx hb dL_law_681 (by decide) ?_
                          refine lv_istore (lv' := [(12, .int 0), (11, .int (-1)), (10, .int 20), (9, .int (nI (vcT M k))), (8, .int (nI k)), (7, .int (nI (aa + sumN (fun v => nT M.2 (nI k) (nI v) na) (vcT M k)))), (5, .long bq), (4, .int (nI sp)), (3, .ref x), (2, .ref d), (1, .int (nI ti)), (0, .ref b)]) hx hb dL_law_682 hl (by decide) rfl (fun ls hl => ?_)
                          refine kz_loopD 684 (fun N9 H locs ls => ∃ (i2 : Nat), N9 = (vcT M k) - i2 ∧ i2 ≤ (vcT M k) ∧ va_P D vwCl (PW cA U ++ PW cA x_55) H ∧ va_D A (PW cA U ++ PW cA x_55) ∧ va_S A s.heap H locs ∧ lv_has ls 16 [(12, .int (nI i2)), (11, .int (-1)), (9, .int (nI (vcT M k))), (8, .int (nI k)), (7, .int (nI (aa + sumN (fun v => nT M.2 (nI k) (nI v) na) (vcT M k)))), (5, .long bq), (4, .int (nI sp)), (3, .ref x), (2, .ref d), (1, .int (nI ti)), (0, .ref b)]) (fun N9 ih_684 H locs ls e_684 hd0 hI => ?_) hd0 ⟨0, rfl, Nat.zero_le _, hP, hD, hS, lv_sub hl [0, 1, 3, 4, 5, 6, 7, 8, 9, 10, 11] rfl⟩
                          obtain ⟨i2, hn9, hi29, hP, hD, hS, hl⟩ := hI
                          have htT : ∀ w ∈ TT, w.before _ (s.setDrawn e_684) = true := dr_words htT0 e_684
                          have hTB : TBok (s.setDrawn e_684) := TBok.same (u := s) (U := s.setDrawn e_684) rfl (Vm.Alike.refl s.vm) hTB0
                          have hK : va_K D vwCl (ty6 cA) (s.setDrawn e_684) := hK0
                          have hown : (s.setDrawn e_684).vm.findClass RL = some m.cls := hown0
                          have hTX : TXok A (s.setDrawn e_684) := hTX0.dr e_684
                          have hX : va_X b L xs (s.setDrawn e_684) (s.setDrawn e_684).heap := hX0
                          have hAO : va_AOA .int (s.setDrawn e_684) ∧ va_AOA (.array .int) (s.setDrawn e_684) := ⟨va_AOA.moved (u := s) (U := s.setDrawn e_684) (Vm.Alike.refl s.vm) hAO0.1, va_AOA.moved (u := s) (U := s.setDrawn e_684) (Vm.Alike.refl s.vm) hAO0.2⟩
                          refine lv_iload hx hb dL_law_684 (lv_at hl 0 rfl) ?_
                          refine lv_iload hx hb dL_law_686 (lv_at hl 2 rfl) ?_
                          refine lv_icmp_ge (tgt := 736) hx hb dL_law_688 (by decide) (fun c_57 => ?_) (fun c_57 => ?_)
                          · replace c_57 := (nI_leI (a := vcT M k) (b := i2) (by omega) (by omega)).mp c_57
                            exact hcut736 H locs _ e_684 hd0 ⟨x_55, gg_55, hP, hD, hS, lv_sub hl [2, 3, 4, 5, 6, 7, 8, 9, 10] rfl⟩
                          · replace c_57 : ¬ (vcT M k ≤ i2) := fun h9 => c_57 ((nI_leI (a := vcT M k) (b := i2) (by omega) (by omega)).mpr h9)
                            refine lv_iload hx hb dL_law_691 (lv_at hl 1 rfl) ?_
                            refine lv_if_lt (tgt := 736) hx hb dL_law_693 (by decide) (fun _ => ?_) (fun c_58 => absurd c_58 (by decide))
                            exact hcut736 H locs _ e_684 hd0 ⟨x_55, gg_55, hP, hD, hS, lv_sub hl [2, 3, 4, 5, 6, 7, 8, 9, 10] rfl⟩
                  · refine kjD_i hd0 List.perm_append_comm (va_runV_D (As := [.int (nI k)]) (rest := []) ⟨hx, hb, hml, hown, htT⟩ (c_bestX l D cA _ Y2 x ggv.c.hx ar ggv.c.q0 ak ggv.c.q1 ggv.c.kk ggv.c.R k q8_k a_k ja_k (nI k) sw_k) (cwV 1 htT (kg_V m_ml_L_92 m_im_X5_best m_sl_X5_best m_in_X5 m_cd_X5_best) rfl rfl rfl (by decide +kernel) ⟨Nat.le_of_ble_eq_true rfl, Nat.le_of_ble_eq_true rfl⟩) (kn_V hK hP hD hTB ggv.c.hx (Nat.le_of_ble_eq_true rfl) rfl) rfl rfl hl.1 rfl (lv_room (Nat.le_of_ble_eq_true rfl)) dL_law_581 ⟨(by show _ ≤ 600086; omega), (by show _ ≤ 7301442; omega)⟩) hP hD hS hA (fun r_59 x_59 H locs hq_59 hP hD hS d_59 hd0 => ?_)
                    replace hP := kj_P List.perm_append_comm hP
                    replace hD := kj_D List.perm_append_comm hD
                    have htT : ∀ w ∈ TT, w.before _ (s.setDrawn d_59) = true := dr_words htT0 d_59
                    have hTB : TBok (s.setDrawn d_59) := TBok.same (u := s) (U := s.setDrawn d_59) rfl (Vm.Alike.refl s.vm) hTB0
                    have hK : va_K D vwCl (ty6 cA) (s.setDrawn d_59) := hK0
                    have hown : (s.setDrawn d_59).vm.findClass RL = some m.cls := hown0
                    have hTX : TXok A (s.setDrawn d_59) := hTX0.dr d_59
                    have hX : va_X b L xs (s.setDrawn d_59) (s.setDrawn d_59).heap := hX0
                    have hAO : va_AOA .int (s.setDrawn d_59) ∧ va_AOA (.array .int) (s.setDrawn d_59) := ⟨va_AOA.moved (u := s) (U := s.setDrawn d_59) (Vm.Alike.refl s.vm) hAO0.1, va_AOA.moved (u := s) (U := s.setDrawn d_59) (Vm.Alike.refl s.vm) hAO0.2⟩
                    rw [hq_59.2] at hP hD
                    rw [hq_59.1.trans (ebq.trans eb)]
                    refine lv_istore (lv' := [(11, .int (nI r9)), (10, .int 20), (9, .int (nI (vcT M k))), (8, .int (nI k)), (7, .int (nI (aa + sumN (fun v => nT M.2 (nI k) (nI v) na) (vcT M k)))), (5, .long bq), (4, .int (nI sp)), (3, .ref x), (2, .ref d), (1, .int (nI ti)), (0, .ref b)]) hx hb dL_law_584 hl (by decide) rfl (fun ls hl => ?_)
                    refine lv_iload hx hb dL_law_586 (lv_at hl 0 rfl) ?_
                    refine lv_if_ge (tgt := 595) hx hb dL_law_588 (by decide) (fun c_60 => ?_) (fun c_60 => ?_)
                    · replace c_60 := (nI_leI (a := 0) (b := r9) (by omega) (by omega)).mp c_60
                      refine lv_iconst (v := 0) hx hb dL_law_595 (by decide) ?_
                      refine lv_aload_n hx hb dL_law_596 rfl (lv_at hl 7 rfl) ?_
                      refine lv_iload hx hb dL_law_597 (lv_at hl 3 rfl) ?_
                      refine lv_iconst (v := 0) hx hb dL_law_599 (by decide) ?_
                      refine lv_iconst (v := 0) hx hb dL_law_600 (by decide) ?_
                      refine kn_i (va_runV (As := [.int (nI k), .int 0, .int 0]) (rest := [.int 0]) ⟨hx, hb, hml, hown, htT⟩ (c_toldX l D cA _ Y2 x ggv.c.hx ar ggv.c.q0 ak ggv.c.q1 ggv.c.kk ggv.c.R k q8_k a_k ja_k (nI k) sw_k (nI 0) (ggv.vko hk ja_k evc (v := 0) (by omega) hvc4) 0 (by decide)) (cwV 3 htT (kg_V m_ml_L_70 m_im_X5_told m_sl_X5_told m_in_X5 m_cd_X5_told) rfl rfl rfl (by decide +kernel) ⟨Nat.le_of_ble_eq_true rfl, Nat.le_of_ble_eq_true rfl⟩) (kn_V hK hP hD hTB ggv.c.hx (Nat.le_of_ble_eq_true rfl) rfl) rfl rfl hl.1 rfl (lv_room (Nat.le_of_ble_eq_true rfl)) dL_law_601 ⟨(by show _ ≤ 600086; omega), (by show _ ≤ 7301442; omega)⟩) hP hD hS hA (fun r_61 x_61 H locs hq_61 hP hD hS => ?_)
                      rw [hq_61.2] at hP hD
                      rw [hq_61.1.trans (ggv.told0 hk ja_k (v := 0) (by omega))]
                      have hnt_61 := nT_le M.2 (nI k) (nI 0) na
                      refine lv_aload_n hx hb dL_law_604 rfl (lv_at hl 7 rfl) ?_
                      refine lv_iload hx hb dL_law_605 (lv_at hl 3 rfl) ?_
                      refine lv_iconst (v := 1) hx hb dL_law_607 (by decide) ?_
                      refine lv_iconst (v := 0) hx hb dL_law_608 (by decide) ?_
                      refine kn_i (va_runV (As := [.int (nI k), .int 1, .int 0]) (rest := [.int (nI (nT M.2 (nI k) (nI 0) na)), .int 0]) ⟨hx, hb, hml, hown, htT⟩ (c_toldX l D cA _ Y2 x ggv.c.hx ar ggv.c.q0 ak ggv.c.q1 ggv.c.kk ggv.c.R k q8_k a_k ja_k (nI k) sw_k (nI 1) (ggv.vko hk ja_k evc (v := 1) (by omega) hvc4) 0 (by decide)) (cwV 3 htT (kg_V m_ml_L_70 m_im_X5_told m_sl_X5_told m_in_X5 m_cd_X5_told) rfl rfl rfl (by decide +kernel) ⟨Nat.le_of_ble_eq_true rfl, Nat.le_of_ble_eq_true rfl⟩) (kn_V hK hP hD hTB ggv.c.hx (Nat.le_of_ble_eq_true rfl) rfl) rfl rfl hl.1 rfl (lv_room (Nat.le_of_ble_eq_true rfl)) dL_law_609 ⟨(by show _ ≤ 600086; omega), (by show _ ≤ 7301442; omega)⟩) hP hD hS hA (fun r_62 x_62 H locs hq_62 hP hD hS => ?_)
                      rw [hq_62.2] at hP hD
                      rw [hq_62.1.trans (ggv.told0 hk ja_k (v := 1) (by omega))]
                      have hnt_62 := nT_le M.2 (nI k) (nI 1) na
                      refine lv_iadd hx hb dL_law_612 ?_
                      rw [show ((nI (nT M.2 (nI k) (nI 0) na)) + (nI (nT M.2 (nI k) (nI 1) na)) : Int32) = nI ((nT M.2 (nI k) (nI 0) na) + (nT M.2 (nI k) (nI 1) na)) from nI_add (nT M.2 (nI k) (nI 0) na) (nT M.2 (nI k) (nI 1) na)]
                      refine lv_iload hx hb dL_law_613 (lv_at hl 2 rfl) ?_
                      refine lv_iconst (v := 2) hx hb dL_law_615 (by decide) ?_
                      refine lv_icmp_le (tgt := 630) hx hb dL_law_616 (by decide) (fun c_63 => ?_) (fun c_63 => ?_)
                      · replace c_63 := (nI_leI (a := vcT M k) (b := 2) (by omega) (by omega)).mp c_63
                        refine lv_iconst (v := 0) hx hb dL_law_630 (by decide) ?_
                        refine lv_iadd hx hb dL_law_631 ?_
                        rw [show ((nI ((nT M.2 (nI k) (nI 0) na) + (nT M.2 (nI k) (nI 1) na))) + 0 : Int32) = nI (((nT M.2 (nI k) (nI 0) na) + (nT M.2 (nI k) (nI 1) na)) + 0) from nI_add ((nT M.2 (nI k) (nI 0) na) + (nT M.2 (nI k) (nI 1) na)) 0]
                        refine lv_iload hx hb dL_law_632 (lv_at hl 2 rfl) ?_
                        refine lv_iconst (v := 3) hx hb dL_law_634 (by decide) ?_
                        refine lv_icmp_le (tgt := 649) hx hb dL_law_635 (by decide) (fun c_64 => ?_) (fun c_64 => ?_)
                        · replace c_64 := (nI_leI (a := vcT M k) (b := 3) (by omega) (by omega)).mp c_64
                          refine lv_iconst (v := 0) hx hb dL_law_649 (by decide) ?_
                          refine lv_iadd hx hb dL_law_650 ?_
                          rw [show ((nI (((nT M.2 (nI k) (nI 0) na) + (nT M.2 (nI k) (nI 1) na)) + 0)) + 0 : Int32) = nI ((((nT M.2 (nI k) (nI 0) na) + (nT M.2 (nI k) (nI 1) na)) + 0) + 0) from nI_add (((nT M.2 (nI k) (nI 0) na) + (nT M.2 (nI k) (nI 1) na)) + 0) 0]
                          have hsp : 0 < (((nT M.2 (nI k) (nI 0) na) + (nT M.2 (nI k) (nI 1) na)) + 0) + 0 := by rcases (show r9 = 0 ∨ r9 = 1 ∨ r9 = 2 ∨ r9 = 3 by omega) with rfl | rfl | rfl | rfl <;> omega
                          refine lv_if_ne (tgt := 658) hx hb dL_law_651 (by decide) (fun c_65 => ?_) (fun c_65 => ?_)
                          · replace c_65 : ¬ ((((nT M.2 (nI k) (nI 0) na) + (nT M.2 (nI k) (nI 1) na)) + 0) + 0 = 0) := fun h9 => c_65 ((nI_eq (a := (((nT M.2 (nI k) (nI 0) na) + (nT M.2 (nI k) (nI 1) na)) + 0) + 0) (b := 0) (by omega) (by omega)).mpr h9)
                            refine lv_iconst (v := 0) hx hb dL_law_658 (by decide) ?_
                            refine lv_icmp_ne (tgt := 679) hx hb dL_law_659 (by decide) (fun c_66 => absurd c_66 (by decide)) (fun _ => ?_)
                            refine lv_aload_n hx hb dL_law_662 rfl (lv_at hl 7 rfl) ?_
                            refine lv_iload hx hb dL_law_663 (lv_at hl 3 rfl) ?_
                            refine lv_aload_n hx hb dL_law_665 rfl (lv_at hl 7 rfl) ?_
                            refine lv_iload hx hb dL_law_666 (lv_at hl 3 rfl) ?_
                            refine kn_i (va_runV (As := [.int (nI k)]) (rest := [.int (nI k), .ref x]) ⟨hx, hb, hml, hown, htT⟩ (c_share l D cA _ Y2 x ggv.c.hx ar ggv.c.q0 ak ggv.c.q1 ggv.c.kk ggv.c.R k q8_k a_k ja_k (nI k) sw_k) (cwV 1 htT (kg_V m_ml_L_86 m_im_X5_share m_sl_X5_share m_in_X5 m_cd_X5_share) rfl rfl rfl (by decide +kernel) ⟨Nat.le_of_ble_eq_true rfl, Nat.le_of_ble_eq_true rfl⟩) (kn_V hK hP hD hTB ggv.c.hx (Nat.le_of_ble_eq_true rfl) rfl) rfl rfl hl.1 rfl (lv_room (Nat.le_of_ble_eq_true rfl)) dL_law_668 ⟨(by show _ ≤ 600086; omega), (by show _ ≤ 7301442; omega)⟩) hP hD hS hA (fun r_67 x_67 H locs hq_67 hP hD hS => ?_)
                            rw [hq_67.2] at hP hD
                            rw [hq_67.1.trans ((ggv.far hk ja_k).trans es0)]
                            refine lv_bipush (v := 20) hx hb dL_law_671 (by decide) ?_
                            refine kn_i (va_runV (As := [.int (nI k), .int (nI s0), .int 20]) (rest := []) ⟨hx, hb, hml, hown, htT⟩ (c_wouldChangeX l D cA _ Y2 x ggv.c.hx ar ggv.c.q0 ak ggv.c.q1 ggv.c.kk ggv.c.R k q8_k a_k ja_k (nI k) sw_k (nI s0) (kOut_n (a := s0) (lo := 0) (hi := 1000) (by omega) (by omega) (by omega)) 20 (by decide) (by decide) (by decide) (fun u => (rBy M na ru k u).1) (by_eq ggv.l ggv.c hok ggv.y rfl rfl hk ja_k) (rNw M na ru k (nI s0)) (wc_eq ggv.l ggv.c hok ggv.y rfl rfl hk ja_k)) (cwV 3 htT (kg_V m_ml_L_95 m_im_X5_wouldChange m_sl_X5_wouldChange m_in_X5 m_cd_X5_wouldChange) rfl rfl rfl (by decide +kernel) ⟨Nat.le_of_ble_eq_true rfl, Nat.le_of_ble_eq_true rfl⟩) (kn_V hK hP hD hTB ggv.c.hx (Nat.le_of_ble_eq_true rfl) rfl) rfl rfl hl.1 rfl (lv_room (Nat.le_of_ble_eq_true rfl)) dL_law_673 ⟨(by show _ ≤ 600086; omega), (by show _ ≤ 7301442; omega)⟩) hP hD hS hA (fun r_68 x_68 H locs hq_68 hP hD hS => ?_)
                            have gg_68 : GG n na x_68 M x ar ak := ggv.eA hq_68.2
                            obtain ⟨a_k, ja_k⟩ := gg_68.c.row k (by omega)
                            have sw_k := gg_68.sw2 (by omega) ja_k
                            rw [hq_68.1.trans (would_0 es0)]
                            refine lv_if_eq (tgt := 681) hx hb dL_law_676 (by decide) (fun _ => ?_) (fun c_69 => absurd c_69 (by decide))
                            refine lv_iconst (v := 0) hx hb dL_law_681 (by decide) ?_
                            refine lv_istore (lv' := [(12, .int 0), (11, .int (nI r9)), (10, .int 20), (9, .int (nI (vcT M k))), (8, .int (nI k)), (7, .int (nI (aa + sumN (fun v => nT M.2 (nI k) (nI v) na) (vcT M k)))), (5, .long bq), (4, .int (nI sp)), (3, .ref x), (2, .ref d), (1, .int (nI ti)), (0, .ref b)]) hx hb dL_law_682 hl (by decide) rfl (fun ls hl => ?_)
                            refine kz_loopD 684 (fun N9 H locs ls => ∃ (i2 : Nat), N9 = (vcT M k) - i2 ∧ i2 ≤ (vcT M k) ∧ va_P D vwCl (PW cA U ++ PW cA x_68) H ∧ va_D A (PW cA U ++ PW cA x_68) ∧ va_S A s.heap H locs ∧ lv_has ls 16 [(12, .int (nI i2)), (11, .int (nI r9)), (9, .int (nI (vcT M k))), (8, .int (nI k)), (7, .int (nI (aa + sumN (fun v => nT M.2 (nI k) (nI v) na) (vcT M k)))), (5, .long bq), (4, .int (nI sp)), (3, .ref x), (2, .ref d), (1, .int (nI ti)), (0, .ref b)]) (fun N9 ih_684 H locs ls e_684 hd0 hI => ?_) hd0 ⟨0, rfl, Nat.zero_le _, hP, hD, hS, lv_sub hl [0, 1, 3, 4, 5, 6, 7, 8, 9, 10, 11] rfl⟩
                            obtain ⟨i2, hn9, hi29, hP, hD, hS, hl⟩ := hI
                            have htT : ∀ w ∈ TT, w.before _ (s.setDrawn e_684) = true := dr_words htT0 e_684
                            have hTB : TBok (s.setDrawn e_684) := TBok.same (u := s) (U := s.setDrawn e_684) rfl (Vm.Alike.refl s.vm) hTB0
                            have hK : va_K D vwCl (ty6 cA) (s.setDrawn e_684) := hK0
                            have hown : (s.setDrawn e_684).vm.findClass RL = some m.cls := hown0
                            have hTX : TXok A (s.setDrawn e_684) := hTX0.dr e_684
                            have hX : va_X b L xs (s.setDrawn e_684) (s.setDrawn e_684).heap := hX0
                            have hAO : va_AOA .int (s.setDrawn e_684) ∧ va_AOA (.array .int) (s.setDrawn e_684) := ⟨va_AOA.moved (u := s) (U := s.setDrawn e_684) (Vm.Alike.refl s.vm) hAO0.1, va_AOA.moved (u := s) (U := s.setDrawn e_684) (Vm.Alike.refl s.vm) hAO0.2⟩
                            refine lv_iload hx hb dL_law_684 (lv_at hl 0 rfl) ?_
                            refine lv_iload hx hb dL_law_686 (lv_at hl 2 rfl) ?_
                            refine lv_icmp_ge (tgt := 736) hx hb dL_law_688 (by decide) (fun c_70 => ?_) (fun c_70 => ?_)
                            · replace c_70 := (nI_leI (a := vcT M k) (b := i2) (by omega) (by omega)).mp c_70
                              exact hcut736 H locs _ e_684 hd0 ⟨x_68, gg_68, hP, hD, hS, lv_sub hl [2, 3, 4, 5, 6, 7, 8, 9, 10] rfl⟩
                            · replace c_70 : ¬ (vcT M k ≤ i2) := fun h9 => c_70 ((nI_leI (a := vcT M k) (b := i2) (by omega) (by omega)).mpr h9)
                              refine lv_iload hx hb dL_law_691 (lv_at hl 1 rfl) ?_
                              refine lv_if_lt (tgt := 736) hx hb dL_law_693 (by decide) (fun c_71 => ?_) (fun c_71 => ?_)
                              · replace c_71 := (nI_ltI (a := r9) (b := 0) (by omega) (by omega)).mp c_71
                                exact hcut736 H locs _ e_684 hd0 ⟨x_68, gg_68, hP, hD, hS, lv_sub hl [2, 3, 4, 5, 6, 7, 8, 9, 10] rfl⟩
                              · replace c_71 : ¬ (r9 < 0) := fun h9 => c_71 ((nI_ltI (a := r9) (b := 0) (by omega) (by omega)).mpr h9)
                                refine lv_aload_n hx hb dL_law_696 rfl (lv_at hl 7 rfl) ?_
                                refine lv_iload hx hb dL_law_697 (lv_at hl 3 rfl) ?_
                                refine lv_iload hx hb dL_law_699 (lv_at hl 0 rfl) ?_
                                refine lv_iconst (v := 0) hx hb dL_law_701 (by decide) ?_
                                refine kn_i (va_runV (As := [.int (nI k), .int (nI i2), .int 0]) (rest := []) ⟨hx, hb, hml, hown, htT⟩ (c_toldX l D cA _ x_68 x gg_68.c.hx ar gg_68.c.q0 ak gg_68.c.q1 gg_68.c.kk gg_68.c.R k q8_k a_k ja_k (nI k) sw_k (nI i2) (gg_68.vko hk ja_k evc (v := i2) (by omega) hvc4) 0 (by decide)) (cwV 3 htT (kg_V m_ml_L_70 m_im_X5_told m_sl_X5_told m_in_X5 m_cd_X5_told) rfl rfl rfl (by decide +kernel) ⟨Nat.le_of_ble_eq_true rfl, Nat.le_of_ble_eq_true rfl⟩) (kn_V hK hP hD hTB gg_68.c.hx (Nat.le_of_ble_eq_true rfl) rfl) rfl rfl hl.1 rfl (lv_room (Nat.le_of_ble_eq_true rfl)) dL_law_702 ⟨(by show _ ≤ 600086; omega), (by show _ ≤ 7301442; omega)⟩) hP hD hS hA (fun r_72 x_72 H locs hq_72 hP hD hS => ?_)
                                rw [hq_72.2] at hP hD
                                rw [hq_72.1.trans (gg_68.told0 hk ja_k (v := i2) (by omega))]
                                have hnt_72 := nT_le M.2 (nI k) (nI i2) na
                                refine lv_if_le (tgt := 730) hx hb dL_law_705 (by decide) (fun c_73 => ?_) (fun c_73 => ?_)
                                · replace c_73 := (nI_leI (a := nT M.2 (nI k) (nI i2) na) (b := 0) (by omega) (by omega)).mp c_73
                                  refine lv_iinc (v := nI (i2 + 1)) (lv' := [(12, .int (nI (i2 + 1))), (11, .int (nI r9)), (9, .int (nI (vcT M k))), (8, .int (nI k)), (7, .int (nI (aa + sumN (fun v => nT M.2 (nI k) (nI v) na) (vcT M k)))), (5, .long bq), (4, .int (nI sp)), (3, .ref x), (2, .ref d), (1, .int (nI ti)), (0, .ref b)]) hx hb dL_law_730 hl (k := 0) rfl (nI_1 _) (by decide) rfl (fun ls hl => ?_)
                                  refine lv_goto (tgt := 684) hx hb dL_law_733 (by decide) ?_
                                  have hl := lv_sub hl [0, 1, 2, 3, 4, 5, 6, 7, 8, 9, 10] rfl
                                  exact ih_684 _ (by omega) H locs ls e_684 hd0 ⟨i2 + 1, rfl, (by omega), hP, hD, hS, hl⟩
                                · replace c_73 : ¬ (nT M.2 (nI k) (nI i2) na ≤ 0) := fun h9 => c_73 ((nI_leI (a := nT M.2 (nI k) (nI i2) na) (b := 0) (by omega) (by omega)).mpr h9)
                                  refine lv_aload_n hx hb dL_law_708 rfl (lv_at hl 7 rfl) ?_
                                  refine lv_iload hx hb dL_law_709 (lv_at hl 3 rfl) ?_
                                  refine lv_iload hx hb dL_law_711 (lv_at hl 0 rfl) ?_
                                  refine kjD_d hd0 List.perm_append_comm (va_runV_D (As := [.int (nI k), .int (nI i2)]) (rest := []) ⟨hx, hb, hml, hown, htT⟩ (c_meanX l D cA _ x_68 x gg_68.c.hx ar gg_68.c.q0 ak gg_68.c.q1 gg_68.c.kk gg_68.c.R k q8_k a_k ja_k (nI k) sw_k (nI i2) (gg_68.vko hk ja_k evc (v := i2) (by omega) hvc4)) (cwV 2 htT (kg_V m_ml_L_73 m_im_X5_mean m_sl_X5_mean m_in_X5 m_cd_X5_mean) rfl rfl rfl (by decide +kernel) ⟨Nat.le_of_ble_eq_true rfl, Nat.le_of_ble_eq_true rfl⟩) (kn_V hK hP hD hTB gg_68.c.hx (Nat.le_of_ble_eq_true rfl) rfl) rfl rfl hl.1 rfl (lv_room (Nat.le_of_ble_eq_true rfl)) dL_law_713 ⟨(by show _ ≤ 600086; omega), (by show _ ≤ 7301442; omega)⟩) hP hD hS hA (fun r_74 x_74 H locs hq_74 hP hD hS d_74 hd0 => ?_)
                                  replace hP := kj_P List.perm_append_comm hP
                                  replace hD := kj_D List.perm_append_comm hD
                                  have htT : ∀ w ∈ TT, w.before _ (s.setDrawn d_74) = true := dr_words htT0 d_74
                                  have hTB : TBok (s.setDrawn d_74) := TBok.same (u := s) (U := s.setDrawn d_74) rfl (Vm.Alike.refl s.vm) hTB0
                                  have hK : va_K D vwCl (ty6 cA) (s.setDrawn d_74) := hK0
                                  have hown : (s.setDrawn d_74).vm.findClass RL = some m.cls := hown0
                                  have hTX : TXok A (s.setDrawn d_74) := hTX0.dr d_74
                                  have hX : va_X b L xs (s.setDrawn d_74) (s.setDrawn d_74).heap := hX0
                                  have hAO : va_AOA .int (s.setDrawn d_74) ∧ va_AOA (.array .int) (s.setDrawn d_74) := ⟨va_AOA.moved (u := s) (U := s.setDrawn d_74) (Vm.Alike.refl s.vm) hAO0.1, va_AOA.moved (u := s) (U := s.setDrawn d_74) (Vm.Alike.refl s.vm) hAO0.2⟩
                                  rw [hq_74.2] at hP hD
                                  have hm_74 : r_74 = kMn M na k i2 := gg_68.mean hk ja_k (v := i2) (by omega) hq_74.1
                                  subst hm_74
                                  refine lv_aload_n hx hb dL_law_716 rfl (lv_at hl 7 rfl) ?_
                                  refine lv_iload hx hb dL_law_717 (lv_at hl 3 rfl) ?_
                                  refine lv_iload hx hb dL_law_719 (lv_at hl 1 rfl) ?_
                                  refine kjD_d hd0 List.perm_append_comm (va_runV_D (As := [.int (nI k), .int (nI r9)]) (rest := [.double (kMn M na k i2)]) ⟨hx, hb, hml, hown, htT⟩ (c_meanX l D cA _ x_68 x gg_68.c.hx ar gg_68.c.q0 ak gg_68.c.q1 gg_68.c.kk gg_68.c.R k q8_k a_k ja_k (nI k) sw_k (nI r9) (gg_68.vko hk ja_k evc (v := r9) (by omega) hvc4)) (cwV 2 htT (kg_V m_ml_L_73 m_im_X5_mean m_sl_X5_mean m_in_X5 m_cd_X5_mean) rfl rfl rfl (by decide +kernel) ⟨Nat.le_of_ble_eq_true rfl, Nat.le_of_ble_eq_true rfl⟩) (kn_V hK hP hD hTB gg_68.c.hx (Nat.le_of_ble_eq_true rfl) rfl) rfl rfl hl.1 rfl (lv_room (Nat.le_of_ble_eq_true rfl)) dL_law_721 ⟨(by show _ ≤ 600086; omega), (by show _ ≤ 7301442; omega)⟩) hP hD hS hA (fun r_75 x_75 H locs hq_75 hP hD hS d_75 hd0 => ?_)
                                  replace hP := kj_P List.perm_append_comm hP
                                  replace hD := kj_D List.perm_append_comm hD
                                  have htT : ∀ w ∈ TT, w.before _ (s.setDrawn d_75) = true := dr_words htT0 d_75
                                  have hTB : TBok (s.setDrawn d_75) := TBok.same (u := s) (U := s.setDrawn d_75) rfl (Vm.Alike.refl s.vm) hTB0
                                  have hK : va_K D vwCl (ty6 cA) (s.setDrawn d_75) := hK0
                                  have hown : (s.setDrawn d_75).vm.findClass RL = some m.cls := hown0
                                  have hTX : TXok A (s.setDrawn d_75) := hTX0.dr d_75
                                  have hX : va_X b L xs (s.setDrawn d_75) (s.setDrawn d_75).heap := hX0
                                  have hAO : va_AOA .int (s.setDrawn d_75) ∧ va_AOA (.array .int) (s.setDrawn d_75) := ⟨va_AOA.moved (u := s) (U := s.setDrawn d_75) (Vm.Alike.refl s.vm) hAO0.1, va_AOA.moved (u := s) (U := s.setDrawn d_75) (Vm.Alike.refl s.vm) hAO0.2⟩
                                  rw [hq_75.2] at hP hD
                                  have hm_75 : r_75 = kMn M na k r9 := gg_68.mean hk ja_k (v := r9) (by omega) hq_75.1
                                  subst hm_75
                                  refine lv_dcmp hx hb dL_law_724 ?_
                                  refine lv_if_le (tgt := 730) hx hb dL_law_725 (by decide) (fun c_77 => ?_) (fun c_77 => ?_)
                                  · refine lv_iinc (v := nI (i2 + 1)) (lv' := [(12, .int (nI (i2 + 1))), (11, .int (nI r9)), (9, .int (nI (vcT M k))), (8, .int (nI k)), (7, .int (nI (aa + sumN (fun v => nT M.2 (nI k) (nI v) na) (vcT M k)))), (5, .long bq), (4, .int (nI sp)), (3, .ref x), (2, .ref d), (1, .int (nI ti)), (0, .ref b)]) hx hb dL_law_730 hl (k := 0) rfl (nI_1 _) (by decide) rfl (fun ls hl => ?_)
                                    refine lv_goto (tgt := 684) hx hb dL_law_733 (by decide) ?_
                                    have hl := lv_sub hl [0, 1, 2, 3, 4, 5, 6, 7, 8, 9, 10] rfl
                                    exact ih_684 _ (by omega) H locs ls d_75 hd0 ⟨i2 + 1, rfl, (by omega), hP, hD, hS, hl⟩
                                  · exact absurd (Int32.not_le.mp c_77) (cm_le (best_cmp (hmax i2 (by omega) (by omega))))
                          · replace c_65 := (nI_eq (a := (((nT M.2 (nI k) (nI 0) na) + (nT M.2 (nI k) (nI 1) na)) + 0) + 0) (b := 0) (by omega) (by omega)).mp c_65
                            refine lv_iconst (v := 1) hx hb dL_law_654 (by decide) ?_
                            refine lv_goto (tgt := 659) hx hb dL_law_655 (by decide) ?_
                            refine lv_icmp_ne (tgt := 679) hx hb dL_law_659 (by decide) (fun _ => ?_) (fun c_78 => absurd c_78 (by decide))
                            exfalso; omega
                        · replace c_64 : ¬ (vcT M k ≤ 3) := fun h9 => c_64 ((nI_leI (a := vcT M k) (b := 3) (by omega) (by omega)).mpr h9)
                          refine lv_aload_n hx hb dL_law_638 rfl (lv_at hl 7 rfl) ?_
                          refine lv_iload hx hb dL_law_639 (lv_at hl 3 rfl) ?_
                          refine lv_iconst (v := 3) hx hb dL_law_641 (by decide) ?_
                          refine lv_iconst (v := 0) hx hb dL_law_642 (by decide) ?_
                          refine kn_i (va_runV (As := [.int (nI k), .int 3, .int 0]) (rest := [.int (nI (((nT M.2 (nI k) (nI 0) na) + (nT M.2 (nI k) (nI 1) na)) + 0)), .int 0]) ⟨hx, hb, hml, hown, htT⟩ (c_toldX l D cA _ Y2 x ggv.c.hx ar ggv.c.q0 ak ggv.c.q1 ggv.c.kk ggv.c.R k q8_k a_k ja_k (nI k) sw_k (nI 3) (ggv.vko hk ja_k evc (v := 3) (by omega) hvc4) 0 (by decide)) (cwV 3 htT (kg_V m_ml_L_70 m_im_X5_told m_sl_X5_told m_in_X5 m_cd_X5_told) rfl rfl rfl (by decide +kernel) ⟨Nat.le_of_ble_eq_true rfl, Nat.le_of_ble_eq_true rfl⟩) (kn_V hK hP hD hTB ggv.c.hx (Nat.le_of_ble_eq_true rfl) rfl) rfl rfl hl.1 rfl (lv_room (Nat.le_of_ble_eq_true rfl)) dL_law_643 ⟨(by show _ ≤ 600086; omega), (by show _ ≤ 7301442; omega)⟩) hP hD hS hA (fun r_79 x_79 H locs hq_79 hP hD hS => ?_)
                          rw [hq_79.2] at hP hD
                          rw [hq_79.1.trans (ggv.told0 hk ja_k (v := 3) (by omega))]
                          have hnt_79 := nT_le M.2 (nI k) (nI 3) na
                          refine lv_goto (tgt := 650) hx hb dL_law_646 (by decide) ?_
                          refine lv_iadd hx hb dL_law_650 ?_
                          rw [show ((nI (((nT M.2 (nI k) (nI 0) na) + (nT M.2 (nI k) (nI 1) na)) + 0)) + (nI (nT M.2 (nI k) (nI 3) na)) : Int32) = nI ((((nT M.2 (nI k) (nI 0) na) + (nT M.2 (nI k) (nI 1) na)) + 0) + (nT M.2 (nI k) (nI 3) na)) from nI_add (((nT M.2 (nI k) (nI 0) na) + (nT M.2 (nI k) (nI 1) na)) + 0) (nT M.2 (nI k) (nI 3) na)]
                          have hsp : 0 < (((nT M.2 (nI k) (nI 0) na) + (nT M.2 (nI k) (nI 1) na)) + 0) + (nT M.2 (nI k) (nI 3) na) := by rcases (show r9 = 0 ∨ r9 = 1 ∨ r9 = 2 ∨ r9 = 3 by omega) with rfl | rfl | rfl | rfl <;> omega
                          refine lv_if_ne (tgt := 658) hx hb dL_law_651 (by decide) (fun c_80 => ?_) (fun c_80 => ?_)
                          · replace c_80 : ¬ ((((nT M.2 (nI k) (nI 0) na) + (nT M.2 (nI k) (nI 1) na)) + 0) + (nT M.2 (nI k) (nI 3) na) = 0) := fun h9 => c_80 ((nI_eq (a := (((nT M.2 (nI k) (nI 0) na) + (nT M.2 (nI k) (nI 1) na)) + 0) + (nT M.2 (nI k) (nI 3) na)) (b := 0) (by omega) (by omega)).mpr h9)
                            refine lv_iconst (v := 0) hx hb dL_law_658 (by decide) ?_
                            refine lv_icmp_ne (tgt := 679) hx hb dL_law_659 (by decide) (fun c_81 => absurd c_81 (by decide)) (fun _ => ?_)
                            refine lv_aload_n hx hb dL_law_662 rfl (lv_at hl 7 rfl) ?_
                            refine lv_iload hx hb dL_law_663 (lv_at hl 3 rfl) ?_
                            refine lv_aload_n hx hb dL_law_665 rfl (lv_at hl 7 rfl) ?_
                            refine lv_iload hx hb dL_law_666 (lv_at hl 3 rfl) ?_
                            refine kn_i (va_runV (As := [.int (nI k)]) (rest := [.int (nI k), .ref x]) ⟨hx, hb, hml, hown, htT⟩ (c_share l D cA _ Y2 x ggv.c.hx ar ggv.c.q0 ak ggv.c.q1 ggv.c.kk ggv.c.R k q8_k a_k ja_k (nI k) sw_k) (cwV 1 htT (kg_V m_ml_L_86 m_im_X5_share m_sl_X5_share m_in_X5 m_cd_X5_share) rfl rfl rfl (by decide +kernel) ⟨Nat.le_of_ble_eq_true rfl, Nat.le_of_ble_eq_true rfl⟩) (kn_V hK hP hD hTB ggv.c.hx (Nat.le_of_ble_eq_true rfl) rfl) rfl rfl hl.1 rfl (lv_room (Nat.le_of_ble_eq_true rfl)) dL_law_668 ⟨(by show _ ≤ 600086; omega), (by show _ ≤ 7301442; omega)⟩) hP hD hS hA (fun r_82 x_82 H locs hq_82 hP hD hS => ?_)
                            rw [hq_82.2] at hP hD
                            rw [hq_82.1.trans ((ggv.far hk ja_k).trans es0)]
                            refine lv_bipush (v := 20) hx hb dL_law_671 (by decide) ?_
                            refine kn_i (va_runV (As := [.int (nI k), .int (nI s0), .int 20]) (rest := []) ⟨hx, hb, hml, hown, htT⟩ (c_wouldChangeX l D cA _ Y2 x ggv.c.hx ar ggv.c.q0 ak ggv.c.q1 ggv.c.kk ggv.c.R k q8_k a_k ja_k (nI k) sw_k (nI s0) (kOut_n (a := s0) (lo := 0) (hi := 1000) (by omega) (by omega) (by omega)) 20 (by decide) (by decide) (by decide) (fun u => (rBy M na ru k u).1) (by_eq ggv.l ggv.c hok ggv.y rfl rfl hk ja_k) (rNw M na ru k (nI s0)) (wc_eq ggv.l ggv.c hok ggv.y rfl rfl hk ja_k)) (cwV 3 htT (kg_V m_ml_L_95 m_im_X5_wouldChange m_sl_X5_wouldChange m_in_X5 m_cd_X5_wouldChange) rfl rfl rfl (by decide +kernel) ⟨Nat.le_of_ble_eq_true rfl, Nat.le_of_ble_eq_true rfl⟩) (kn_V hK hP hD hTB ggv.c.hx (Nat.le_of_ble_eq_true rfl) rfl) rfl rfl hl.1 rfl (lv_room (Nat.le_of_ble_eq_true rfl)) dL_law_673 ⟨(by show _ ≤ 600086; omega), (by show _ ≤ 7301442; omega)⟩) hP hD hS hA (fun r_83 x_83 H locs hq_83 hP hD hS => ?_)
                            have gg_83 : GG n na x_83 M x ar ak := ggv.eA hq_83.2
                            obtain ⟨a_k, ja_k⟩ := gg_83.c.row k (by omega)
                            have sw_k := gg_83.sw2 (by omega) ja_k
                            rw [hq_83.1.trans (would_0 es0)]
                            refine lv_if_eq (tgt := 681) hx hb dL_law_676 (by decide) (fun _ => ?_) (fun c_84 => absurd c_84 (by decide))
                            refine lv_iconst (v := 0) hx hb dL_law_681 (by decide) ?_
                            refine lv_istore (lv' := [(12, .int 0), (11, .int (nI r9)), (10, .int 20), (9, .int (nI (vcT M k))), (8, .int (nI k)), (7, .int (nI (aa + sumN (fun v => nT M.2 (nI k) (nI v) na) (vcT M k)))), (5, .long bq), (4, .int (nI sp)), (3, .ref x), (2, .ref d), (1, .int (nI ti)), (0, .ref b)]) hx hb dL_law_682 hl (by decide) rfl (fun ls hl => ?_)
                            refine kz_loopD 684 (fun N9 H locs ls => ∃ (i2 : Nat), N9 = (vcT M k) - i2 ∧ i2 ≤ (vcT M k) ∧ va_P D vwCl (PW cA U ++ PW cA x_83) H ∧ va_D A (PW cA U ++ PW cA x_83) ∧ va_S A s.heap H locs ∧ lv_has ls 16 [(12, .int (nI i2)), (11, .int (nI r9)), (9, .int (nI (vcT M k))), (8, .int (nI k)), (7, .int (nI (aa + sumN (fun v => nT M.2 (nI k) (nI v) na) (vcT M k)))), (5, .long bq), (4, .int (nI sp)), (3, .ref x), (2, .ref d), (1, .int (nI ti)), (0, .ref b)]) (fun N9 ih_684 H locs ls e_684 hd0 hI => ?_) hd0 ⟨0, rfl, Nat.zero_le _, hP, hD, hS, lv_sub hl [0, 1, 3, 4, 5, 6, 7, 8, 9, 10, 11] rfl⟩
                            obtain ⟨i2, hn9, hi29, hP, hD, hS, hl⟩ := hI
                            have htT : ∀ w ∈ TT, w.before _ (s.setDrawn e_684) = true := dr_words htT0 e_684
                            have hTB : TBok (s.setDrawn e_684) := TBok.same (u := s) (U := s.setDrawn e_684) rfl (Vm.Alike.refl s.vm) hTB0
                            have hK : va_K D vwCl (ty6 cA) (s.setDrawn e_684) := hK0
                            have hown : (s.setDrawn e_684).vm.findClass RL = some m.cls := hown0
                            have hTX : TXok A (s.setDrawn e_684) := hTX0.dr e_684
                            have hX : va_X b L xs (s.setDrawn e_684) (s.setDrawn e_684).heap := hX0
                            have hAO : va_AOA .int (s.setDrawn e_684) ∧ va_AOA (.array .int) (s.setDrawn e_684) := ⟨va_AOA.moved (u := s) (U := s.setDrawn e_684) (Vm.Alike.refl s.vm) hAO0.1, va_AOA.moved (u := s) (U := s.setDrawn e_684) (Vm.Alike.refl s.vm) hAO0.2⟩
                            refine lv_iload hx hb dL_law_684 (lv_at hl 0 rfl) ?_
                            refine lv_iload hx hb dL_law_686 (lv_at hl 2 rfl) ?_
                            refine lv_icmp_ge (tgt := 736) hx hb dL_law_688 (by decide) (fun c_85 => ?_) (fun c_85 => ?_)
                            · replace c_85 := (nI_leI (a := vcT M k) (b := i2) (by omega) (by omega)).mp c_85
                              exact hcut736 H locs _ e_684 hd0 ⟨x_83, gg_83, hP, hD, hS, lv_sub hl [2, 3, 4, 5, 6, 7, 8, 9, 10] rfl⟩
                            · replace c_85 : ¬ (vcT M k ≤ i2) := fun h9 => c_85 ((nI_leI (a := vcT M k) (b := i2) (by omega) (by omega)).mpr h9)
                              refine lv_iload hx hb dL_law_691 (lv_at hl 1 rfl) ?_
                              refine lv_if_lt (tgt := 736) hx hb dL_law_693 (by decide) (fun c_86 => ?_) (fun c_86 => ?_)
                              · replace c_86 := (nI_ltI (a := r9) (b := 0) (by omega) (by omega)).mp c_86
                                exact hcut736 H locs _ e_684 hd0 ⟨x_83, gg_83, hP, hD, hS, lv_sub hl [2, 3, 4, 5, 6, 7, 8, 9, 10] rfl⟩
                              · replace c_86 : ¬ (r9 < 0) := fun h9 => c_86 ((nI_ltI (a := r9) (b := 0) (by omega) (by omega)).mpr h9)
                                refine lv_aload_n hx hb dL_law_696 rfl (lv_at hl 7 rfl) ?_
                                refine lv_iload hx hb dL_law_697 (lv_at hl 3 rfl) ?_
                                refine lv_iload hx hb dL_law_699 (lv_at hl 0 rfl) ?_
                                refine lv_iconst (v := 0) hx hb dL_law_701 (by decide) ?_
                                refine kn_i (va_runV (As := [.int (nI k), .int (nI i2), .int 0]) (rest := []) ⟨hx, hb, hml, hown, htT⟩ (c_toldX l D cA _ x_83 x gg_83.c.hx ar gg_83.c.q0 ak gg_83.c.q1 gg_83.c.kk gg_83.c.R k q8_k a_k ja_k (nI k) sw_k (nI i2) (gg_83.vko hk ja_k evc (v := i2) (by omega) hvc4) 0 (by decide)) (cwV 3 htT (kg_V m_ml_L_70 m_im_X5_told m_sl_X5_told m_in_X5 m_cd_X5_told) rfl rfl rfl (by decide +kernel) ⟨Nat.le_of_ble_eq_true rfl, Nat.le_of_ble_eq_true rfl⟩) (kn_V hK hP hD hTB gg_83.c.hx (Nat.le_of_ble_eq_true rfl) rfl) rfl rfl hl.1 rfl (lv_room (Nat.le_of_ble_eq_true rfl)) dL_law_702 ⟨(by show _ ≤ 600086; omega), (by show _ ≤ 7301442; omega)⟩) hP hD hS hA (fun r_87 x_87 H locs hq_87 hP hD hS => ?_)
                                rw [hq_87.2] at hP hD
                                rw [hq_87.1.trans (gg_83.told0 hk ja_k (v := i2) (by omega))]
                                have hnt_87 := nT_le M.2 (nI k) (nI i2) na
                                refine lv_if_le (tgt := 730) hx hb dL_law_705 (by decide) (fun c_88 => ?_) (fun c_88 => ?_)
                                · replace c_88 := (nI_leI (a := nT M.2 (nI k) (nI i2) na) (b := 0) (by omega) (by omega)).mp c_88
                                  refine lv_iinc (v := nI (i2 + 1)) (lv' := [(12, .int (nI (i2 + 1))), (11, .int (nI r9)), (9, .int (nI (vcT M k))), (8, .int (nI k)), (7, .int (nI (aa + sumN (fun v => nT M.2 (nI k) (nI v) na) (vcT M k)))), (5, .long bq), (4, .int (nI sp)), (3, .ref x), (2, .ref d), (1, .int (nI ti)), (0, .ref b)]) hx hb dL_law_730 hl (k := 0) rfl (nI_1 _) (by decide) rfl (fun ls hl => ?_)
                                  refine lv_goto (tgt := 684) hx hb dL_law_733 (by decide) ?_
                                  have hl := lv_sub hl [0, 1, 2, 3, 4, 5, 6, 7, 8, 9, 10] rfl
                                  exact ih_684 _ (by omega) H locs ls e_684 hd0 ⟨i2 + 1, rfl, (by omega), hP, hD, hS, hl⟩
                                · replace c_88 : ¬ (nT M.2 (nI k) (nI i2) na ≤ 0) := fun h9 => c_88 ((nI_leI (a := nT M.2 (nI k) (nI i2) na) (b := 0) (by omega) (by omega)).mpr h9)
                                  refine lv_aload_n hx hb dL_law_708 rfl (lv_at hl 7 rfl) ?_
                                  refine lv_iload hx hb dL_law_709 (lv_at hl 3 rfl) ?_
                                  refine lv_iload hx hb dL_law_711 (lv_at hl 0 rfl) ?_
                                  refine kjD_d hd0 List.perm_append_comm (va_runV_D (As := [.int (nI k), .int (nI i2)]) (rest := []) ⟨hx, hb, hml, hown, htT⟩ (c_meanX l D cA _ x_83 x gg_83.c.hx ar gg_83.c.q0 ak gg_83.c.q1 gg_83.c.kk gg_83.c.R k q8_k a_k ja_k (nI k) sw_k (nI i2) (gg_83.vko hk ja_k evc (v := i2) (by omega) hvc4)) (cwV 2 htT (kg_V m_ml_L_73 m_im_X5_mean m_sl_X5_mean m_in_X5 m_cd_X5_mean) rfl rfl rfl (by decide +kernel) ⟨Nat.le_of_ble_eq_true rfl, Nat.le_of_ble_eq_true rfl⟩) (kn_V hK hP hD hTB gg_83.c.hx (Nat.le_of_ble_eq_true rfl) rfl) rfl rfl hl.1 rfl (lv_room (Nat.le_of_ble_eq_true rfl)) dL_law_713 ⟨(by show _ ≤ 600086; omega), (by show _ ≤ 7301442; omega)⟩) hP hD hS hA (fun r_89 x_89 H locs hq_89 hP hD hS d_89 hd0 => ?_)
                                  replace hP := kj_P List.perm_append_comm hP
                                  replace hD := kj_D List.perm_append_comm hD
                                  have htT : ∀ w ∈ TT, w.before _ (s.setDrawn d_89) = true := dr_words htT0 d_89
                                  have hTB : TBok (s.setDrawn d_89) := TBok.same (u := s) (U := s.setDrawn d_89) rfl (Vm.Alike.refl s.vm) hTB0
                                  have hK : va_K D vwCl (ty6 cA) (s.setDrawn d_89) := hK0
                                  have hown : (s.setDrawn d_89).vm.findClass RL = some m.cls := hown0
                                  have hTX : TXok A (s.setDrawn d_89) := hTX0.dr d_89
                                  have hX : va_X b L xs (s.setDrawn d_89) (s.setDrawn d_89).heap := hX0
                                  have hAO : va_AOA .int (s.setDrawn d_89) ∧ va_AOA (.array .int) (s.setDrawn d_89) := ⟨va_AOA.moved (u := s) (U := s.setDrawn d_89) (Vm.Alike.refl s.vm) hAO0.1, va_AOA.moved (u := s) (U := s.setDrawn d_89) (Vm.Alike.refl s.vm) hAO0.2⟩
                                  rw [hq_89.2] at hP hD
                                  have hm_89 : r_89 = kMn M na k i2 := gg_83.mean hk ja_k (v := i2) (by omega) hq_89.1
                                  subst hm_89
                                  refine lv_aload_n hx hb dL_law_716 rfl (lv_at hl 7 rfl) ?_
                                  refine lv_iload hx hb dL_law_717 (lv_at hl 3 rfl) ?_
                                  refine lv_iload hx hb dL_law_719 (lv_at hl 1 rfl) ?_
                                  refine kjD_d hd0 List.perm_append_comm (va_runV_D (As := [.int (nI k), .int (nI r9)]) (rest := [.double (kMn M na k i2)]) ⟨hx, hb, hml, hown, htT⟩ (c_meanX l D cA _ x_83 x gg_83.c.hx ar gg_83.c.q0 ak gg_83.c.q1 gg_83.c.kk gg_83.c.R k q8_k a_k ja_k (nI k) sw_k (nI r9) (gg_83.vko hk ja_k evc (v := r9) (by omega) hvc4)) (cwV 2 htT (kg_V m_ml_L_73 m_im_X5_mean m_sl_X5_mean m_in_X5 m_cd_X5_mean) rfl rfl rfl (by decide +kernel) ⟨Nat.le_of_ble_eq_true rfl, Nat.le_of_ble_eq_true rfl⟩) (kn_V hK hP hD hTB gg_83.c.hx (Nat.le_of_ble_eq_true rfl) rfl) rfl rfl hl.1 rfl (lv_room (Nat.le_of_ble_eq_true rfl)) dL_law_721 ⟨(by show _ ≤ 600086; omega), (by show _ ≤ 7301442; omega)⟩) hP hD hS hA (fun r_90 x_90 H locs hq_90 hP hD hS d_90 hd0 => ?_)
                                  replace hP := kj_P List.perm_append_comm hP
                                  replace hD := kj_D List.perm_append_comm hD
                                  have htT : ∀ w ∈ TT, w.before _ (s.setDrawn d_90) = true := dr_words htT0 d_90
                                  have hTB : TBok (s.setDrawn d_90) := TBok.same (u := s) (U := s.setDrawn d_90) rfl (Vm.Alike.refl s.vm) hTB0
                                  have hK : va_K D vwCl (ty6 cA) (s.setDrawn d_90) := hK0
                                  have hown : (s.setDrawn d_90).vm.findClass RL = some m.cls := hown0
                                  have hTX : TXok A (s.setDrawn d_90) := hTX0.dr d_90
                                  have hX : va_X b L xs (s.setDrawn d_90) (s.setDrawn d_90).heap := hX0
                                  have hAO : va_AOA .int (s.setDrawn d_90) ∧ va_AOA (.array .int) (s.setDrawn d_90) := ⟨va_AOA.moved (u := s) (U := s.setDrawn d_90) (Vm.Alike.refl s.vm) hAO0.1, va_AOA.moved (u := s) (U := s.setDrawn d_90) (Vm.Alike.refl s.vm) hAO0.2⟩
                                  rw [hq_90.2] at hP hD
                                  have hm_90 : r_90 = kMn M na k r9 := gg_83.mean hk ja_k (v := r9) (by omega) hq_90.1
                                  subst hm_90
                                  refine lv_dcmp hx hb dL_law_724 ?_
                                  refine lv_if_le (tgt := 730) hx hb dL_law_725 (by decide) (fun c_92 => ?_) (fun c_92 => ?_)
                                  · refine lv_iinc (v := nI (i2 + 1)) (lv' := [(12, .int (nI (i2 + 1))), (11, .int (nI r9)), (9, .int (nI (vcT M k))), (8, .int (nI k)), (7, .int (nI (aa + sumN (fun v => nT M.2 (nI k) (nI v) na) (vcT M k)))), (5, .long bq), (4, .int (nI sp)), (3, .ref x), (2, .ref d), (1, .int (nI ti)), (0, .ref b)]) hx hb dL_law_730 hl (k := 0) rfl (nI_1 _) (by decide) rfl (fun ls hl => ?_)
                                    refine lv_goto (tgt := 684) hx hb dL_law_733 (by decide) ?_
                                    have hl := lv_sub hl [0, 1, 2, 3, 4, 5, 6, 7, 8, 9, 10] rfl
                                    exact ih_684 _ (by omega) H locs ls d_90 hd0 ⟨i2 + 1, rfl, (by omega), hP, hD, hS, hl⟩
                                  · exact absurd (Int32.not_le.mp c_92) (cm_le (best_cmp (hmax i2 (by omega) (by omega))))
                          · replace c_80 := (nI_eq (a := (((nT M.2 (nI k) (nI 0) na) + (nT M.2 (nI k) (nI 1) na)) + 0) + (nT M.2 (nI k) (nI 3) na)) (b := 0) (by omega) (by omega)).mp c_80
                            refine lv_iconst (v := 1) hx hb dL_law_654 (by decide) ?_
                            refine lv_goto (tgt := 659) hx hb dL_law_655 (by decide) ?_
                            refine lv_icmp_ne (tgt := 679) hx hb dL_law_659 (by decide) (fun _ => ?_) (fun c_93 => absurd c_93 (by decide))
                            exfalso; omega
                      · replace c_63 : ¬ (vcT M k ≤ 2) := fun h9 => c_63 ((nI_leI (a := vcT M k) (b := 2) (by omega) (by omega)).mpr h9)
                        refine lv_aload_n hx hb dL_law_619 rfl (lv_at hl 7 rfl) ?_
                        refine lv_iload hx hb dL_law_620 (lv_at hl 3 rfl) ?_
                        refine lv_iconst (v := 2) hx hb dL_law_622 (by decide) ?_
                        refine lv_iconst (v := 0) hx hb dL_law_623 (by decide) ?_
                        refine kn_i (va_runV (As := [.int (nI k), .int 2, .int 0]) (rest := [.int (nI ((nT M.2 (nI k) (nI 0) na) + (nT M.2 (nI k) (nI 1) na))), .int 0]) ⟨hx, hb, hml, hown, htT⟩ (c_toldX l D cA _ Y2 x ggv.c.hx ar ggv.c.q0 ak ggv.c.q1 ggv.c.kk ggv.c.R k q8_k a_k ja_k (nI k) sw_k (nI 2) (ggv.vko hk ja_k evc (v := 2) (by omega) hvc4) 0 (by decide)) (cwV 3 htT (kg_V m_ml_L_70 m_im_X5_told m_sl_X5_told m_in_X5 m_cd_X5_told) rfl rfl rfl (by decide +kernel) ⟨Nat.le_of_ble_eq_true rfl, Nat.le_of_ble_eq_true rfl⟩) (kn_V hK hP hD hTB ggv.c.hx (Nat.le_of_ble_eq_true rfl) rfl) rfl rfl hl.1 rfl (lv_room (Nat.le_of_ble_eq_true rfl)) dL_law_624 ⟨(by show _ ≤ 600086; omega), (by show _ ≤ 7301442; omega)⟩) hP hD hS hA (fun r_94 x_94 H locs hq_94 hP hD hS => ?_)
                        rw [hq_94.2] at hP hD
                        rw [hq_94.1.trans (ggv.told0 hk ja_k (v := 2) (by omega))]
                        have hnt_94 := nT_le M.2 (nI k) (nI 2) na
                        refine lv_goto (tgt := 631) hx hb dL_law_627 (by decide) ?_
                        refine lv_iadd hx hb dL_law_631 ?_
                        rw [show ((nI ((nT M.2 (nI k) (nI 0) na) + (nT M.2 (nI k) (nI 1) na))) + (nI (nT M.2 (nI k) (nI 2) na)) : Int32) = nI (((nT M.2 (nI k) (nI 0) na) + (nT M.2 (nI k) (nI 1) na)) + (nT M.2 (nI k) (nI 2) na)) from nI_add ((nT M.2 (nI k) (nI 0) na) + (nT M.2 (nI k) (nI 1) na)) (nT M.2 (nI k) (nI 2) na)]
                        refine lv_iload hx hb dL_law_632 (lv_at hl 2 rfl) ?_
                        refine lv_iconst (v := 3) hx hb dL_law_634 (by decide) ?_
                        refine lv_icmp_le (tgt := 649) hx hb dL_law_635 (by decide) (fun c_95 => ?_) (fun c_95 => ?_)
                        · replace c_95 := (nI_leI (a := vcT M k) (b := 3) (by omega) (by omega)).mp c_95
                          refine lv_iconst (v := 0) hx hb dL_law_649 (by decide) ?_
                          refine lv_iadd hx hb dL_law_650 ?_
                          rw [show ((nI (((nT M.2 (nI k) (nI 0) na) + (nT M.2 (nI k) (nI 1) na)) + (nT M.2 (nI k) (nI 2) na))) + 0 : Int32) = nI ((((nT M.2 (nI k) (nI 0) na) + (nT M.2 (nI k) (nI 1) na)) + (nT M.2 (nI k) (nI 2) na)) + 0) from nI_add (((nT M.2 (nI k) (nI 0) na) + (nT M.2 (nI k) (nI 1) na)) + (nT M.2 (nI k) (nI 2) na)) 0]
                          have hsp : 0 < (((nT M.2 (nI k) (nI 0) na) + (nT M.2 (nI k) (nI 1) na)) + (nT M.2 (nI k) (nI 2) na)) + 0 := by rcases (show r9 = 0 ∨ r9 = 1 ∨ r9 = 2 ∨ r9 = 3 by omega) with rfl | rfl | rfl | rfl <;> omega
                          refine lv_if_ne (tgt := 658) hx hb dL_law_651 (by decide) (fun c_96 => ?_) (fun c_96 => ?_)
                          · replace c_96 : ¬ ((((nT M.2 (nI k) (nI 0) na) + (nT M.2 (nI k) (nI 1) na)) + (nT M.2 (nI k) (nI 2) na)) + 0 = 0) := fun h9 => c_96 ((nI_eq (a := (((nT M.2 (nI k) (nI 0) na) + (nT M.2 (nI k) (nI 1) na)) + (nT M.2 (nI k) (nI 2) na)) + 0) (b := 0) (by omega) (by omega)).mpr h9)
                            refine lv_iconst (v := 0) hx hb dL_law_658 (by decide) ?_
                            refine lv_icmp_ne (tgt := 679) hx hb dL_law_659 (by decide) (fun c_97 => absurd c_97 (by decide)) (fun _ => ?_)
                            refine lv_aload_n hx hb dL_law_662 rfl (lv_at hl 7 rfl) ?_
                            refine lv_iload hx hb dL_law_663 (lv_at hl 3 rfl) ?_
                            refine lv_aload_n hx hb dL_law_665 rfl (lv_at hl 7 rfl) ?_
                            refine lv_iload hx hb dL_law_666 (lv_at hl 3 rfl) ?_
                            refine kn_i (va_runV (As := [.int (nI k)]) (rest := [.int (nI k), .ref x]) ⟨hx, hb, hml, hown, htT⟩ (c_share l D cA _ Y2 x ggv.c.hx ar ggv.c.q0 ak ggv.c.q1 ggv.c.kk ggv.c.R k q8_k a_k ja_k (nI k) sw_k) (cwV 1 htT (kg_V m_ml_L_86 m_im_X5_share m_sl_X5_share m_in_X5 m_cd_X5_share) rfl rfl rfl (by decide +kernel) ⟨Nat.le_of_ble_eq_true rfl, Nat.le_of_ble_eq_true rfl⟩) (kn_V hK hP hD hTB ggv.c.hx (Nat.le_of_ble_eq_true rfl) rfl) rfl rfl hl.1 rfl (lv_room (Nat.le_of_ble_eq_true rfl)) dL_law_668 ⟨(by show _ ≤ 600086; omega), (by show _ ≤ 7301442; omega)⟩) hP hD hS hA (fun r_98 x_98 H locs hq_98 hP hD hS => ?_)
                            rw [hq_98.2] at hP hD
                            rw [hq_98.1.trans ((ggv.far hk ja_k).trans es0)]
                            refine lv_bipush (v := 20) hx hb dL_law_671 (by decide) ?_
                            refine kn_i (va_runV (As := [.int (nI k), .int (nI s0), .int 20]) (rest := []) ⟨hx, hb, hml, hown, htT⟩ (c_wouldChangeX l D cA _ Y2 x ggv.c.hx ar ggv.c.q0 ak ggv.c.q1 ggv.c.kk ggv.c.R k q8_k a_k ja_k (nI k) sw_k (nI s0) (kOut_n (a := s0) (lo := 0) (hi := 1000) (by omega) (by omega) (by omega)) 20 (by decide) (by decide) (by decide) (fun u => (rBy M na ru k u).1) (by_eq ggv.l ggv.c hok ggv.y rfl rfl hk ja_k) (rNw M na ru k (nI s0)) (wc_eq ggv.l ggv.c hok ggv.y rfl rfl hk ja_k)) (cwV 3 htT (kg_V m_ml_L_95 m_im_X5_wouldChange m_sl_X5_wouldChange m_in_X5 m_cd_X5_wouldChange) rfl rfl rfl (by decide +kernel) ⟨Nat.le_of_ble_eq_true rfl, Nat.le_of_ble_eq_true rfl⟩) (kn_V hK hP hD hTB ggv.c.hx (Nat.le_of_ble_eq_true rfl) rfl) rfl rfl hl.1 rfl (lv_room (Nat.le_of_ble_eq_true rfl)) dL_law_673 ⟨(by show _ ≤ 600086; omega), (by show _ ≤ 7301442; omega)⟩) hP hD hS hA (fun r_99 x_99 H locs hq_99 hP hD hS => ?_)
                            have gg_99 : GG n na x_99 M x ar ak := ggv.eA hq_99.2
                            obtain ⟨a_k, ja_k⟩ := gg_99.c.row k (by omega)
                            have sw_k := gg_99.sw2 (by omega) ja_k
                            rw [hq_99.1.trans (would_0 es0)]
                            refine lv_if_eq (tgt := 681) hx hb dL_law_676 (by decide) (fun _ => ?_) (fun c_100 => absurd c_100 (by decide))
                            refine lv_iconst (v := 0) hx hb dL_law_681 (by decide) ?_
                            refine lv_istore (lv' := [(12, .int 0), (11, .int (nI r9)), (10, .int 20), (9, .int (nI (vcT M k))), (8, .int (nI k)), (7, .int (nI (aa + sumN (fun v => nT M.2 (nI k) (nI v) na) (vcT M k)))), (5, .long bq), (4, .int (nI sp)), (3, .ref x), (2, .ref d), (1, .int (nI ti)), (0, .ref b)]) hx hb dL_law_682 hl (by decide) rfl (fun ls hl => ?_)
                            refine kz_loopD 684 (fun N9 H locs ls => ∃ (i2 : Nat), N9 = (vcT M k) - i2 ∧ i2 ≤ (vcT M k) ∧ va_P D vwCl (PW cA U ++ PW cA x_99) H ∧ va_D A (PW cA U ++ PW cA x_99) ∧ va_S A s.heap H locs ∧ lv_has ls 16 [(12, .int (nI i2)), (11, .int (nI r9)), (9, .int (nI (vcT M k))), (8, .int (nI k)), (7, .int (nI (aa + sumN (fun v => nT M.2 (nI k) (nI v) na) (vcT M k)))), (5, .long bq), (4, .int (nI sp)), (3, .ref x), (2, .ref d), (1, .int (nI ti)), (0, .ref b)]) (fun N9 ih_684 H locs ls e_684 hd0 hI => ?_) hd0 ⟨0, rfl, Nat.zero_le _, hP, hD, hS, lv_sub hl [0, 1, 3, 4, 5, 6, 7, 8, 9, 10, 11] rfl⟩
                            obtain ⟨i2, hn9, hi29, hP, hD, hS, hl⟩ := hI
                            have htT : ∀ w ∈ TT, w.before _ (s.setDrawn e_684) = true := dr_words htT0 e_684
                            have hTB : TBok (s.setDrawn e_684) := TBok.same (u := s) (U := s.setDrawn e_684) rfl (Vm.Alike.refl s.vm) hTB0
                            have hK : va_K D vwCl (ty6 cA) (s.setDrawn e_684) := hK0
                            have hown : (s.setDrawn e_684).vm.findClass RL = some m.cls := hown0
                            have hTX : TXok A (s.setDrawn e_684) := hTX0.dr e_684
                            have hX : va_X b L xs (s.setDrawn e_684) (s.setDrawn e_684).heap := hX0
                            have hAO : va_AOA .int (s.setDrawn e_684) ∧ va_AOA (.array .int) (s.setDrawn e_684) := ⟨va_AOA.moved (u := s) (U := s.setDrawn e_684) (Vm.Alike.refl s.vm) hAO0.1, va_AOA.moved (u := s) (U := s.setDrawn e_684) (Vm.Alike.refl s.vm) hAO0.2⟩
                            refine lv_iload hx hb dL_law_684 (lv_at hl 0 rfl) ?_
                            refine lv_iload hx hb dL_law_686 (lv_at hl 2 rfl) ?_
                            refine lv_icmp_ge (tgt := 736) hx hb dL_law_688 (by decide) (fun c_101 => ?_) (fun c_101 => ?_)
                            · replace c_101 := (nI_leI (a := vcT M k) (b := i2) (by omega) (by omega)).mp c_101
                              exact hcut736 H locs _ e_684 hd0 ⟨x_99, gg_99, hP, hD, hS, lv_sub hl [2, 3, 4, 5, 6, 7, 8, 9, 10] rfl⟩
                            · replace c_101 : ¬ (vcT M k ≤ i2) := fun h9 => c_101 ((nI_leI (a := vcT M k) (b := i2) (by omega) (by omega)).mpr h9)
                              refine lv_iload hx hb dL_law_691 (lv_at hl 1 rfl) ?_
                              refine lv_if_lt (tgt := 736) hx hb dL_law_693 (by decide) (fun c_102 => ?_) (fun c_102 => ?_)
                              · replace c_102 := (nI_ltI (a := r9) (b := 0) (by omega) (by omega)).mp c_102
                                exact hcut736 H locs _ e_684 hd0 ⟨x_99, gg_99, hP, hD, hS, lv_sub hl [2, 3, 4, 5, 6, 7, 8, 9, 10] rfl⟩
                              · replace c_102 : ¬ (r9 < 0) := fun h9 => c_102 ((nI_ltI (a := r9) (b := 0) (by omega) (by omega)).mpr h9)
                                refine lv_aload_n hx hb dL_law_696 rfl (lv_at hl 7 rfl) ?_
                                refine lv_iload hx hb dL_law_697 (lv_at hl 3 rfl) ?_
                                refine lv_iload hx hb dL_law_699 (lv_at hl 0 rfl) ?_
                                refine lv_iconst (v := 0) hx hb dL_law_701 (by decide) ?_
                                refine kn_i (va_runV (As := [.int (nI k), .int (nI i2), .int 0]) (rest := []) ⟨hx, hb, hml, hown, htT⟩ (c_toldX l D cA _ x_99 x gg_99.c.hx ar gg_99.c.q0 ak gg_99.c.q1 gg_99.c.kk gg_99.c.R k q8_k a_k ja_k (nI k) sw_k (nI i2) (gg_99.vko hk ja_k evc (v := i2) (by omega) hvc4) 0 (by decide)) (cwV 3 htT (kg_V m_ml_L_70 m_im_X5_told m_sl_X5_told m_in_X5 m_cd_X5_told) rfl rfl rfl (by decide +kernel) ⟨Nat.le_of_ble_eq_true rfl, Nat.le_of_ble_eq_true rfl⟩) (kn_V hK hP hD hTB gg_99.c.hx (Nat.le_of_ble_eq_true rfl) rfl) rfl rfl hl.1 rfl (lv_room (Nat.le_of_ble_eq_true rfl)) dL_law_702 ⟨(by show _ ≤ 600086; omega), (by show _ ≤ 7301442; omega)⟩) hP hD hS hA (fun r_103 x_103 H locs hq_103 hP hD hS => ?_)
                                rw [hq_103.2] at hP hD
                                rw [hq_103.1.trans (gg_99.told0 hk ja_k (v := i2) (by omega))]
                                have hnt_103 := nT_le M.2 (nI k) (nI i2) na
                                refine lv_if_le (tgt := 730) hx hb dL_law_705 (by decide) (fun c_104 => ?_) (fun c_104 => ?_)
                                · replace c_104 := (nI_leI (a := nT M.2 (nI k) (nI i2) na) (b := 0) (by omega) (by omega)).mp c_104
                                  refine lv_iinc (v := nI (i2 + 1)) (lv' := [(12, .int (nI (i2 + 1))), (11, .int (nI r9)), (9, .int (nI (vcT M k))), (8, .int (nI k)), (7, .int (nI (aa + sumN (fun v => nT M.2 (nI k) (nI v) na) (vcT M k)))), (5, .long bq), (4, .int (nI sp)), (3, .ref x), (2, .ref d), (1, .int (nI ti)), (0, .ref b)]) hx hb dL_law_730 hl (k := 0) rfl (nI_1 _) (by decide) rfl (fun ls hl => ?_)
                                  refine lv_goto (tgt := 684) hx hb dL_law_733 (by decide) ?_
                                  have hl := lv_sub hl [0, 1, 2, 3, 4, 5, 6, 7, 8, 9, 10] rfl
                                  exact ih_684 _ (by omega) H locs ls e_684 hd0 ⟨i2 + 1, rfl, (by omega), hP, hD, hS, hl⟩
                                · replace c_104 : ¬ (nT M.2 (nI k) (nI i2) na ≤ 0) := fun h9 => c_104 ((nI_leI (a := nT M.2 (nI k) (nI i2) na) (b := 0) (by omega) (by omega)).mpr h9)
                                  refine lv_aload_n hx hb dL_law_708 rfl (lv_at hl 7 rfl) ?_
                                  refine lv_iload hx hb dL_law_709 (lv_at hl 3 rfl) ?_
                                  refine lv_iload hx hb dL_law_711 (lv_at hl 0 rfl) ?_
                                  refine kjD_d hd0 List.perm_append_comm (va_runV_D (As := [.int (nI k), .int (nI i2)]) (rest := []) ⟨hx, hb, hml, hown, htT⟩ (c_meanX l D cA _ x_99 x gg_99.c.hx ar gg_99.c.q0 ak gg_99.c.q1 gg_99.c.kk gg_99.c.R k q8_k a_k ja_k (nI k) sw_k (nI i2) (gg_99.vko hk ja_k evc (v := i2) (by omega) hvc4)) (cwV 2 htT (kg_V m_ml_L_73 m_im_X5_mean m_sl_X5_mean m_in_X5 m_cd_X5_mean) rfl rfl rfl (by decide +kernel) ⟨Nat.le_of_ble_eq_true rfl, Nat.le_of_ble_eq_true rfl⟩) (kn_V hK hP hD hTB gg_99.c.hx (Nat.le_of_ble_eq_true rfl) rfl) rfl rfl hl.1 rfl (lv_room (Nat.le_of_ble_eq_true rfl)) dL_law_713 ⟨(by show _ ≤ 600086; omega), (by show _ ≤ 7301442; omega)⟩) hP hD hS hA (fun r_105 x_105 H locs hq_105 hP hD hS d_105 hd0 => ?_)
                                  replace hP := kj_P List.perm_append_comm hP
                                  replace hD := kj_D List.perm_append_comm hD
                                  have htT : ∀ w ∈ TT, w.before _ (s.setDrawn d_105) = true := dr_words htT0 d_105
                                  have hTB : TBok (s.setDrawn d_105) := TBok.same (u := s) (U := s.setDrawn d_105) rfl (Vm.Alike.refl s.vm) hTB0
                                  have hK : va_K D vwCl (ty6 cA) (s.setDrawn d_105) := hK0
                                  have hown : (s.setDrawn d_105).vm.findClass RL = some m.cls := hown0
                                  have hTX : TXok A (s.setDrawn d_105) := hTX0.dr d_105
                                  have hX : va_X b L xs (s.setDrawn d_105) (s.setDrawn d_105).heap := hX0
                                  have hAO : va_AOA .int (s.setDrawn d_105) ∧ va_AOA (.array .int) (s.setDrawn d_105) := ⟨va_AOA.moved (u := s) (U := s.setDrawn d_105) (Vm.Alike.refl s.vm) hAO0.1, va_AOA.moved (u := s) (U := s.setDrawn d_105) (Vm.Alike.refl s.vm) hAO0.2⟩
                                  rw [hq_105.2] at hP hD
                                  have hm_105 : r_105 = kMn M na k i2 := gg_99.mean hk ja_k (v := i2) (by omega) hq_105.1
                                  subst hm_105
                                  refine lv_aload_n hx hb dL_law_716 rfl (lv_at hl 7 rfl) ?_
                                  refine lv_iload hx hb dL_law_717 (lv_at hl 3 rfl) ?_
                                  refine lv_iload hx hb dL_law_719 (lv_at hl 1 rfl) ?_
                                  refine kjD_d hd0 List.perm_append_comm (va_runV_D (As := [.int (nI k), .int (nI r9)]) (rest := [.double (kMn M na k i2)]) ⟨hx, hb, hml, hown, htT⟩ (c_meanX l D cA _ x_99 x gg_99.c.hx ar gg_99.c.q0 ak gg_99.c.q1 gg_99.c.kk gg_99.c.R k q8_k a_k ja_k (nI k) sw_k (nI r9) (gg_99.vko hk ja_k evc (v := r9) (by omega) hvc4)) (cwV 2 htT (kg_V m_ml_L_73 m_im_X5_mean m_sl_X5_mean m_in_X5 m_cd_X5_mean) rfl rfl rfl (by decide +kernel) ⟨Nat.le_of_ble_eq_true rfl, Nat.le_of_ble_eq_true rfl⟩) (kn_V hK hP hD hTB gg_99.c.hx (Nat.le_of_ble_eq_true rfl) rfl) rfl rfl hl.1 rfl (lv_room (Nat.le_of_ble_eq_true rfl)) dL_law_721 ⟨(by show _ ≤ 600086; omega), (by show _ ≤ 7301442; omega)⟩) hP hD hS hA (fun r_106 x_106 H locs hq_106 hP hD hS d_106 hd0 => ?_)
                                  replace hP := kj_P List.perm_append_comm hP
                                  replace hD := kj_D List.perm_append_comm hD
                                  have htT : ∀ w ∈ TT, w.before _ (s.setDrawn d_106) = true := dr_words htT0 d_106
                                  have hTB : TBok (s.setDrawn d_106) := TBok.same (u := s) (U := s.setDrawn d_106) rfl (Vm.Alike.refl s.vm) hTB0
                                  have hK : va_K D vwCl (ty6 cA) (s.setDrawn d_106) := hK0
                                  have hown : (s.setDrawn d_106).vm.findClass RL = some m.cls := hown0
                                  have hTX : TXok A (s.setDrawn d_106) := hTX0.dr d_106
                                  have hX : va_X b L xs (s.setDrawn d_106) (s.setDrawn d_106).heap := hX0
                                  have hAO : va_AOA .int (s.setDrawn d_106) ∧ va_AOA (.array .int) (s.setDrawn d_106) := ⟨va_AOA.moved (u := s) (U := s.setDrawn d_106) (Vm.Alike.refl s.vm) hAO0.1, va_AOA.moved (u := s) (U := s.setDrawn d_106) (Vm.Alike.refl s.vm) hAO0.2⟩
                                  rw [hq_106.2] at hP hD
                                  have hm_106 : r_106 = kMn M na k r9 := gg_99.mean hk ja_k (v := r9) (by omega) hq_106.1
                                  subst hm_106
                                  refine lv_dcmp hx hb dL_law_724 ?_
                                  refine lv_if_le (tgt := 730) hx hb dL_law_725 (by decide) (fun c_108 => ?_) (fun c_108 => ?_)
                                  · refine lv_iinc (v := nI (i2 + 1)) (lv' := [(12, .int (nI (i2 + 1))), (11, .int (nI r9)), (9, .int (nI (vcT M k))), (8, .int (nI k)), (7, .int (nI (aa + sumN (fun v => nT M.2 (nI k) (nI v) na) (vcT M k)))), (5, .long bq), (4, .int (nI sp)), (3, .ref x), (2, .ref d), (1, .int (nI ti)), (0, .ref b)]) hx hb dL_law_730 hl (k := 0) rfl (nI_1 _) (by decide) rfl (fun ls hl => ?_)
                                    refine lv_goto (tgt := 684) hx hb dL_law_733 (by decide) ?_
                                    have hl := lv_sub hl [0, 1, 2, 3, 4, 5, 6, 7, 8, 9, 10] rfl
                                    exact ih_684 _ (by omega) H locs ls d_106 hd0 ⟨i2 + 1, rfl, (by omega), hP, hD, hS, hl⟩
                                  · exact absurd (Int32.not_le.mp c_108) (cm_le (best_cmp (hmax i2 (by omega) (by omega))))
                          · replace c_96 := (nI_eq (a := (((nT M.2 (nI k) (nI 0) na) + (nT M.2 (nI k) (nI 1) na)) + (nT M.2 (nI k) (nI 2) na)) + 0) (b := 0) (by omega) (by omega)).mp c_96
                            refine lv_iconst (v := 1) hx hb dL_law_654 (by decide) ?_
                            refine lv_goto (tgt := 659) hx hb dL_law_655 (by decide) ?_
                            refine lv_icmp_ne (tgt := 679) hx hb dL_law_659 (by decide) (fun _ => ?_) (fun c_109 => absurd c_109 (by decide))
                            exfalso; omega
                        · replace c_95 : ¬ (vcT M k ≤ 3) := fun h9 => c_95 ((nI_leI (a := vcT M k) (b := 3) (by omega) (by omega)).mpr h9)
                          refine lv_aload_n hx hb dL_law_638 rfl (lv_at hl 7 rfl) ?_
                          refine lv_iload hx hb dL_law_639 (lv_at hl 3 rfl) ?_
                          refine lv_iconst (v := 3) hx hb dL_law_641 (by decide) ?_
                          refine lv_iconst (v := 0) hx hb dL_law_642 (by decide) ?_
                          refine kn_i (va_runV (As := [.int (nI k), .int 3, .int 0]) (rest := [.int (nI (((nT M.2 (nI k) (nI 0) na) + (nT M.2 (nI k) (nI 1) na)) + (nT M.2 (nI k) (nI 2) na))), .int 0]) ⟨hx, hb, hml, hown, htT⟩ (c_toldX l D cA _ Y2 x ggv.c.hx ar ggv.c.q0 ak ggv.c.q1 ggv.c.kk ggv.c.R k q8_k a_k ja_k (nI k) sw_k (nI 3) (ggv.vko hk ja_k evc (v := 3) (by omega) hvc4) 0 (by decide)) (cwV 3 htT (kg_V m_ml_L_70 m_im_X5_told m_sl_X5_told m_in_X5 m_cd_X5_told) rfl rfl rfl (by decide +kernel) ⟨Nat.le_of_ble_eq_true rfl, Nat.le_of_ble_eq_true rfl⟩) (kn_V hK hP hD hTB ggv.c.hx (Nat.le_of_ble_eq_true rfl) rfl) rfl rfl hl.1 rfl (lv_room (Nat.le_of_ble_eq_true rfl)) dL_law_643 ⟨(by show _ ≤ 600086; omega), (by show _ ≤ 7301442; omega)⟩) hP hD hS hA (fun r_110 x_110 H locs hq_110 hP hD hS => ?_)
                          rw [hq_110.2] at hP hD
                          rw [hq_110.1.trans (ggv.told0 hk ja_k (v := 3) (by omega))]
                          have hnt_110 := nT_le M.2 (nI k) (nI 3) na
                          refine lv_goto (tgt := 650) hx hb dL_law_646 (by decide) ?_
                          refine lv_iadd hx hb dL_law_650 ?_
                          rw [show ((nI (((nT M.2 (nI k) (nI 0) na) + (nT M.2 (nI k) (nI 1) na)) + (nT M.2 (nI k) (nI 2) na))) + (nI (nT M.2 (nI k) (nI 3) na)) : Int32) = nI ((((nT M.2 (nI k) (nI 0) na) + (nT M.2 (nI k) (nI 1) na)) + (nT M.2 (nI k) (nI 2) na)) + (nT M.2 (nI k) (nI 3) na)) from nI_add (((nT M.2 (nI k) (nI 0) na) + (nT M.2 (nI k) (nI 1) na)) + (nT M.2 (nI k) (nI 2) na)) (nT M.2 (nI k) (nI 3) na)]
                          have hsp : 0 < (((nT M.2 (nI k) (nI 0) na) + (nT M.2 (nI k) (nI 1) na)) + (nT M.2 (nI k) (nI 2) na)) + (nT M.2 (nI k) (nI 3) na) := by rcases (show r9 = 0 ∨ r9 = 1 ∨ r9 = 2 ∨ r9 = 3 by omega) with rfl | rfl | rfl | rfl <;> omega
                          refine lv_if_ne (tgt := 658) hx hb dL_law_651 (by decide) (fun c_111 => ?_) (fun c_111 => ?_)
                          · replace c_111 : ¬ ((((nT M.2 (nI k) (nI 0) na) + (nT M.2 (nI k) (nI 1) na)) + (nT M.2 (nI k) (nI 2) na)) + (nT M.2 (nI k) (nI 3) na) = 0) := fun h9 => c_111 ((nI_eq (a := (((nT M.2 (nI k) (nI 0) na) + (nT M.2 (nI k) (nI 1) na)) + (nT M.2 (nI k) (nI 2) na)) + (nT M.2 (nI k) (nI 3) na)) (b := 0) (by omega) (by omega)).mpr h9)
                            refine lv_iconst (v := 0) hx hb dL_law_658 (by decide) ?_
                            refine lv_icmp_ne (tgt := 679) hx hb dL_law_659 (by decide) (fun c_112 => absurd c_112 (by decide)) (fun _ => ?_)
                            refine lv_aload_n hx hb dL_law_662 rfl (lv_at hl 7 rfl) ?_
                            refine lv_iload hx hb dL_law_663 (lv_at hl 3 rfl) ?_
                            refine lv_aload_n hx hb dL_law_665 rfl (lv_at hl 7 rfl) ?_
                            refine lv_iload hx hb dL_law_666 (lv_at hl 3 rfl) ?_
                            refine kn_i (va_runV (As := [.int (nI k)]) (rest := [.int (nI k), .ref x]) ⟨hx, hb, hml, hown, htT⟩ (c_share l D cA _ Y2 x ggv.c.hx ar ggv.c.q0 ak ggv.c.q1 ggv.c.kk ggv.c.R k q8_k a_k ja_k (nI k) sw_k) (cwV 1 htT (kg_V m_ml_L_86 m_im_X5_share m_sl_X5_share m_in_X5 m_cd_X5_share) rfl rfl rfl (by decide +kernel) ⟨Nat.le_of_ble_eq_true rfl, Nat.le_of_ble_eq_true rfl⟩) (kn_V hK hP hD hTB ggv.c.hx (Nat.le_of_ble_eq_true rfl) rfl) rfl rfl hl.1 rfl (lv_room (Nat.le_of_ble_eq_true rfl)) dL_law_668 ⟨(by show _ ≤ 600086; omega), (by show _ ≤ 7301442; omega)⟩) hP hD hS hA (fun r_113 x_113 H locs hq_113 hP hD hS => ?_)
                            rw [hq_113.2] at hP hD
                            rw [hq_113.1.trans ((ggv.far hk ja_k).trans es0)]
                            refine lv_bipush (v := 20) hx hb dL_law_671 (by decide) ?_
                            refine kn_i (va_runV (As := [.int (nI k), .int (nI s0), .int 20]) (rest := []) ⟨hx, hb, hml, hown, htT⟩ (c_wouldChangeX l D cA _ Y2 x ggv.c.hx ar ggv.c.q0 ak ggv.c.q1 ggv.c.kk ggv.c.R k q8_k a_k ja_k (nI k) sw_k (nI s0) (kOut_n (a := s0) (lo := 0) (hi := 1000) (by omega) (by omega) (by omega)) 20 (by decide) (by decide) (by decide) (fun u => (rBy M na ru k u).1) (by_eq ggv.l ggv.c hok ggv.y rfl rfl hk ja_k) (rNw M na ru k (nI s0)) (wc_eq ggv.l ggv.c hok ggv.y rfl rfl hk ja_k)) (cwV 3 htT (kg_V m_ml_L_95 m_im_X5_wouldChange m_sl_X5_wouldChange m_in_X5 m_cd_X5_wouldChange) rfl rfl rfl (by decide +kernel) ⟨Nat.le_of_ble_eq_true rfl, Nat.le_of_ble_eq_true rfl⟩) (kn_V hK hP hD hTB ggv.c.hx (Nat.le_of_ble_eq_true rfl) rfl) rfl rfl hl.1 rfl (lv_room (Nat.le_of_ble_eq_true rfl)) dL_law_673 ⟨(by show _ ≤ 600086; omega), (by show _ ≤ 7301442; omega)⟩) hP hD hS hA (fun r_114 x_114 H locs hq_114 hP hD hS => ?_)
                            have gg_114 : GG n na x_114 M x ar ak := ggv.eA hq_114.2
                            obtain ⟨a_k, ja_k⟩ := gg_114.c.row k (by omega)
                            have sw_k := gg_114.sw2 (by omega) ja_k
                            rw [hq_114.1.trans (would_0 es0)]
                            refine lv_if_eq (tgt := 681) hx hb dL_law_676 (by decide) (fun _ => ?_) (fun c_115 => absurd c_115 (by decide))
                            refine lv_iconst (v := 0) hx hb dL_law_681 (by decide) ?_
                            refine lv_istore (lv' := [(12, .int 0), (11, .int (nI r9)), (10, .int 20), (9, .int (nI (vcT M k))), (8, .int (nI k)), (7, .int (nI (aa + sumN (fun v => nT M.2 (nI k) (nI v) na) (vcT M k)))), (5, .long bq), (4, .int (nI sp)), (3, .ref x), (2, .ref d), (1, .int (nI ti)), (0, .ref b)]) hx hb dL_law_682 hl (by decide) rfl (fun ls hl => ?_)
                            refine kz_loopD 684 (fun N9 H locs ls => ∃ (i2 : Nat), N9 = (vcT M k) - i2 ∧ i2 ≤ (vcT M k) ∧ va_P D vwCl (PW cA U ++ PW cA x_114) H ∧ va_D A (PW cA U ++ PW cA x_114) ∧ va_S A s.heap H locs ∧ lv_has ls 16 [(12, .int (nI i2)), (11, .int (nI r9)), (9, .int (nI (vcT M k))), (8, .int (nI k)), (7, .int (nI (aa + sumN (fun v => nT M.2 (nI k) (nI v) na) (vcT M k)))), (5, .long bq), (4, .int (nI sp)), (3, .ref x), (2, .ref d), (1, .int (nI ti)), (0, .ref b)]) (fun N9 ih_684 H locs ls e_684 hd0 hI => ?_) hd0 ⟨0, rfl, Nat.zero_le _, hP, hD, hS, lv_sub hl [0, 1, 3, 4, 5, 6, 7, 8, 9, 10, 11] rfl⟩
                            obtain ⟨i2, hn9, hi29, hP, hD, hS, hl⟩ := hI
                            have htT : ∀ w ∈ TT, w.before _ (s.setDrawn e_684) = true := dr_words htT0 e_684
                            have hTB : TBok (s.setDrawn e_684) := TBok.same (u := s) (U := s.setDrawn e_684) rfl (Vm.Alike.refl s.vm) hTB0
                            have hK : va_K D vwCl (ty6 cA) (s.setDrawn e_684) := hK0
                            have hown : (s.setDrawn e_684).vm.findClass RL = some m.cls := hown0
                            have hTX : TXok A (s.setDrawn e_684) := hTX0.dr e_684
                            have hX : va_X b L xs (s.setDrawn e_684) (s.setDrawn e_684).heap := hX0
                            have hAO : va_AOA .int (s.setDrawn e_684) ∧ va_AOA (.array .int) (s.setDrawn e_684) := ⟨va_AOA.moved (u := s) (U := s.setDrawn e_684) (Vm.Alike.refl s.vm) hAO0.1, va_AOA.moved (u := s) (U := s.setDrawn e_684) (Vm.Alike.refl s.vm) hAO0.2⟩
                            refine lv_iload hx hb dL_law_684 (lv_at hl 0 rfl) ?_
                            refine lv_iload hx hb dL_law_686 (lv_at hl 2 rfl) ?_
                            refine lv_icmp_ge (tgt := 736) hx hb dL_law_688 (by decide) (fun c_116 => ?_) (fun c_116 => ?_)
                            · replace c_116 := (nI_leI (a := vcT M k) (b := i2) (by omega) (by omega)).mp c_116
                              exact hcut736 H locs _ e_684 hd0 ⟨x_114, gg_114, hP, hD, hS, lv_sub hl [2, 3, 4, 5, 6, 7, 8, 9, 10] rfl⟩
                            · replace c_116 : ¬ (vcT M k ≤ i2) := fun h9 => c_116 ((nI_leI (a := vcT M k) (b := i2) (by omega) (by omega)).mpr h9)
                              refine lv_iload hx hb dL_law_691 (lv_at hl 1 rfl) ?_
                              refine lv_if_lt (tgt := 736) hx hb dL_law_693 (by decide) (fun c_117 => ?_) (fun c_117 => ?_)
                              · replace c_117 := (nI_ltI (a := r9) (b := 0) (by omega) (by omega)).mp c_117
                                exact hcut736 H locs _ e_684 hd0 ⟨x_114, gg_114, hP, hD, hS, lv_sub hl [2, 3, 4, 5, 6, 7, 8, 9, 10] rfl⟩
                              · replace c_117 : ¬ (r9 < 0) := fun h9 => c_117 ((nI_ltI (a := r9) (b := 0) (by omega) (by omega)).mpr h9)
                                refine lv_aload_n hx hb dL_law_696 rfl (lv_at hl 7 rfl) ?_
                                refine lv_iload hx hb dL_law_697 (lv_at hl 3 rfl) ?_
                                refine lv_iload hx hb dL_law_699 (lv_at hl 0 rfl) ?_
                                refine lv_iconst (v := 0) hx hb dL_law_701 (by decide) ?_
                                refine kn_i (va_runV (As := [.int (nI k), .int (nI i2), .int 0]) (rest := []) ⟨hx, hb, hml, hown, htT⟩ (c_toldX l D cA _ x_114 x gg_114.c.hx ar gg_114.c.q0 ak gg_114.c.q1 gg_114.c.kk gg_114.c.R k q8_k a_k ja_k (nI k) sw_k (nI i2) (gg_114.vko hk ja_k evc (v := i2) (by omega) hvc4) 0 (by decide)) (cwV 3 htT (kg_V m_ml_L_70 m_im_X5_told m_sl_X5_told m_in_X5 m_cd_X5_told) rfl rfl rfl (by decide +kernel) ⟨Nat.le_of_ble_eq_true rfl, Nat.le_of_ble_eq_true rfl⟩) (kn_V hK hP hD hTB gg_114.c.hx (Nat.le_of_ble_eq_true rfl) rfl) rfl rfl hl.1 rfl (lv_room (Nat.le_of_ble_eq_true rfl)) dL_law_702 ⟨(by show _ ≤ 600086; omega), (by show _ ≤ 7301442; omega)⟩) hP hD hS hA (fun r_118 x_118 H locs hq_118 hP hD hS => ?_)
                                rw [hq_118.2] at hP hD
                                rw [hq_118.1.trans (gg_114.told0 hk ja_k (v := i2) (by omega))]
                                have hnt_118 := nT_le M.2 (nI k) (nI i2) na
                                refine lv_if_le (tgt := 730) hx hb dL_law_705 (by decide) (fun c_119 => ?_) (fun c_119 => ?_)
                                · replace c_119 := (nI_leI (a := nT M.2 (nI k) (nI i2) na) (b := 0) (by omega) (by omega)).mp c_119
                                  refine lv_iinc (v := nI (i2 + 1)) (lv' := [(12, .int (nI (i2 + 1))), (11, .int (nI r9)), (9, .int (nI (vcT M k))), (8, .int (nI k)), (7, .int (nI (aa + sumN (fun v => nT M.2 (nI k) (nI v) na) (vcT M k)))), (5, .long bq), (4, .int (nI sp)), (3, .ref x), (2, .ref d), (1, .int (nI ti)), (0, .ref b)]) hx hb dL_law_730 hl (k := 0) rfl (nI_1 _) (by decide) rfl (fun ls hl => ?_)
                                  refine lv_goto (tgt := 684) hx hb dL_law_733 (by decide) ?_
                                  have hl := lv_sub hl [0, 1, 2, 3, 4, 5, 6, 7, 8, 9, 10] rfl
                                  exact ih_684 _ (by omega) H locs ls e_684 hd0 ⟨i2 + 1, rfl, (by omega), hP, hD, hS, hl⟩
                                · replace c_119 : ¬ (nT M.2 (nI k) (nI i2) na ≤ 0) := fun h9 => c_119 ((nI_leI (a := nT M.2 (nI k) (nI i2) na) (b := 0) (by omega) (by omega)).mpr h9)
                                  refine lv_aload_n hx hb dL_law_708 rfl (lv_at hl 7 rfl) ?_
                                  refine lv_iload hx hb dL_law_709 (lv_at hl 3 rfl) ?_
                                  refine lv_iload hx hb dL_law_711 (lv_at hl 0 rfl) ?_
                                  refine kjD_d hd0 List.perm_append_comm (va_runV_D (As := [.int (nI k), .int (nI i2)]) (rest := []) ⟨hx, hb, hml, hown, htT⟩ (c_meanX l D cA _ x_114 x gg_114.c.hx ar gg_114.c.q0 ak gg_114.c.q1 gg_114.c.kk gg_114.c.R k q8_k a_k ja_k (nI k) sw_k (nI i2) (gg_114.vko hk ja_k evc (v := i2) (by omega) hvc4)) (cwV 2 htT (kg_V m_ml_L_73 m_im_X5_mean m_sl_X5_mean m_in_X5 m_cd_X5_mean) rfl rfl rfl (by decide +kernel) ⟨Nat.le_of_ble_eq_true rfl, Nat.le_of_ble_eq_true rfl⟩) (kn_V hK hP hD hTB gg_114.c.hx (Nat.le_of_ble_eq_true rfl) rfl) rfl rfl hl.1 rfl (lv_room (Nat.le_of_ble_eq_true rfl)) dL_law_713 ⟨(by show _ ≤ 600086; omega), (by show _ ≤ 7301442; omega)⟩) hP hD hS hA (fun r_120 x_120 H locs hq_120 hP hD hS d_120 hd0 => ?_)
                                  replace hP := kj_P List.perm_append_comm hP
                                  replace hD := kj_D List.perm_append_comm hD
                                  have htT : ∀ w ∈ TT, w.before _ (s.setDrawn d_120) = true := dr_words htT0 d_120
                                  have hTB : TBok (s.setDrawn d_120) := TBok.same (u := s) (U := s.setDrawn d_120) rfl (Vm.Alike.refl s.vm) hTB0
                                  have hK : va_K D vwCl (ty6 cA) (s.setDrawn d_120) := hK0
                                  have hown : (s.setDrawn d_120).vm.findClass RL = some m.cls := hown0
                                  have hTX : TXok A (s.setDrawn d_120) := hTX0.dr d_120
                                  have hX : va_X b L xs (s.setDrawn d_120) (s.setDrawn d_120).heap := hX0
                                  have hAO : va_AOA .int (s.setDrawn d_120) ∧ va_AOA (.array .int) (s.setDrawn d_120) := ⟨va_AOA.moved (u := s) (U := s.setDrawn d_120) (Vm.Alike.refl s.vm) hAO0.1, va_AOA.moved (u := s) (U := s.setDrawn d_120) (Vm.Alike.refl s.vm) hAO0.2⟩
                                  rw [hq_120.2] at hP hD
                                  have hm_120 : r_120 = kMn M na k i2 := gg_114.mean hk ja_k (v := i2) (by omega) hq_120.1
                                  subst hm_120
                                  refine lv_aload_n hx hb dL_law_716 rfl (lv_at hl 7 rfl) ?_
                                  refine lv_iload hx hb dL_law_717 (lv_at hl 3 rfl) ?_
                                  refine lv_iload hx hb dL_law_719 (lv_at hl 1 rfl) ?_
                                  refine kjD_d hd0 List.perm_append_comm (va_runV_D (As := [.int (nI k), .int (nI r9)]) (rest := [.double (kMn M na k i2)]) ⟨hx, hb, hml, hown, htT⟩ (c_meanX l D cA _ x_114 x gg_114.c.hx ar gg_114.c.q0 ak gg_114.c.q1 gg_114.c.kk gg_114.c.R k q8_k a_k ja_k (nI k) sw_k (nI r9) (gg_114.vko hk ja_k evc (v := r9) (by omega) hvc4)) (cwV 2 htT (kg_V m_ml_L_73 m_im_X5_mean m_sl_X5_mean m_in_X5 m_cd_X5_mean) rfl rfl rfl (by decide +kernel) ⟨Nat.le_of_ble_eq_true rfl, Nat.le_of_ble_eq_true rfl⟩) (kn_V hK hP hD hTB gg_114.c.hx (Nat.le_of_ble_eq_true rfl) rfl) rfl rfl hl.1 rfl (lv_room (Nat.le_of_ble_eq_true rfl)) dL_law_721 ⟨(by show _ ≤ 600086; omega), (by show _ ≤ 7301442; omega)⟩) hP hD hS hA (fun r_121 x_121 H locs hq_121 hP hD hS d_121 hd0 => ?_)
                                  replace hP := kj_P List.perm_append_comm hP
                                  replace hD := kj_D List.perm_append_comm hD
                                  have htT : ∀ w ∈ TT, w.before _ (s.setDrawn d_121) = true := dr_words htT0 d_121
                                  have hTB : TBok (s.setDrawn d_121) := TBok.same (u := s) (U := s.setDrawn d_121) rfl (Vm.Alike.refl s.vm) hTB0
                                  have hK : va_K D vwCl (ty6 cA) (s.setDrawn d_121) := hK0
                                  have hown : (s.setDrawn d_121).vm.findClass RL = some m.cls := hown0
                                  have hTX : TXok A (s.setDrawn d_121) := hTX0.dr d_121
                                  have hX : va_X b L xs (s.setDrawn d_121) (s.setDrawn d_121).heap := hX0
                                  have hAO : va_AOA .int (s.setDrawn d_121) ∧ va_AOA (.array .int) (s.setDrawn d_121) := ⟨va_AOA.moved (u := s) (U := s.setDrawn d_121) (Vm.Alike.refl s.vm) hAO0.1, va_AOA.moved (u := s) (U := s.setDrawn d_121) (Vm.Alike.refl s.vm) hAO0.2⟩
                                  rw [hq_121.2] at hP hD
                                  have hm_121 : r_121 = kMn M na k r9 := gg_114.mean hk ja_k (v := r9) (by omega) hq_121.1
                                  subst hm_121
                                  refine lv_dcmp hx hb dL_law_724 ?_
                                  refine lv_if_le (tgt := 730) hx hb dL_law_725 (by decide) (fun c_123 => ?_) (fun c_123 => ?_)
                                  · refine lv_iinc (v := nI (i2 + 1)) (lv' := [(12, .int (nI (i2 + 1))), (11, .int (nI r9)), (9, .int (nI (vcT M k))), (8, .int (nI k)), (7, .int (nI (aa + sumN (fun v => nT M.2 (nI k) (nI v) na) (vcT M k)))), (5, .long bq), (4, .int (nI sp)), (3, .ref x), (2, .ref d), (1, .int (nI ti)), (0, .ref b)]) hx hb dL_law_730 hl (k := 0) rfl (nI_1 _) (by decide) rfl (fun ls hl => ?_)
                                    refine lv_goto (tgt := 684) hx hb dL_law_733 (by decide) ?_
                                    have hl := lv_sub hl [0, 1, 2, 3, 4, 5, 6, 7, 8, 9, 10] rfl
                                    exact ih_684 _ (by omega) H locs ls d_121 hd0 ⟨i2 + 1, rfl, (by omega), hP, hD, hS, hl⟩
                                  · exact absurd (Int32.not_le.mp c_123) (cm_le (best_cmp (hmax i2 (by omega) (by omega))))
                          · replace c_111 := (nI_eq (a := (((nT M.2 (nI k) (nI 0) na) + (nT M.2 (nI k) (nI 1) na)) + (nT M.2 (nI k) (nI 2) na)) + (nT M.2 (nI k) (nI 3) na)) (b := 0) (by omega) (by omega)).mp c_111
                            refine lv_iconst (v := 1) hx hb dL_law_654 (by decide) ?_
                            refine lv_goto (tgt := 659) hx hb dL_law_655 (by decide) ?_
                            refine lv_icmp_ne (tgt := 679) hx hb dL_law_659 (by decide) (fun _ => ?_) (fun c_124 => absurd c_124 (by decide))
                            exfalso; omega
                    · replace c_60 : ¬ (0 ≤ r9) := fun h9 => c_60 ((nI_leI (a := 0) (b := r9) (by omega) (by omega)).mpr h9)
                      refine lv_iconst (v := 1) hx hb dL_law_591 (by decide) ?_
                      refine lv_goto (tgt := 596) hx hb dL_law_592 (by decide) ?_
                      refine lv_aload_n hx hb dL_law_596 rfl (lv_at hl 7 rfl) ?_
                      refine lv_iload hx hb dL_law_597 (lv_at hl 3 rfl) ?_
                      refine lv_iconst (v := 0) hx hb dL_law_599 (by decide) ?_
                      refine lv_iconst (v := 0) hx hb dL_law_600 (by decide) ?_
                      refine kn_i (va_runV (As := [.int (nI k), .int 0, .int 0]) (rest := [.int 1]) ⟨hx, hb, hml, hown, htT⟩ (c_toldX l D cA _ Y2 x ggv.c.hx ar ggv.c.q0 ak ggv.c.q1 ggv.c.kk ggv.c.R k q8_k a_k ja_k (nI k) sw_k (nI 0) (ggv.vko hk ja_k evc (v := 0) (by omega) hvc4) 0 (by decide)) (cwV 3 htT (kg_V m_ml_L_70 m_im_X5_told m_sl_X5_told m_in_X5 m_cd_X5_told) rfl rfl rfl (by decide +kernel) ⟨Nat.le_of_ble_eq_true rfl, Nat.le_of_ble_eq_true rfl⟩) (kn_V hK hP hD hTB ggv.c.hx (Nat.le_of_ble_eq_true rfl) rfl) rfl rfl hl.1 rfl (lv_room (Nat.le_of_ble_eq_true rfl)) dL_law_601 ⟨(by show _ ≤ 600086; omega), (by show _ ≤ 7301442; omega)⟩) hP hD hS hA (fun r_125 x_125 H locs hq_125 hP hD hS => ?_)
                      rw [hq_125.2] at hP hD
                      rw [hq_125.1.trans (ggv.told0 hk ja_k (v := 0) (by omega))]
                      have hnt_125 := nT_le M.2 (nI k) (nI 0) na
                      refine lv_aload_n hx hb dL_law_604 rfl (lv_at hl 7 rfl) ?_
                      refine lv_iload hx hb dL_law_605 (lv_at hl 3 rfl) ?_
                      refine lv_iconst (v := 1) hx hb dL_law_607 (by decide) ?_
                      refine lv_iconst (v := 0) hx hb dL_law_608 (by decide) ?_
                      refine kn_i (va_runV (As := [.int (nI k), .int 1, .int 0]) (rest := [.int (nI (nT M.2 (nI k) (nI 0) na)), .int 1]) ⟨hx, hb, hml, hown, htT⟩ (c_toldX l D cA _ Y2 x ggv.c.hx ar ggv.c.q0 ak ggv.c.q1 ggv.c.kk ggv.c.R k q8_k a_k ja_k (nI k) sw_k (nI 1) (ggv.vko hk ja_k evc (v := 1) (by omega) hvc4) 0 (by decide)) (cwV 3 htT (kg_V m_ml_L_70 m_im_X5_told m_sl_X5_told m_in_X5 m_cd_X5_told) rfl rfl rfl (by decide +kernel) ⟨Nat.le_of_ble_eq_true rfl, Nat.le_of_ble_eq_true rfl⟩) (kn_V hK hP hD hTB ggv.c.hx (Nat.le_of_ble_eq_true rfl) rfl) rfl rfl hl.1 rfl (lv_room (Nat.le_of_ble_eq_true rfl)) dL_law_609 ⟨(by show _ ≤ 600086; omega), (by show _ ≤ 7301442; omega)⟩) hP hD hS hA (fun r_126 x_126 H locs hq_126 hP hD hS => ?_)
                      rw [hq_126.2] at hP hD
                      rw [hq_126.1.trans (ggv.told0 hk ja_k (v := 1) (by omega))]
                      have hnt_126 := nT_le M.2 (nI k) (nI 1) na
                      refine lv_iadd hx hb dL_law_612 ?_
                      rw [show ((nI (nT M.2 (nI k) (nI 0) na)) + (nI (nT M.2 (nI k) (nI 1) na)) : Int32) = nI ((nT M.2 (nI k) (nI 0) na) + (nT M.2 (nI k) (nI 1) na)) from nI_add (nT M.2 (nI k) (nI 0) na) (nT M.2 (nI k) (nI 1) na)]
                      refine lv_iload hx hb dL_law_613 (lv_at hl 2 rfl) ?_
                      refine lv_iconst (v := 2) hx hb dL_law_615 (by decide) ?_
                      refine lv_icmp_le (tgt := 630) hx hb dL_law_616 (by decide) (fun c_127 => ?_) (fun c_127 => ?_)
                      · replace c_127 := (nI_leI (a := vcT M k) (b := 2) (by omega) (by omega)).mp c_127
                        refine lv_iconst (v := 0) hx hb dL_law_630 (by decide) ?_
                        refine lv_iadd hx hb dL_law_631 ?_
                        rw [show ((nI ((nT M.2 (nI k) (nI 0) na) + (nT M.2 (nI k) (nI 1) na))) + 0 : Int32) = nI (((nT M.2 (nI k) (nI 0) na) + (nT M.2 (nI k) (nI 1) na)) + 0) from nI_add ((nT M.2 (nI k) (nI 0) na) + (nT M.2 (nI k) (nI 1) na)) 0]
                        refine lv_iload hx hb dL_law_632 (lv_at hl 2 rfl) ?_
                        refine lv_iconst (v := 3) hx hb dL_law_634 (by decide) ?_
                        refine lv_icmp_le (tgt := 649) hx hb dL_law_635 (by decide) (fun c_128 => ?_) (fun c_128 => ?_)
                        · replace c_128 := (nI_leI (a := vcT M k) (b := 3) (by omega) (by omega)).mp c_128
                          refine lv_iconst (v := 0) hx hb dL_law_649 (by decide) ?_
                          refine lv_iadd hx hb dL_law_650 ?_
                          rw [show ((nI (((nT M.2 (nI k) (nI 0) na) + (nT M.2 (nI k) (nI 1) na)) + 0)) + 0 : Int32) = nI ((((nT M.2 (nI k) (nI 0) na) + (nT M.2 (nI k) (nI 1) na)) + 0) + 0) from nI_add (((nT M.2 (nI k) (nI 0) na) + (nT M.2 (nI k) (nI 1) na)) + 0) 0]
                          have hsp : 0 < (((nT M.2 (nI k) (nI 0) na) + (nT M.2 (nI k) (nI 1) na)) + 0) + 0 := by rcases (show r9 = 0 ∨ r9 = 1 ∨ r9 = 2 ∨ r9 = 3 by omega) with rfl | rfl | rfl | rfl <;> omega
                          refine lv_if_ne (tgt := 658) hx hb dL_law_651 (by decide) (fun c_129 => ?_) (fun c_129 => ?_)
                          · replace c_129 : ¬ ((((nT M.2 (nI k) (nI 0) na) + (nT M.2 (nI k) (nI 1) na)) + 0) + 0 = 0) := fun h9 => c_129 ((nI_eq (a := (((nT M.2 (nI k) (nI 0) na) + (nT M.2 (nI k) (nI 1) na)) + 0) + 0) (b := 0) (by omega) (by omega)).mpr h9)
                            refine lv_iconst (v := 0) hx hb dL_law_658 (by decide) ?_
                            refine lv_icmp_ne (tgt := 679) hx hb dL_law_659 (by decide) (fun _ => ?_) (fun c_130 => absurd c_130 (by decide))
                            exfalso; omega
                          · replace c_129 := (nI_eq (a := (((nT M.2 (nI k) (nI 0) na) + (nT M.2 (nI k) (nI 1) na)) + 0) + 0) (b := 0) (by omega) (by omega)).mp c_129
                            refine lv_iconst (v := 1) hx hb dL_law_654 (by decide) ?_
                            refine lv_goto (tgt := 659) hx hb dL_law_655 (by decide) ?_
                            refine lv_icmp_ne (tgt := 679) hx hb dL_law_659 (by decide) (fun c_131 => absurd c_131 (by decide)) (fun _ => ?_)
                            refine lv_aload_n hx hb dL_law_662 rfl (lv_at hl 7 rfl) ?_
                            refine lv_iload hx hb dL_law_663 (lv_at hl 3 rfl) ?_
                            refine lv_aload_n hx hb dL_law_665 rfl (lv_at hl 7 rfl) ?_
                            refine lv_iload hx hb dL_law_666 (lv_at hl 3 rfl) ?_
                            refine kn_i (va_runV (As := [.int (nI k)]) (rest := [.int (nI k), .ref x]) ⟨hx, hb, hml, hown, htT⟩ (c_share l D cA _ Y2 x ggv.c.hx ar ggv.c.q0 ak ggv.c.q1 ggv.c.kk ggv.c.R k q8_k a_k ja_k (nI k) sw_k) (cwV 1 htT (kg_V m_ml_L_86 m_im_X5_share m_sl_X5_share m_in_X5 m_cd_X5_share) rfl rfl rfl (by decide +kernel) ⟨Nat.le_of_ble_eq_true rfl, Nat.le_of_ble_eq_true rfl⟩) (kn_V hK hP hD hTB ggv.c.hx (Nat.le_of_ble_eq_true rfl) rfl) rfl rfl hl.1 rfl (lv_room (Nat.le_of_ble_eq_true rfl)) dL_law_668 ⟨(by show _ ≤ 600086; omega), (by show _ ≤ 7301442; omega)⟩) hP hD hS hA (fun r_132 x_132 H locs hq_132 hP hD hS => ?_)
                            rw [hq_132.2] at hP hD
                            rw [hq_132.1.trans ((ggv.far hk ja_k).trans es0)]
                            refine lv_bipush (v := 20) hx hb dL_law_671 (by decide) ?_
                            refine kn_i (va_runV (As := [.int (nI k), .int (nI s0), .int 20]) (rest := []) ⟨hx, hb, hml, hown, htT⟩ (c_wouldChangeX l D cA _ Y2 x ggv.c.hx ar ggv.c.q0 ak ggv.c.q1 ggv.c.kk ggv.c.R k q8_k a_k ja_k (nI k) sw_k (nI s0) (kOut_n (a := s0) (lo := 0) (hi := 1000) (by omega) (by omega) (by omega)) 20 (by decide) (by decide) (by decide) (fun u => (rBy M na ru k u).1) (by_eq ggv.l ggv.c hok ggv.y rfl rfl hk ja_k) (rNw M na ru k (nI s0)) (wc_eq ggv.l ggv.c hok ggv.y rfl rfl hk ja_k)) (cwV 3 htT (kg_V m_ml_L_95 m_im_X5_wouldChange m_sl_X5_wouldChange m_in_X5 m_cd_X5_wouldChange) rfl rfl rfl (by decide +kernel) ⟨Nat.le_of_ble_eq_true rfl, Nat.le_of_ble_eq_true rfl⟩) (kn_V hK hP hD hTB ggv.c.hx (Nat.le_of_ble_eq_true rfl) rfl) rfl rfl hl.1 rfl (lv_room (Nat.le_of_ble_eq_true rfl)) dL_law_673 ⟨(by show _ ≤ 600086; omega), (by show _ ≤ 7301442; omega)⟩) hP hD hS hA (fun r_133 x_133 H locs hq_133 hP hD hS => ?_)
                            have gg_133 : GG n na x_133 M x ar ak := ggv.eA hq_133.2
                            obtain ⟨a_k, ja_k⟩ := gg_133.c.row k (by omega)
                            have sw_k := gg_133.sw2 (by omega) ja_k
                            rw [hq_133.1.trans (would_0 es0)]
                            refine lv_if_eq (tgt := 681) hx hb dL_law_676 (by decide) (fun _ => ?_) (fun c_134 => absurd c_134 (by decide))
                            refine lv_iconst (v := 0) hx hb dL_law_681 (by decide) ?_
                            refine lv_istore (lv' := [(12, .int 0), (11, .int (nI r9)), (10, .int 20), (9, .int (nI (vcT M k))), (8, .int (nI k)), (7, .int (nI (aa + sumN (fun v => nT M.2 (nI k) (nI v) na) (vcT M k)))), (5, .long bq), (4, .int (nI sp)), (3, .ref x), (2, .ref d), (1, .int (nI ti)), (0, .ref b)]) hx hb dL_law_682 hl (by decide) rfl (fun ls hl => ?_)
                            refine kz_loopD 684 (fun N9 H locs ls => ∃ (i2 : Nat), N9 = (vcT M k) - i2 ∧ i2 ≤ (vcT M k) ∧ va_P D vwCl (PW cA U ++ PW cA x_133) H ∧ va_D A (PW cA U ++ PW cA x_133) ∧ va_S A s.heap H locs ∧ lv_has ls 16 [(12, .int (nI i2)), (11, .int (nI r9)), (9, .int (nI (vcT M k))), (8, .int (nI k)), (7, .int (nI (aa + sumN (fun v => nT M.2 (nI k) (nI v) na) (vcT M k)))), (5, .long bq), (4, .int (nI sp)), (3, .ref x), (2, .ref d), (1, .int (nI ti)), (0, .ref b)]) (fun N9 ih_684 H locs ls e_684 hd0 hI => ?_) hd0 ⟨0, rfl, Nat.zero_le _, hP, hD, hS, lv_sub hl [0, 1, 3, 4, 5, 6, 7, 8, 9, 10, 11] rfl⟩
                            obtain ⟨i2, hn9, hi29, hP, hD, hS, hl⟩ := hI
                            have htT : ∀ w ∈ TT, w.before _ (s.setDrawn e_684) = true := dr_words htT0 e_684
                            have hTB : TBok (s.setDrawn e_684) := TBok.same (u := s) (U := s.setDrawn e_684) rfl (Vm.Alike.refl s.vm) hTB0
                            have hK : va_K D vwCl (ty6 cA) (s.setDrawn e_684) := hK0
                            have hown : (s.setDrawn e_684).vm.findClass RL = some m.cls := hown0
                            have hTX : TXok A (s.setDrawn e_684) := hTX0.dr e_684
                            have hX : va_X b L xs (s.setDrawn e_684) (s.setDrawn e_684).heap := hX0
                            have hAO : va_AOA .int (s.setDrawn e_684) ∧ va_AOA (.array .int) (s.setDrawn e_684) := ⟨va_AOA.moved (u := s) (U := s.setDrawn e_684) (Vm.Alike.refl s.vm) hAO0.1, va_AOA.moved (u := s) (U := s.setDrawn e_684) (Vm.Alike.refl s.vm) hAO0.2⟩
                            refine lv_iload hx hb dL_law_684 (lv_at hl 0 rfl) ?_
                            refine lv_iload hx hb dL_law_686 (lv_at hl 2 rfl) ?_
                            refine lv_icmp_ge (tgt := 736) hx hb dL_law_688 (by decide) (fun c_135 => ?_) (fun c_135 => ?_)
                            · replace c_135 := (nI_leI (a := vcT M k) (b := i2) (by omega) (by omega)).mp c_135
                              exact hcut736 H locs _ e_684 hd0 ⟨x_133, gg_133, hP, hD, hS, lv_sub hl [2, 3, 4, 5, 6, 7, 8, 9, 10] rfl⟩
                            · replace c_135 : ¬ (vcT M k ≤ i2) := fun h9 => c_135 ((nI_leI (a := vcT M k) (b := i2) (by omega) (by omega)).mpr h9)
                              refine lv_iload hx hb dL_law_691 (lv_at hl 1 rfl) ?_
                              refine lv_if_lt (tgt := 736) hx hb dL_law_693 (by decide) (fun c_136 => ?_) (fun c_136 => ?_)
                              · replace c_136 := (nI_ltI (a := r9) (b := 0) (by omega) (by omega)).mp c_136
                                exact hcut736 H locs _ e_684 hd0 ⟨x_133, gg_133, hP, hD, hS, lv_sub hl [2, 3, 4, 5, 6, 7, 8, 9, 10] rfl⟩
                              · replace c_136 : ¬ (r9 < 0) := fun h9 => c_136 ((nI_ltI (a := r9) (b := 0) (by omega) (by omega)).mpr h9)
                                refine lv_aload_n hx hb dL_law_696 rfl (lv_at hl 7 rfl) ?_
                                refine lv_iload hx hb dL_law_697 (lv_at hl 3 rfl) ?_
                                refine lv_iload hx hb dL_law_699 (lv_at hl 0 rfl) ?_
                                refine lv_iconst (v := 0) hx hb dL_law_701 (by decide) ?_
                                refine kn_i (va_runV (As := [.int (nI k), .int (nI i2), .int 0]) (rest := []) ⟨hx, hb, hml, hown, htT⟩ (c_toldX l D cA _ x_133 x gg_133.c.hx ar gg_133.c.q0 ak gg_133.c.q1 gg_133.c.kk gg_133.c.R k q8_k a_k ja_k (nI k) sw_k (nI i2) (gg_133.vko hk ja_k evc (v := i2) (by omega) hvc4) 0 (by decide)) (cwV 3 htT (kg_V m_ml_L_70 m_im_X5_told m_sl_X5_told m_in_X5 m_cd_X5_told) rfl rfl rfl (by decide +kernel) ⟨Nat.le_of_ble_eq_true rfl, Nat.le_of_ble_eq_true rfl⟩) (kn_V hK hP hD hTB gg_133.c.hx (Nat.le_of_ble_eq_true rfl) rfl) rfl rfl hl.1 rfl (lv_room (Nat.le_of_ble_eq_true rfl)) dL_law_702 ⟨(by show _ ≤ 600086; omega), (by show _ ≤ 7301442; omega)⟩) hP hD hS hA (fun r_137 x_137 H locs hq_137 hP hD hS => ?_)
                                rw [hq_137.2] at hP hD
                                rw [hq_137.1.trans (gg_133.told0 hk ja_k (v := i2) (by omega))]
                                have hnt_137 := nT_le M.2 (nI k) (nI i2) na
                                refine lv_if_le (tgt := 730) hx hb dL_law_705 (by decide) (fun c_138 => ?_) (fun c_138 => ?_)
                                · replace c_138 := (nI_leI (a := nT M.2 (nI k) (nI i2) na) (b := 0) (by omega) (by omega)).mp c_138
                                  refine lv_iinc (v := nI (i2 + 1)) (lv' := [(12, .int (nI (i2 + 1))), (11, .int (nI r9)), (9, .int (nI (vcT M k))), (8, .int (nI k)), (7, .int (nI (aa + sumN (fun v => nT M.2 (nI k) (nI v) na) (vcT M k)))), (5, .long bq), (4, .int (nI sp)), (3, .ref x), (2, .ref d), (1, .int (nI ti)), (0, .ref b)]) hx hb dL_law_730 hl (k := 0) rfl (nI_1 _) (by decide) rfl (fun ls hl => ?_)
                                  refine lv_goto (tgt := 684) hx hb dL_law_733 (by decide) ?_
                                  have hl := lv_sub hl [0, 1, 2, 3, 4, 5, 6, 7, 8, 9, 10] rfl
                                  exact ih_684 _ (by omega) H locs ls e_684 hd0 ⟨i2 + 1, rfl, (by omega), hP, hD, hS, hl⟩
                                · replace c_138 : ¬ (nT M.2 (nI k) (nI i2) na ≤ 0) := fun h9 => c_138 ((nI_leI (a := nT M.2 (nI k) (nI i2) na) (b := 0) (by omega) (by omega)).mpr h9)
                                  refine lv_aload_n hx hb dL_law_708 rfl (lv_at hl 7 rfl) ?_
                                  refine lv_iload hx hb dL_law_709 (lv_at hl 3 rfl) ?_
                                  refine lv_iload hx hb dL_law_711 (lv_at hl 0 rfl) ?_
                                  refine kjD_d hd0 List.perm_append_comm (va_runV_D (As := [.int (nI k), .int (nI i2)]) (rest := []) ⟨hx, hb, hml, hown, htT⟩ (c_meanX l D cA _ x_133 x gg_133.c.hx ar gg_133.c.q0 ak gg_133.c.q1 gg_133.c.kk gg_133.c.R k q8_k a_k ja_k (nI k) sw_k (nI i2) (gg_133.vko hk ja_k evc (v := i2) (by omega) hvc4)) (cwV 2 htT (kg_V m_ml_L_73 m_im_X5_mean m_sl_X5_mean m_in_X5 m_cd_X5_mean) rfl rfl rfl (by decide +kernel) ⟨Nat.le_of_ble_eq_true rfl, Nat.le_of_ble_eq_true rfl⟩) (kn_V hK hP hD hTB gg_133.c.hx (Nat.le_of_ble_eq_true rfl) rfl) rfl rfl hl.1 rfl (lv_room (Nat.le_of_ble_eq_true rfl)) dL_law_713 ⟨(by show _ ≤ 600086; omega), (by show _ ≤ 7301442; omega)⟩) hP hD hS hA (fun r_139 x_139 H locs hq_139 hP hD hS d_139 hd0 => ?_)
                                  replace hP := kj_P List.perm_append_comm hP
                                  replace hD := kj_D List.perm_append_comm hD
                                  have htT : ∀ w ∈ TT, w.before _ (s.setDrawn d_139) = true := dr_words htT0 d_139
                                  have hTB : TBok (s.setDrawn d_139) := TBok.same (u := s) (U := s.setDrawn d_139) rfl (Vm.Alike.refl s.vm) hTB0
                                  have hK : va_K D vwCl (ty6 cA) (s.setDrawn d_139) := hK0
                                  have hown : (s.setDrawn d_139).vm.findClass RL = some m.cls := hown0
                                  have hTX : TXok A (s.setDrawn d_139) := hTX0.dr d_139
                                  have hX : va_X b L xs (s.setDrawn d_139) (s.setDrawn d_139).heap := hX0
                                  have hAO : va_AOA .int (s.setDrawn d_139) ∧ va_AOA (.array .int) (s.setDrawn d_139) := ⟨va_AOA.moved (u := s) (U := s.setDrawn d_139) (Vm.Alike.refl s.vm) hAO0.1, va_AOA.moved (u := s) (U := s.setDrawn d_139) (Vm.Alike.refl s.vm) hAO0.2⟩
                                  rw [hq_139.2] at hP hD
                                  have hm_139 : r_139 = kMn M na k i2 := gg_133.mean hk ja_k (v := i2) (by omega) hq_139.1
                                  subst hm_139
                                  refine lv_aload_n hx hb dL_law_716 rfl (lv_at hl 7 rfl) ?_
                                  refine lv_iload hx hb dL_law_717 (lv_at hl 3 rfl) ?_
                                  refine lv_iload hx hb dL_law_719 (lv_at hl 1 rfl) ?_
                                  refine kjD_d hd0 List.perm_append_comm (va_runV_D (As := [.int (nI k), .int (nI r9)]) (rest := [.double (kMn M na k i2)]) ⟨hx, hb, hml, hown, htT⟩ (c_meanX l D cA _ x_133 x gg_133.c.hx ar gg_133.c.q0 ak gg_133.c.q1 gg_133.c.kk gg_133.c.R k q8_k a_k ja_k (nI k) sw_k (nI r9) (gg_133.vko hk ja_k evc (v := r9) (by omega) hvc4)) (cwV 2 htT (kg_V m_ml_L_73 m_im_X5_mean m_sl_X5_mean m_in_X5 m_cd_X5_mean) rfl rfl rfl (by decide +kernel) ⟨Nat.le_of_ble_eq_true rfl, Nat.le_of_ble_eq_true rfl⟩) (kn_V hK hP hD hTB gg_133.c.hx (Nat.le_of_ble_eq_true rfl) rfl) rfl rfl hl.1 rfl (lv_room (Nat.le_of_ble_eq_true rfl)) dL_law_721 ⟨(by show _ ≤ 600086; omega), (by show _ ≤ 7301442; omega)⟩) hP hD hS hA (fun r_140 x_140 H locs hq_140 hP hD hS d_140 hd0 => ?_)
                                  replace hP := kj_P List.perm_append_comm hP
                                  replace hD := kj_D List.perm_append_comm hD
                                  have htT : ∀ w ∈ TT, w.before _ (s.setDrawn d_140) = true := dr_words htT0 d_140
                                  have hTB : TBok (s.setDrawn d_140) := TBok.same (u := s) (U := s.setDrawn d_140) rfl (Vm.Alike.refl s.vm) hTB0
                                  have hK : va_K D vwCl (ty6 cA) (s.setDrawn d_140) := hK0
                                  have hown : (s.setDrawn d_140).vm.findClass RL = some m.cls := hown0
                                  have hTX : TXok A (s.setDrawn d_140) := hTX0.dr d_140
                                  have hX : va_X b L xs (s.setDrawn d_140) (s.setDrawn d_140).heap := hX0
                                  have hAO : va_AOA .int (s.setDrawn d_140) ∧ va_AOA (.array .int) (s.setDrawn d_140) := ⟨va_AOA.moved (u := s) (U := s.setDrawn d_140) (Vm.Alike.refl s.vm) hAO0.1, va_AOA.moved (u := s) (U := s.setDrawn d_140) (Vm.Alike.refl s.vm) hAO0.2⟩
                                  rw [hq_140.2] at hP hD
                                  have hm_140 : r_140 = kMn M na k r9 := gg_133.mean hk ja_k (v := r9) (by omega) hq_140.1
                                  subst hm_140
                                  refine lv_dcmp hx hb dL_law_724 ?_
                                  refine lv_if_le (tgt := 730) hx hb dL_law_725 (by decide) (fun c_142 => ?_) (fun c_142 => ?_)
                                  · refine lv_iinc (v := nI (i2 + 1)) (lv' := [(12, .int (nI (i2 + 1))), (11, .int (nI r9)), (9, .int (nI (vcT M k))), (8, .int (nI k)), (7, .int (nI (aa + sumN (fun v => nT M.2 (nI k) (nI v) na) (vcT M k)))), (5, .long bq), (4, .int (nI sp)), (3, .ref x), (2, .ref d), (1, .int (nI ti)), (0, .ref b)]) hx hb dL_law_730 hl (k := 0) rfl (nI_1 _) (by decide) rfl (fun ls hl => ?_)
                                    refine lv_goto (tgt := 684) hx hb dL_law_733 (by decide) ?_
                                    have hl := lv_sub hl [0, 1, 2, 3, 4, 5, 6, 7, 8, 9, 10] rfl
                                    exact ih_684 _ (by omega) H locs ls d_140 hd0 ⟨i2 + 1, rfl, (by omega), hP, hD, hS, hl⟩
                                  · exact absurd (Int32.not_le.mp c_142) (cm_le (best_cmp (hmax i2 (by omega) (by omega))))
                        · replace c_128 : ¬ (vcT M k ≤ 3) := fun h9 => c_128 ((nI_leI (a := vcT M k) (b := 3) (by omega) (by omega)).mpr h9)
                          refine lv_aload_n hx hb dL_law_638 rfl (lv_at hl 7 rfl) ?_
                          refine lv_iload hx hb dL_law_639 (lv_at hl 3 rfl) ?_
                          refine lv_iconst (v := 3) hx hb dL_law_641 (by decide) ?_
                          refine lv_iconst (v := 0) hx hb dL_law_642 (by decide) ?_
                          refine kn_i (va_runV (As := [.int (nI k), .int 3, .int 0]) (rest := [.int (nI (((nT M.2 (nI k) (nI 0) na) + (nT M.2 (nI k) (nI 1) na)) + 0)), .int 1]) ⟨hx, hb, hml, hown, htT⟩ (c_toldX l D cA _ Y2 x ggv.c.hx ar ggv.c.q0 ak ggv.c.q1 ggv.c.kk ggv.c.R k q8_k a_k ja_k (nI k) sw_k (nI 3) (ggv.vko hk ja_k evc (v := 3) (by omega) hvc4) 0 (by decide)) (cwV 3 htT (kg_V m_ml_L_70 m_im_X5_told m_sl_X5_told m_in_X5 m_cd_X5_told) rfl rfl rfl (by decide +kernel) ⟨Nat.le_of_ble_eq_true rfl, Nat.le_of_ble_eq_true rfl⟩) (kn_V hK hP hD hTB ggv.c.hx (Nat.le_of_ble_eq_true rfl) rfl) rfl rfl hl.1 rfl (lv_room (Nat.le_of_ble_eq_true rfl)) dL_law_643 ⟨(by show _ ≤ 600086; omega), (by show _ ≤ 7301442; omega)⟩) hP hD hS hA (fun r_143 x_143 H locs hq_143 hP hD hS => ?_)
                          rw [hq_143.2] at hP hD
                          rw [hq_143.1.trans (ggv.told0 hk ja_k (v := 3) (by omega))]
                          have hnt_143 := nT_le M.2 (nI k) (nI 3) na
                          refine lv_goto (tgt := 650) hx hb dL_law_646 (by decide) ?_
                          refine lv_iadd hx hb dL_law_650 ?_
                          rw [show ((nI (((nT M.2 (nI k) (nI 0) na) + (nT M.2 (nI k) (nI 1) na)) + 0)) + (nI (nT M.2 (nI k) (nI 3) na)) : Int32) = nI ((((nT M.2 (nI k) (nI 0) na) + (nT M.2 (nI k) (nI 1) na)) + 0) + (nT M.2 (nI k) (nI 3) na)) from nI_add (((nT M.2 (nI k) (nI 0) na) + (nT M.2 (nI k) (nI 1) na)) + 0) (nT M.2 (nI k) (nI 3) na)]
                          have hsp : 0 < (((nT M.2 (nI k) (nI 0) na) + (nT M.2 (nI k) (nI 1) na)) + 0) + (nT M.2 (nI k) (nI 3) na) := by rcases (show r9 = 0 ∨ r9 = 1 ∨ r9 = 2 ∨ r9 = 3 by omega) with rfl | rfl | rfl | rfl <;> omega
                          refine lv_if_ne (tgt := 658) hx hb dL_law_651 (by decide) (fun c_144 => ?_) (fun c_144 => ?_)
                          · replace c_144 : ¬ ((((nT M.2 (nI k) (nI 0) na) + (nT M.2 (nI k) (nI 1) na)) + 0) + (nT M.2 (nI k) (nI 3) na) = 0) := fun h9 => c_144 ((nI_eq (a := (((nT M.2 (nI k) (nI 0) na) + (nT M.2 (nI k) (nI 1) na)) + 0) + (nT M.2 (nI k) (nI 3) na)) (b := 0) (by omega) (by omega)).mpr h9)
                            refine lv_iconst (v := 0) hx hb dL_law_658 (by decide) ?_
                            refine lv_icmp_ne (tgt := 679) hx hb dL_law_659 (by decide) (fun _ => ?_) (fun c_145 => absurd c_145 (by decide))
                            exfalso; omega
                          · replace c_144 := (nI_eq (a := (((nT M.2 (nI k) (nI 0) na) + (nT M.2 (nI k) (nI 1) na)) + 0) + (nT M.2 (nI k) (nI 3) na)) (b := 0) (by omega) (by omega)).mp c_144
                            refine lv_iconst (v := 1) hx hb dL_law_654 (by decide) ?_
                            refine lv_goto (tgt := 659) hx hb dL_law_655 (by decide) ?_
                            refine lv_icmp_ne (tgt := 679) hx hb dL_law_659 (by decide) (fun c_146 => absurd c_146 (by decide)) (fun _ => ?_)
                            refine lv_aload_n hx hb dL_law_662 rfl (lv_at hl 7 rfl) ?_
                            refine lv_iload hx hb dL_law_663 (lv_at hl 3 rfl) ?_
                            refine lv_aload_n hx hb dL_law_665 rfl (lv_at hl 7 rfl) ?_
                            refine lv_iload hx hb dL_law_666 (lv_at hl 3 rfl) ?_
                            refine kn_i (va_runV (As := [.int (nI k)]) (rest := [.int (nI k), .ref x]) ⟨hx, hb, hml, hown, htT⟩ (c_share l D cA _ Y2 x ggv.c.hx ar ggv.c.q0 ak ggv.c.q1 ggv.c.kk ggv.c.R k q8_k a_k ja_k (nI k) sw_k) (cwV 1 htT (kg_V m_ml_L_86 m_im_X5_share m_sl_X5_share m_in_X5 m_cd_X5_share) rfl rfl rfl (by decide +kernel) ⟨Nat.le_of_ble_eq_true rfl, Nat.le_of_ble_eq_true rfl⟩) (kn_V hK hP hD hTB ggv.c.hx (Nat.le_of_ble_eq_true rfl) rfl) rfl rfl hl.1 rfl (lv_room (Nat.le_of_ble_eq_true rfl)) dL_law_668 ⟨(by show _ ≤ 600086; omega), (by show _ ≤ 7301442; omega)⟩) hP hD hS hA (fun r_147 x_147 H locs hq_147 hP hD hS => ?_)
                            rw [hq_147.2] at hP hD
                            rw [hq_147.1.trans ((ggv.far hk ja_k).trans es0)]
                            refine lv_bipush (v := 20) hx hb dL_law_671 (by decide) ?_
                            refine kn_i (va_runV (As := [.int (nI k), .int (nI s0), .int 20]) (rest := []) ⟨hx, hb, hml, hown, htT⟩ (c_wouldChangeX l D cA _ Y2 x ggv.c.hx ar ggv.c.q0 ak ggv.c.q1 ggv.c.kk ggv.c.R k q8_k a_k ja_k (nI k) sw_k (nI s0) (kOut_n (a := s0) (lo := 0) (hi := 1000) (by omega) (by omega) (by omega)) 20 (by decide) (by decide) (by decide) (fun u => (rBy M na ru k u).1) (by_eq ggv.l ggv.c hok ggv.y rfl rfl hk ja_k) (rNw M na ru k (nI s0)) (wc_eq ggv.l ggv.c hok ggv.y rfl rfl hk ja_k)) (cwV 3 htT (kg_V m_ml_L_95 m_im_X5_wouldChange m_sl_X5_wouldChange m_in_X5 m_cd_X5_wouldChange) rfl rfl rfl (by decide +kernel) ⟨Nat.le_of_ble_eq_true rfl, Nat.le_of_ble_eq_true rfl⟩) (kn_V hK hP hD hTB ggv.c.hx (Nat.le_of_ble_eq_true rfl) rfl) rfl rfl hl.1 rfl (lv_room (Nat.le_of_ble_eq_true rfl)) dL_law_673 ⟨(by show _ ≤ 600086; omega), (by show _ ≤ 7301442; omega)⟩) hP hD hS hA (fun r_148 x_148 H locs hq_148 hP hD hS => ?_)
                            have gg_148 : GG n na x_148 M x ar ak := ggv.eA hq_148.2
                            obtain ⟨a_k, ja_k⟩ := gg_148.c.row k (by omega)
                            have sw_k := gg_148.sw2 (by omega) ja_k
                            rw [hq_148.1.trans (would_0 es0)]
                            refine lv_if_eq (tgt := 681) hx hb dL_law_676 (by decide) (fun _ => ?_) (fun c_149 => absurd c_149 (by decide))
                            refine lv_iconst (v := 0) hx hb dL_law_681 (by decide) ?_
                            refine lv_istore (lv' := [(12, .int 0), (11, .int (nI r9)), (10, .int 20), (9, .int (nI (vcT M k))), (8, .int (nI k)), (7, .int (nI (aa + sumN (fun v => nT M.2 (nI k) (nI v) na) (vcT M k)))), (5, .long bq), (4, .int (nI sp)), (3, .ref x), (2, .ref d), (1, .int (nI ti)), (0, .ref b)]) hx hb dL_law_682 hl (by decide) rfl (fun ls hl => ?_)
                            refine kz_loopD 684 (fun N9 H locs ls => ∃ (i2 : Nat), N9 = (vcT M k) - i2 ∧ i2 ≤ (vcT M k) ∧ va_P D vwCl (PW cA U ++ PW cA x_148) H ∧ va_D A (PW cA U ++ PW cA x_148) ∧ va_S A s.heap H locs ∧ lv_has ls 16 [(12, .int (nI i2)), (11, .int (nI r9)), (9, .int (nI (vcT M k))), (8, .int (nI k)), (7, .int (nI (aa + sumN (fun v => nT M.2 (nI k) (nI v) na) (vcT M k)))), (5, .long bq), (4, .int (nI sp)), (3, .ref x), (2, .ref d), (1, .int (nI ti)), (0, .ref b)]) (fun N9 ih_684 H locs ls e_684 hd0 hI => ?_) hd0 ⟨0, rfl, Nat.zero_le _, hP, hD, hS, lv_sub hl [0, 1, 3, 4, 5, 6, 7, 8, 9, 10, 11] rfl⟩
                            obtain ⟨i2, hn9, hi29, hP, hD, hS, hl⟩ := hI
                            have htT : ∀ w ∈ TT, w.before _ (s.setDrawn e_684) = true := dr_words htT0 e_684
                            have hTB : TBok (s.setDrawn e_684) := TBok.same (u := s) (U := s.setDrawn e_684) rfl (Vm.Alike.refl s.vm) hTB0
                            have hK : va_K D vwCl (ty6 cA) (s.setDrawn e_684) := hK0
                            have hown : (s.setDrawn e_684).vm.findClass RL = some m.cls := hown0
                            have hTX : TXok A (s.setDrawn e_684) := hTX0.dr e_684
                            have hX : va_X b L xs (s.setDrawn e_684) (s.setDrawn e_684).heap := hX0
                            have hAO : va_AOA .int (s.setDrawn e_684) ∧ va_AOA (.array .int) (s.setDrawn e_684) := ⟨va_AOA.moved (u := s) (U := s.setDrawn e_684) (Vm.Alike.refl s.vm) hAO0.1, va_AOA.moved (u := s) (U := s.setDrawn e_684) (Vm.Alike.refl s.vm) hAO0.2⟩
                            refine lv_iload hx hb dL_law_684 (lv_at hl 0 rfl) ?_
                            refine lv_iload hx hb dL_law_686 (lv_at hl 2 rfl) ?_
                            refine lv_icmp_ge (tgt := 736) hx hb dL_law_688 (by decide) (fun c_150 => ?_) (fun c_150 => ?_)
                            · replace c_150 := (nI_leI (a := vcT M k) (b := i2) (by omega) (by omega)).mp c_150
                              exact hcut736 H locs _ e_684 hd0 ⟨x_148, gg_148, hP, hD, hS, lv_sub hl [2, 3, 4, 5, 6, 7, 8, 9, 10] rfl⟩
                            · replace c_150 : ¬ (vcT M k ≤ i2) := fun h9 => c_150 ((nI_leI (a := vcT M k) (b := i2) (by omega) (by omega)).mpr h9)
                              refine lv_iload hx hb dL_law_691 (lv_at hl 1 rfl) ?_
                              refine lv_if_lt (tgt := 736) hx hb dL_law_693 (by decide) (fun c_151 => ?_) (fun c_151 => ?_)
                              · replace c_151 := (nI_ltI (a := r9) (b := 0) (by omega) (by omega)).mp c_151
                                exact hcut736 H locs _ e_684 hd0 ⟨x_148, gg_148, hP, hD, hS, lv_sub hl [2, 3, 4, 5, 6, 7, 8, 9, 10] rfl⟩
                              · replace c_151 : ¬ (r9 < 0) := fun h9 => c_151 ((nI_ltI (a := r9) (b := 0) (by omega) (by omega)).mpr h9)
                                refine lv_aload_n hx hb dL_law_696 rfl (lv_at hl 7 rfl) ?_
                                refine lv_iload hx hb dL_law_697 (lv_at hl 3 rfl) ?_
                                refine lv_iload hx hb dL_law_699 (lv_at hl 0 rfl) ?_
                                refine lv_iconst (v := 0) hx hb dL_law_701 (by decide) ?_
                                refine kn_i (va_runV (As := [.int (nI k), .int (nI i2), .int 0]) (rest := []) ⟨hx, hb, hml, hown, htT⟩ (c_toldX l D cA _ x_148 x gg_148.c.hx ar gg_148.c.q0 ak gg_148.c.q1 gg_148.c.kk gg_148.c.R k q8_k a_k ja_k (nI k) sw_k (nI i2) (gg_148.vko hk ja_k evc (v := i2) (by omega) hvc4) 0 (by decide)) (cwV 3 htT (kg_V m_ml_L_70 m_im_X5_told m_sl_X5_told m_in_X5 m_cd_X5_told) rfl rfl rfl (by decide +kernel) ⟨Nat.le_of_ble_eq_true rfl, Nat.le_of_ble_eq_true rfl⟩) (kn_V hK hP hD hTB gg_148.c.hx (Nat.le_of_ble_eq_true rfl) rfl) rfl rfl hl.1 rfl (lv_room (Nat.le_of_ble_eq_true rfl)) dL_law_702 ⟨(by show _ ≤ 600086; omega), (by show _ ≤ 7301442; omega)⟩) hP hD hS hA (fun r_152 x_152 H locs hq_152 hP hD hS => ?_)
                                rw [hq_152.2] at hP hD
                                rw [hq_152.1.trans (gg_148.told0 hk ja_k (v := i2) (by omega))]
                                have hnt_152 := nT_le M.2 (nI k) (nI i2) na
                                refine lv_if_le (tgt := 730) hx hb dL_law_705 (by decide) (fun c_153 => ?_) (fun c_153 => ?_)
                                · replace c_153 := (nI_leI (a := nT M.2 (nI k) (nI i2) na) (b := 0) (by omega) (by omega)).mp c_153
                                  refine lv_iinc (v := nI (i2 + 1)) (lv' := [(12, .int (nI (i2 + 1))), (11, .int (nI r9)), (9, .int (nI (vcT M k))), (8, .int (nI k)), (7, .int (nI (aa + sumN (fun v => nT M.2 (nI k) (nI v) na) (vcT M k)))), (5, .long bq), (4, .int (nI sp)), (3, .ref x), (2, .ref d), (1, .int (nI ti)), (0, .ref b)]) hx hb dL_law_730 hl (k := 0) rfl (nI_1 _) (by decide) rfl (fun ls hl => ?_)
                                  refine lv_goto (tgt := 684) hx hb dL_law_733 (by decide) ?_
                                  have hl := lv_sub hl [0, 1, 2, 3, 4, 5, 6, 7, 8, 9, 10] rfl
                                  exact ih_684 _ (by omega) H locs ls e_684 hd0 ⟨i2 + 1, rfl, (by omega), hP, hD, hS, hl⟩
                                · replace c_153 : ¬ (nT M.2 (nI k) (nI i2) na ≤ 0) := fun h9 => c_153 ((nI_leI (a := nT M.2 (nI k) (nI i2) na) (b := 0) (by omega) (by omega)).mpr h9)
                                  refine lv_aload_n hx hb dL_law_708 rfl (lv_at hl 7 rfl) ?_
                                  refine lv_iload hx hb dL_law_709 (lv_at hl 3 rfl) ?_
                                  refine lv_iload hx hb dL_law_711 (lv_at hl 0 rfl) ?_
                                  refine kjD_d hd0 List.perm_append_comm (va_runV_D (As := [.int (nI k), .int (nI i2)]) (rest := []) ⟨hx, hb, hml, hown, htT⟩ (c_meanX l D cA _ x_148 x gg_148.c.hx ar gg_148.c.q0 ak gg_148.c.q1 gg_148.c.kk gg_148.c.R k q8_k a_k ja_k (nI k) sw_k (nI i2) (gg_148.vko hk ja_k evc (v := i2) (by omega) hvc4)) (cwV 2 htT (kg_V m_ml_L_73 m_im_X5_mean m_sl_X5_mean m_in_X5 m_cd_X5_mean) rfl rfl rfl (by decide +kernel) ⟨Nat.le_of_ble_eq_true rfl, Nat.le_of_ble_eq_true rfl⟩) (kn_V hK hP hD hTB gg_148.c.hx (Nat.le_of_ble_eq_true rfl) rfl) rfl rfl hl.1 rfl (lv_room (Nat.le_of_ble_eq_true rfl)) dL_law_713 ⟨(by show _ ≤ 600086; omega), (by show _ ≤ 7301442; omega)⟩) hP hD hS hA (fun r_154 x_154 H locs hq_154 hP hD hS d_154 hd0 => ?_)
                                  replace hP := kj_P List.perm_append_comm hP
                                  replace hD := kj_D List.perm_append_comm hD
                                  have htT : ∀ w ∈ TT, w.before _ (s.setDrawn d_154) = true := dr_words htT0 d_154
                                  have hTB : TBok (s.setDrawn d_154) := TBok.same (u := s) (U := s.setDrawn d_154) rfl (Vm.Alike.refl s.vm) hTB0
                                  have hK : va_K D vwCl (ty6 cA) (s.setDrawn d_154) := hK0
                                  have hown : (s.setDrawn d_154).vm.findClass RL = some m.cls := hown0
                                  have hTX : TXok A (s.setDrawn d_154) := hTX0.dr d_154
                                  have hX : va_X b L xs (s.setDrawn d_154) (s.setDrawn d_154).heap := hX0
                                  have hAO : va_AOA .int (s.setDrawn d_154) ∧ va_AOA (.array .int) (s.setDrawn d_154) := ⟨va_AOA.moved (u := s) (U := s.setDrawn d_154) (Vm.Alike.refl s.vm) hAO0.1, va_AOA.moved (u := s) (U := s.setDrawn d_154) (Vm.Alike.refl s.vm) hAO0.2⟩
                                  rw [hq_154.2] at hP hD
                                  have hm_154 : r_154 = kMn M na k i2 := gg_148.mean hk ja_k (v := i2) (by omega) hq_154.1
                                  subst hm_154
                                  refine lv_aload_n hx hb dL_law_716 rfl (lv_at hl 7 rfl) ?_
                                  refine lv_iload hx hb dL_law_717 (lv_at hl 3 rfl) ?_
                                  refine lv_iload hx hb dL_law_719 (lv_at hl 1 rfl) ?_
                                  refine kjD_d hd0 List.perm_append_comm (va_runV_D (As := [.int (nI k), .int (nI r9)]) (rest := [.double (kMn M na k i2)]) ⟨hx, hb, hml, hown, htT⟩ (c_meanX l D cA _ x_148 x gg_148.c.hx ar gg_148.c.q0 ak gg_148.c.q1 gg_148.c.kk gg_148.c.R k q8_k a_k ja_k (nI k) sw_k (nI r9) (gg_148.vko hk ja_k evc (v := r9) (by omega) hvc4)) (cwV 2 htT (kg_V m_ml_L_73 m_im_X5_mean m_sl_X5_mean m_in_X5 m_cd_X5_mean) rfl rfl rfl (by decide +kernel) ⟨Nat.le_of_ble_eq_true rfl, Nat.le_of_ble_eq_true rfl⟩) (kn_V hK hP hD hTB gg_148.c.hx (Nat.le_of_ble_eq_true rfl) rfl) rfl rfl hl.1 rfl (lv_room (Nat.le_of_ble_eq_true rfl)) dL_law_721 ⟨(by show _ ≤ 600086; omega), (by show _ ≤ 7301442; omega)⟩) hP hD hS hA (fun r_155 x_155 H locs hq_155 hP hD hS d_155 hd0 => ?_)
                                  replace hP := kj_P List.perm_append_comm hP
                                  replace hD := kj_D List.perm_append_comm hD
                                  have htT : ∀ w ∈ TT, w.before _ (s.setDrawn d_155) = true := dr_words htT0 d_155
                                  have hTB : TBok (s.setDrawn d_155) := TBok.same (u := s) (U := s.setDrawn d_155) rfl (Vm.Alike.refl s.vm) hTB0
                                  have hK : va_K D vwCl (ty6 cA) (s.setDrawn d_155) := hK0
                                  have hown : (s.setDrawn d_155).vm.findClass RL = some m.cls := hown0
                                  have hTX : TXok A (s.setDrawn d_155) := hTX0.dr d_155
                                  have hX : va_X b L xs (s.setDrawn d_155) (s.setDrawn d_155).heap := hX0
                                  have hAO : va_AOA .int (s.setDrawn d_155) ∧ va_AOA (.array .int) (s.setDrawn d_155) := ⟨va_AOA.moved (u := s) (U := s.setDrawn d_155) (Vm.Alike.refl s.vm) hAO0.1, va_AOA.moved (u := s) (U := s.setDrawn d_155) (Vm.Alike.refl s.vm) hAO0.2⟩
                                  rw [hq_155.2] at hP hD
                                  have hm_155 : r_155 = kMn M na k r9 := gg_148.mean hk ja_k (v := r9) (by omega) hq_155.1
                                  subst hm_155
                                  refine lv_dcmp hx hb dL_law_724 ?_
                                  refine lv_if_le (tgt := 730) hx hb dL_law_725 (by decide) (fun c_157 => ?_) (fun c_157 => ?_)
                                  · refine lv_iinc (v := nI (i2 + 1)) (lv' := [(12, .int (nI (i2 + 1))), (11, .int (nI r9)), (9, .int (nI (vcT M k))), (8, .int (nI k)), (7, .int (nI (aa + sumN (fun v => nT M.2 (nI k) (nI v) na) (vcT M k)))), (5, .long bq), (4, .int (nI sp)), (3, .ref x), (2, .ref d), (1, .int (nI ti)), (0, .ref b)]) hx hb dL_law_730 hl (k := 0) rfl (nI_1 _) (by decide) rfl (fun ls hl => ?_)
                                    refine lv_goto (tgt := 684) hx hb dL_law_733 (by decide) ?_
                                    have hl := lv_sub hl [0, 1, 2, 3, 4, 5, 6, 7, 8, 9, 10] rfl
                                    exact ih_684 _ (by omega) H locs ls d_155 hd0 ⟨i2 + 1, rfl, (by omega), hP, hD, hS, hl⟩
                                  · exact absurd (Int32.not_le.mp c_157) (cm_le (best_cmp (hmax i2 (by omega) (by omega))))
                      · replace c_127 : ¬ (vcT M k ≤ 2) := fun h9 => c_127 ((nI_leI (a := vcT M k) (b := 2) (by omega) (by omega)).mpr h9)
                        refine lv_aload_n hx hb dL_law_619 rfl (lv_at hl 7 rfl) ?_
                        refine lv_iload hx hb dL_law_620 (lv_at hl 3 rfl) ?_
                        refine lv_iconst (v := 2) hx hb dL_law_622 (by decide) ?_
                        refine lv_iconst (v := 0) hx hb dL_law_623 (by decide) ?_
                        refine kn_i (va_runV (As := [.int (nI k), .int 2, .int 0]) (rest := [.int (nI ((nT M.2 (nI k) (nI 0) na) + (nT M.2 (nI k) (nI 1) na))), .int 1]) ⟨hx, hb, hml, hown, htT⟩ (c_toldX l D cA _ Y2 x ggv.c.hx ar ggv.c.q0 ak ggv.c.q1 ggv.c.kk ggv.c.R k q8_k a_k ja_k (nI k) sw_k (nI 2) (ggv.vko hk ja_k evc (v := 2) (by omega) hvc4) 0 (by decide)) (cwV 3 htT (kg_V m_ml_L_70 m_im_X5_told m_sl_X5_told m_in_X5 m_cd_X5_told) rfl rfl rfl (by decide +kernel) ⟨Nat.le_of_ble_eq_true rfl, Nat.le_of_ble_eq_true rfl⟩) (kn_V hK hP hD hTB ggv.c.hx (Nat.le_of_ble_eq_true rfl) rfl) rfl rfl hl.1 rfl (lv_room (Nat.le_of_ble_eq_true rfl)) dL_law_624 ⟨(by show _ ≤ 600086; omega), (by show _ ≤ 7301442; omega)⟩) hP hD hS hA (fun r_158 x_158 H locs hq_158 hP hD hS => ?_)
                        rw [hq_158.2] at hP hD
                        rw [hq_158.1.trans (ggv.told0 hk ja_k (v := 2) (by omega))]
                        have hnt_158 := nT_le M.2 (nI k) (nI 2) na
                        refine lv_goto (tgt := 631) hx hb dL_law_627 (by decide) ?_
                        refine lv_iadd hx hb dL_law_631 ?_
                        rw [show ((nI ((nT M.2 (nI k) (nI 0) na) + (nT M.2 (nI k) (nI 1) na))) + (nI (nT M.2 (nI k) (nI 2) na)) : Int32) = nI (((nT M.2 (nI k) (nI 0) na) + (nT M.2 (nI k) (nI 1) na)) + (nT M.2 (nI k) (nI 2) na)) from nI_add ((nT M.2 (nI k) (nI 0) na) + (nT M.2 (nI k) (nI 1) na)) (nT M.2 (nI k) (nI 2) na)]
                        refine lv_iload hx hb dL_law_632 (lv_at hl 2 rfl) ?_
                        refine lv_iconst (v := 3) hx hb dL_law_634 (by decide) ?_
                        refine lv_icmp_le (tgt := 649) hx hb dL_law_635 (by decide) (fun c_159 => ?_) (fun c_159 => ?_)
                        · replace c_159 := (nI_leI (a := vcT M k) (b := 3) (by omega) (by omega)).mp c_159
                          refine lv_iconst (v := 0) hx hb dL_law_649 (by decide) ?_
                          refine lv_iadd hx hb dL_law_650 ?_
                          rw [show ((nI (((nT M.2 (nI k) (nI 0) na) + (nT M.2 (nI k) (nI 1) na)) + (nT M.2 (nI k) (nI 2) na))) + 0 : Int32) = nI ((((nT M.2 (nI k) (nI 0) na) + (nT M.2 (nI k) (nI 1) na)) + (nT M.2 (nI k) (nI 2) na)) + 0) from nI_add (((nT M.2 (nI k) (nI 0) na) + (nT M.2 (nI k) (nI 1) na)) + (nT M.2 (nI k) (nI 2) na)) 0]
                          have hsp : 0 < (((nT M.2 (nI k) (nI 0) na) + (nT M.2 (nI k) (nI 1) na)) + (nT M.2 (nI k) (nI 2) na)) + 0 := by rcases (show r9 = 0 ∨ r9 = 1 ∨ r9 = 2 ∨ r9 = 3 by omega) with rfl | rfl | rfl | rfl <;> omega
                          refine lv_if_ne (tgt := 658) hx hb dL_law_651 (by decide) (fun c_160 => ?_) (fun c_160 => ?_)
                          · replace c_160 : ¬ ((((nT M.2 (nI k) (nI 0) na) + (nT M.2 (nI k) (nI 1) na)) + (nT M.2 (nI k) (nI 2) na)) + 0 = 0) := fun h9 => c_160 ((nI_eq (a := (((nT M.2 (nI k) (nI 0) na) + (nT M.2 (nI k) (nI 1) na)) + (nT M.2 (nI k) (nI 2) na)) + 0) (b := 0) (by omega) (by omega)).mpr h9)
                            refine lv_iconst (v := 0) hx hb dL_law_658 (by decide) ?_
                            refine lv_icmp_ne (tgt := 679) hx hb dL_law_659 (by decide) (fun _ => ?_) (fun c_161 => absurd c_161 (by decide))
                            exfalso; omega
                          · replace c_160 := (nI_eq (a := (((nT M.2 (nI k) (nI 0) na) + (nT M.2 (nI k) (nI 1) na)) + (nT M.2 (nI k) (nI 2) na)) + 0) (b := 0) (by omega) (by omega)).mp c_160
                            refine lv_iconst (v := 1) hx hb dL_law_654 (by decide) ?_
                            refine lv_goto (tgt := 659) hx hb dL_law_655 (by decide) ?_
                            refine lv_icmp_ne (tgt := 679) hx hb dL_law_659 (by decide) (fun c_162 => absurd c_162 (by decide)) (fun _ => ?_)
                            refine lv_aload_n hx hb dL_law_662 rfl (lv_at hl 7 rfl) ?_
                            refine lv_iload hx hb dL_law_663 (lv_at hl 3 rfl) ?_
                            refine lv_aload_n hx hb dL_law_665 rfl (lv_at hl 7 rfl) ?_
                            refine lv_iload hx hb dL_law_666 (lv_at hl 3 rfl) ?_
                            refine kn_i (va_runV (As := [.int (nI k)]) (rest := [.int (nI k), .ref x]) ⟨hx, hb, hml, hown, htT⟩ (c_share l D cA _ Y2 x ggv.c.hx ar ggv.c.q0 ak ggv.c.q1 ggv.c.kk ggv.c.R k q8_k a_k ja_k (nI k) sw_k) (cwV 1 htT (kg_V m_ml_L_86 m_im_X5_share m_sl_X5_share m_in_X5 m_cd_X5_share) rfl rfl rfl (by decide +kernel) ⟨Nat.le_of_ble_eq_true rfl, Nat.le_of_ble_eq_true rfl⟩) (kn_V hK hP hD hTB ggv.c.hx (Nat.le_of_ble_eq_true rfl) rfl) rfl rfl hl.1 rfl (lv_room (Nat.le_of_ble_eq_true rfl)) dL_law_668 ⟨(by show _ ≤ 600086; omega), (by show _ ≤ 7301442; omega)⟩) hP hD hS hA (fun r_163 x_163 H locs hq_163 hP hD hS => ?_)
                            rw [hq_163.2] at hP hD
                            rw [hq_163.1.trans ((ggv.far hk ja_k).trans es0)]
                            refine lv_bipush (v := 20) hx hb dL_law_671 (by decide) ?_
                            refine kn_i (va_runV (As := [.int (nI k), .int (nI s0), .int 20]) (rest := []) ⟨hx, hb, hml, hown, htT⟩ (c_wouldChangeX l D cA _ Y2 x ggv.c.hx ar ggv.c.q0 ak ggv.c.q1 ggv.c.kk ggv.c.R k q8_k a_k ja_k (nI k) sw_k (nI s0) (kOut_n (a := s0) (lo := 0) (hi := 1000) (by omega) (by omega) (by omega)) 20 (by decide) (by decide) (by decide) (fun u => (rBy M na ru k u).1) (by_eq ggv.l ggv.c hok ggv.y rfl rfl hk ja_k) (rNw M na ru k (nI s0)) (wc_eq ggv.l ggv.c hok ggv.y rfl rfl hk ja_k)) (cwV 3 htT (kg_V m_ml_L_95 m_im_X5_wouldChange m_sl_X5_wouldChange m_in_X5 m_cd_X5_wouldChange) rfl rfl rfl (by decide +kernel) ⟨Nat.le_of_ble_eq_true rfl, Nat.le_of_ble_eq_true rfl⟩) (kn_V hK hP hD hTB ggv.c.hx (Nat.le_of_ble_eq_true rfl) rfl) rfl rfl hl.1 rfl (lv_room (Nat.le_of_ble_eq_true rfl)) dL_law_673 ⟨(by show _ ≤ 600086; omega), (by show _ ≤ 7301442; omega)⟩) hP hD hS hA (fun r_164 x_164 H locs hq_164 hP hD hS => ?_)
                            have gg_164 : GG n na x_164 M x ar ak := ggv.eA hq_164.2
                            obtain ⟨a_k, ja_k⟩ := gg_164.c.row k (by omega)
                            have sw_k := gg_164.sw2 (by omega) ja_k
                            rw [hq_164.1.trans (would_0 es0)]
                            refine lv_if_eq (tgt := 681) hx hb dL_law_676 (by decide) (fun _ => ?_) (fun c_165 => absurd c_165 (by decide))
                            refine lv_iconst (v := 0) hx hb dL_law_681 (by decide) ?_
                            refine lv_istore (lv' := [(12, .int 0), (11, .int (nI r9)), (10, .int 20), (9, .int (nI (vcT M k))), (8, .int (nI k)), (7, .int (nI (aa + sumN (fun v => nT M.2 (nI k) (nI v) na) (vcT M k)))), (5, .long bq), (4, .int (nI sp)), (3, .ref x), (2, .ref d), (1, .int (nI ti)), (0, .ref b)]) hx hb dL_law_682 hl (by decide) rfl (fun ls hl => ?_)
                            refine kz_loopD 684 (fun N9 H locs ls => ∃ (i2 : Nat), N9 = (vcT M k) - i2 ∧ i2 ≤ (vcT M k) ∧ va_P D vwCl (PW cA U ++ PW cA x_164) H ∧ va_D A (PW cA U ++ PW cA x_164) ∧ va_S A s.heap H locs ∧ lv_has ls 16 [(12, .int (nI i2)), (11, .int (nI r9)), (9, .int (nI (vcT M k))), (8, .int (nI k)), (7, .int (nI (aa + sumN (fun v => nT M.2 (nI k) (nI v) na) (vcT M k)))), (5, .long bq), (4, .int (nI sp)), (3, .ref x), (2, .ref d), (1, .int (nI ti)), (0, .ref b)]) (fun N9 ih_684 H locs ls e_684 hd0 hI => ?_) hd0 ⟨0, rfl, Nat.zero_le _, hP, hD, hS, lv_sub hl [0, 1, 3, 4, 5, 6, 7, 8, 9, 10, 11] rfl⟩
                            obtain ⟨i2, hn9, hi29, hP, hD, hS, hl⟩ := hI
                            have htT : ∀ w ∈ TT, w.before _ (s.setDrawn e_684) = true := dr_words htT0 e_684
                            have hTB : TBok (s.setDrawn e_684) := TBok.same (u := s) (U := s.setDrawn e_684) rfl (Vm.Alike.refl s.vm) hTB0
                            have hK : va_K D vwCl (ty6 cA) (s.setDrawn e_684) := hK0
                            have hown : (s.setDrawn e_684).vm.findClass RL = some m.cls := hown0
                            have hTX : TXok A (s.setDrawn e_684) := hTX0.dr e_684
                            have hX : va_X b L xs (s.setDrawn e_684) (s.setDrawn e_684).heap := hX0
                            have hAO : va_AOA .int (s.setDrawn e_684) ∧ va_AOA (.array .int) (s.setDrawn e_684) := ⟨va_AOA.moved (u := s) (U := s.setDrawn e_684) (Vm.Alike.refl s.vm) hAO0.1, va_AOA.moved (u := s) (U := s.setDrawn e_684) (Vm.Alike.refl s.vm) hAO0.2⟩
                            refine lv_iload hx hb dL_law_684 (lv_at hl 0 rfl) ?_
                            refine lv_iload hx hb dL_law_686 (lv_at hl 2 rfl) ?_
                            refine lv_icmp_ge (tgt := 736) hx hb dL_law_688 (by decide) (fun c_166 => ?_) (fun c_166 => ?_)
                            · replace c_166 := (nI_leI (a := vcT M k) (b := i2) (by omega) (by omega)).mp c_166
                              exact hcut736 H locs _ e_684 hd0 ⟨x_164, gg_164, hP, hD, hS, lv_sub hl [2, 3, 4, 5, 6, 7, 8, 9, 10] rfl⟩
                            · replace c_166 : ¬ (vcT M k ≤ i2) := fun h9 => c_166 ((nI_leI (a := vcT M k) (b := i2) (by omega) (by omega)).mpr h9)
                              refine lv_iload hx hb dL_law_691 (lv_at hl 1 rfl) ?_
                              refine lv_if_lt (tgt := 736) hx hb dL_law_693 (by decide) (fun c_167 => ?_) (fun c_167 => ?_)
                              · replace c_167 := (nI_ltI (a := r9) (b := 0) (by omega) (by omega)).mp c_167
                                exact hcut736 H locs _ e_684 hd0 ⟨x_164, gg_164, hP, hD, hS, lv_sub hl [2, 3, 4, 5, 6, 7, 8, 9, 10] rfl⟩
                              · replace c_167 : ¬ (r9 < 0) := fun h9 => c_167 ((nI_ltI (a := r9) (b := 0) (by omega) (by omega)).mpr h9)
                                refine lv_aload_n hx hb dL_law_696 rfl (lv_at hl 7 rfl) ?_
                                refine lv_iload hx hb dL_law_697 (lv_at hl 3 rfl) ?_
                                refine lv_iload hx hb dL_law_699 (lv_at hl 0 rfl) ?_
                                refine lv_iconst (v := 0) hx hb dL_law_701 (by decide) ?_
                                refine kn_i (va_runV (As := [.int (nI k), .int (nI i2), .int 0]) (rest := []) ⟨hx, hb, hml, hown, htT⟩ (c_toldX l D cA _ x_164 x gg_164.c.hx ar gg_164.c.q0 ak gg_164.c.q1 gg_164.c.kk gg_164.c.R k q8_k a_k ja_k (nI k) sw_k (nI i2) (gg_164.vko hk ja_k evc (v := i2) (by omega) hvc4) 0 (by decide)) (cwV 3 htT (kg_V m_ml_L_70 m_im_X5_told m_sl_X5_told m_in_X5 m_cd_X5_told) rfl rfl rfl (by decide +kernel) ⟨Nat.le_of_ble_eq_true rfl, Nat.le_of_ble_eq_true rfl⟩) (kn_V hK hP hD hTB gg_164.c.hx (Nat.le_of_ble_eq_true rfl) rfl) rfl rfl hl.1 rfl (lv_room (Nat.le_of_ble_eq_true rfl)) dL_law_702 ⟨(by show _ ≤ 600086; omega), (by show _ ≤ 7301442; omega)⟩) hP hD hS hA (fun r_168 x_168 H locs hq_168 hP hD hS => ?_)
                                rw [hq_168.2] at hP hD
                                rw [hq_168.1.trans (gg_164.told0 hk ja_k (v := i2) (by omega))]
                                have hnt_168 := nT_le M.2 (nI k) (nI i2) na
                                refine lv_if_le (tgt := 730) hx hb dL_law_705 (by decide) (fun c_169 => ?_) (fun c_169 => ?_)
                                · replace c_169 := (nI_leI (a := nT M.2 (nI k) (nI i2) na) (b := 0) (by omega) (by omega)).mp c_169
                                  refine lv_iinc (v := nI (i2 + 1)) (lv' := [(12, .int (nI (i2 + 1))), (11, .int (nI r9)), (9, .int (nI (vcT M k))), (8, .int (nI k)), (7, .int (nI (aa + sumN (fun v => nT M.2 (nI k) (nI v) na) (vcT M k)))), (5, .long bq), (4, .int (nI sp)), (3, .ref x), (2, .ref d), (1, .int (nI ti)), (0, .ref b)]) hx hb dL_law_730 hl (k := 0) rfl (nI_1 _) (by decide) rfl (fun ls hl => ?_)
                                  refine lv_goto (tgt := 684) hx hb dL_law_733 (by decide) ?_
                                  have hl := lv_sub hl [0, 1, 2, 3, 4, 5, 6, 7, 8, 9, 10] rfl
                                  exact ih_684 _ (by omega) H locs ls e_684 hd0 ⟨i2 + 1, rfl, (by omega), hP, hD, hS, hl⟩
                                · replace c_169 : ¬ (nT M.2 (nI k) (nI i2) na ≤ 0) := fun h9 => c_169 ((nI_leI (a := nT M.2 (nI k) (nI i2) na) (b := 0) (by omega) (by omega)).mpr h9)
                                  refine lv_aload_n hx hb dL_law_708 rfl (lv_at hl 7 rfl) ?_
                                  refine lv_iload hx hb dL_law_709 (lv_at hl 3 rfl) ?_
                                  refine lv_iload hx hb dL_law_711 (lv_at hl 0 rfl) ?_
                                  refine kjD_d hd0 List.perm_append_comm (va_runV_D (As := [.int (nI k), .int (nI i2)]) (rest := []) ⟨hx, hb, hml, hown, htT⟩ (c_meanX l D cA _ x_164 x gg_164.c.hx ar gg_164.c.q0 ak gg_164.c.q1 gg_164.c.kk gg_164.c.R k q8_k a_k ja_k (nI k) sw_k (nI i2) (gg_164.vko hk ja_k evc (v := i2) (by omega) hvc4)) (cwV 2 htT (kg_V m_ml_L_73 m_im_X5_mean m_sl_X5_mean m_in_X5 m_cd_X5_mean) rfl rfl rfl (by decide +kernel) ⟨Nat.le_of_ble_eq_true rfl, Nat.le_of_ble_eq_true rfl⟩) (kn_V hK hP hD hTB gg_164.c.hx (Nat.le_of_ble_eq_true rfl) rfl) rfl rfl hl.1 rfl (lv_room (Nat.le_of_ble_eq_true rfl)) dL_law_713 ⟨(by show _ ≤ 600086; omega), (by show _ ≤ 7301442; omega)⟩) hP hD hS hA (fun r_170 x_170 H locs hq_170 hP hD hS d_170 hd0 => ?_)
                                  replace hP := kj_P List.perm_append_comm hP
                                  replace hD := kj_D List.perm_append_comm hD
                                  have htT : ∀ w ∈ TT, w.before _ (s.setDrawn d_170) = true := dr_words htT0 d_170
                                  have hTB : TBok (s.setDrawn d_170) := TBok.same (u := s) (U := s.setDrawn d_170) rfl (Vm.Alike.refl s.vm) hTB0
                                  have hK : va_K D vwCl (ty6 cA) (s.setDrawn d_170) := hK0
                                  have hown : (s.setDrawn d_170).vm.findClass RL = some m.cls := hown0
                                  have hTX : TXok A (s.setDrawn d_170) := hTX0.dr d_170
                                  have hX : va_X b L xs (s.setDrawn d_170) (s.setDrawn d_170).heap := hX0
                                  have hAO : va_AOA .int (s.setDrawn d_170) ∧ va_AOA (.array .int) (s.setDrawn d_170) := ⟨va_AOA.moved (u := s) (U := s.setDrawn d_170) (Vm.Alike.refl s.vm) hAO0.1, va_AOA.moved (u := s) (U := s.setDrawn d_170) (Vm.Alike.refl s.vm) hAO0.2⟩
                                  rw [hq_170.2] at hP hD
                                  have hm_170 : r_170 = kMn M na k i2 := gg_164.mean hk ja_k (v := i2) (by omega) hq_170.1
                                  subst hm_170
                                  refine lv_aload_n hx hb dL_law_716 rfl (lv_at hl 7 rfl) ?_
                                  refine lv_iload hx hb dL_law_717 (lv_at hl 3 rfl) ?_
                                  refine lv_iload hx hb dL_law_719 (lv_at hl 1 rfl) ?_
                                  refine kjD_d hd0 List.perm_append_comm (va_runV_D (As := [.int (nI k), .int (nI r9)]) (rest := [.double (kMn M na k i2)]) ⟨hx, hb, hml, hown, htT⟩ (c_meanX l D cA _ x_164 x gg_164.c.hx ar gg_164.c.q0 ak gg_164.c.q1 gg_164.c.kk gg_164.c.R k q8_k a_k ja_k (nI k) sw_k (nI r9) (gg_164.vko hk ja_k evc (v := r9) (by omega) hvc4)) (cwV 2 htT (kg_V m_ml_L_73 m_im_X5_mean m_sl_X5_mean m_in_X5 m_cd_X5_mean) rfl rfl rfl (by decide +kernel) ⟨Nat.le_of_ble_eq_true rfl, Nat.le_of_ble_eq_true rfl⟩) (kn_V hK hP hD hTB gg_164.c.hx (Nat.le_of_ble_eq_true rfl) rfl) rfl rfl hl.1 rfl (lv_room (Nat.le_of_ble_eq_true rfl)) dL_law_721 ⟨(by show _ ≤ 600086; omega), (by show _ ≤ 7301442; omega)⟩) hP hD hS hA (fun r_171 x_171 H locs hq_171 hP hD hS d_171 hd0 => ?_)
                                  replace hP := kj_P List.perm_append_comm hP
                                  replace hD := kj_D List.perm_append_comm hD
                                  have htT : ∀ w ∈ TT, w.before _ (s.setDrawn d_171) = true := dr_words htT0 d_171
                                  have hTB : TBok (s.setDrawn d_171) := TBok.same (u := s) (U := s.setDrawn d_171) rfl (Vm.Alike.refl s.vm) hTB0
                                  have hK : va_K D vwCl (ty6 cA) (s.setDrawn d_171) := hK0
                                  have hown : (s.setDrawn d_171).vm.findClass RL = some m.cls := hown0
                                  have hTX : TXok A (s.setDrawn d_171) := hTX0.dr d_171
                                  have hX : va_X b L xs (s.setDrawn d_171) (s.setDrawn d_171).heap := hX0
                                  have hAO : va_AOA .int (s.setDrawn d_171) ∧ va_AOA (.array .int) (s.setDrawn d_171) := ⟨va_AOA.moved (u := s) (U := s.setDrawn d_171) (Vm.Alike.refl s.vm) hAO0.1, va_AOA.moved (u := s) (U := s.setDrawn d_171) (Vm.Alike.refl s.vm) hAO0.2⟩
                                  rw [hq_171.2] at hP hD
                                  have hm_171 : r_171 = kMn M na k r9 := gg_164.mean hk ja_k (v := r9) (by omega) hq_171.1
                                  subst hm_171
                                  refine lv_dcmp hx hb dL_law_724 ?_
                                  refine lv_if_le (tgt := 730) hx hb dL_law_725 (by decide) (fun c_173 => ?_) (fun c_173 => ?_)
                                  · refine lv_iinc (v := nI (i2 + 1)) (lv' := [(12, .int (nI (i2 + 1))), (11, .int (nI r9)), (9, .int (nI (vcT M k))), (8, .int (nI k)), (7, .int (nI (aa + sumN (fun v => nT M.2 (nI k) (nI v) na) (vcT M k)))), (5, .long bq), (4, .int (nI sp)), (3, .ref x), (2, .ref d), (1, .int (nI ti)), (0, .ref b)]) hx hb dL_law_730 hl (k := 0) rfl (nI_1 _) (by decide) rfl (fun ls hl => ?_)
                                    refine lv_goto (tgt := 684) hx hb dL_law_733 (by decide) ?_
                                    have hl := lv_sub hl [0, 1, 2, 3, 4, 5, 6, 7, 8, 9, 10] rfl
                                    exact ih_684 _ (by omega) H locs ls d_171 hd0 ⟨i2 + 1, rfl, (by omega), hP, hD, hS, hl⟩
                                  · exact absurd (Int32.not_le.mp c_173) (cm_le (best_cmp (hmax i2 (by omega) (by omega))))
                        · replace c_159 : ¬ (vcT M k ≤ 3) := fun h9 => c_159 ((nI_leI (a := vcT M k) (b := 3) (by omega) (by omega)).mpr h9)
                          refine lv_aload_n hx hb dL_law_638 rfl (lv_at hl 7 rfl) ?_
                          refine lv_iload hx hb dL_law_639 (lv_at hl 3 rfl) ?_
                          refine lv_iconst (v := 3) hx hb dL_law_641 (by decide) ?_
                          refine lv_iconst (v := 0) hx hb dL_law_642 (by decide) ?_
                          refine kn_i (va_runV (As := [.int (nI k), .int 3, .int 0]) (rest := [.int (nI (((nT M.2 (nI k) (nI 0) na) + (nT M.2 (nI k) (nI 1) na)) + (nT M.2 (nI k) (nI 2) na))), .int 1]) ⟨hx, hb, hml, hown, htT⟩ (c_toldX l D cA _ Y2 x ggv.c.hx ar ggv.c.q0 ak ggv.c.q1 ggv.c.kk ggv.c.R k q8_k a_k ja_k (nI k) sw_k (nI 3) (ggv.vko hk ja_k evc (v := 3) (by omega) hvc4) 0 (by decide)) (cwV 3 htT (kg_V m_ml_L_70 m_im_X5_told m_sl_X5_told m_in_X5 m_cd_X5_told) rfl rfl rfl (by decide +kernel) ⟨Nat.le_of_ble_eq_true rfl, Nat.le_of_ble_eq_true rfl⟩) (kn_V hK hP hD hTB ggv.c.hx (Nat.le_of_ble_eq_true rfl) rfl) rfl rfl hl.1 rfl (lv_room (Nat.le_of_ble_eq_true rfl)) dL_law_643 ⟨(by show _ ≤ 600086; omega), (by show _ ≤ 7301442; omega)⟩) hP hD hS hA (fun r_174 x_174 H locs hq_174 hP hD hS => ?_)
                          rw [hq_174.2] at hP hD
                          rw [hq_174.1.trans (ggv.told0 hk ja_k (v := 3) (by omega))]
                          have hnt_174 := nT_le M.2 (nI k) (nI 3) na
                          refine lv_goto (tgt := 650) hx hb dL_law_646 (by decide) ?_
                          refine lv_iadd hx hb dL_law_650 ?_
                          rw [show ((nI (((nT M.2 (nI k) (nI 0) na) + (nT M.2 (nI k) (nI 1) na)) + (nT M.2 (nI k) (nI 2) na))) + (nI (nT M.2 (nI k) (nI 3) na)) : Int32) = nI ((((nT M.2 (nI k) (nI 0) na) + (nT M.2 (nI k) (nI 1) na)) + (nT M.2 (nI k) (nI 2) na)) + (nT M.2 (nI k) (nI 3) na)) from nI_add (((nT M.2 (nI k) (nI 0) na) + (nT M.2 (nI k) (nI 1) na)) + (nT M.2 (nI k) (nI 2) na)) (nT M.2 (nI k) (nI 3) na)]
                          have hsp : 0 < (((nT M.2 (nI k) (nI 0) na) + (nT M.2 (nI k) (nI 1) na)) + (nT M.2 (nI k) (nI 2) na)) + (nT M.2 (nI k) (nI 3) na) := by rcases (show r9 = 0 ∨ r9 = 1 ∨ r9 = 2 ∨ r9 = 3 by omega) with rfl | rfl | rfl | rfl <;> omega
                          refine lv_if_ne (tgt := 658) hx hb dL_law_651 (by decide) (fun c_175 => ?_) (fun c_175 => ?_)
                          · replace c_175 : ¬ ((((nT M.2 (nI k) (nI 0) na) + (nT M.2 (nI k) (nI 1) na)) + (nT M.2 (nI k) (nI 2) na)) + (nT M.2 (nI k) (nI 3) na) = 0) := fun h9 => c_175 ((nI_eq (a := (((nT M.2 (nI k) (nI 0) na) + (nT M.2 (nI k) (nI 1) na)) + (nT M.2 (nI k) (nI 2) na)) + (nT M.2 (nI k) (nI 3) na)) (b := 0) (by omega) (by omega)).mpr h9)
                            refine lv_iconst (v := 0) hx hb dL_law_658 (by decide) ?_
                            refine lv_icmp_ne (tgt := 679) hx hb dL_law_659 (by decide) (fun _ => ?_) (fun c_176 => absurd c_176 (by decide))
                            exfalso; omega
                          · replace c_175 := (nI_eq (a := (((nT M.2 (nI k) (nI 0) na) + (nT M.2 (nI k) (nI 1) na)) + (nT M.2 (nI k) (nI 2) na)) + (nT M.2 (nI k) (nI 3) na)) (b := 0) (by omega) (by omega)).mp c_175
                            refine lv_iconst (v := 1) hx hb dL_law_654 (by decide) ?_
                            refine lv_goto (tgt := 659) hx hb dL_law_655 (by decide) ?_
                            refine lv_icmp_ne (tgt := 679) hx hb dL_law_659 (by decide) (fun c_177 => absurd c_177 (by decide)) (fun _ => ?_)
                            refine lv_aload_n hx hb dL_law_662 rfl (lv_at hl 7 rfl) ?_
                            refine lv_iload hx hb dL_law_663 (lv_at hl 3 rfl) ?_
                            refine lv_aload_n hx hb dL_law_665 rfl (lv_at hl 7 rfl) ?_
                            refine lv_iload hx hb dL_law_666 (lv_at hl 3 rfl) ?_
                            refine kn_i (va_runV (As := [.int (nI k)]) (rest := [.int (nI k), .ref x]) ⟨hx, hb, hml, hown, htT⟩ (c_share l D cA _ Y2 x ggv.c.hx ar ggv.c.q0 ak ggv.c.q1 ggv.c.kk ggv.c.R k q8_k a_k ja_k (nI k) sw_k) (cwV 1 htT (kg_V m_ml_L_86 m_im_X5_share m_sl_X5_share m_in_X5 m_cd_X5_share) rfl rfl rfl (by decide +kernel) ⟨Nat.le_of_ble_eq_true rfl, Nat.le_of_ble_eq_true rfl⟩) (kn_V hK hP hD hTB ggv.c.hx (Nat.le_of_ble_eq_true rfl) rfl) rfl rfl hl.1 rfl (lv_room (Nat.le_of_ble_eq_true rfl)) dL_law_668 ⟨(by show _ ≤ 600086; omega), (by show _ ≤ 7301442; omega)⟩) hP hD hS hA (fun r_178 x_178 H locs hq_178 hP hD hS => ?_)
                            rw [hq_178.2] at hP hD
                            rw [hq_178.1.trans ((ggv.far hk ja_k).trans es0)]
                            refine lv_bipush (v := 20) hx hb dL_law_671 (by decide) ?_
                            refine kn_i (va_runV (As := [.int (nI k), .int (nI s0), .int 20]) (rest := []) ⟨hx, hb, hml, hown, htT⟩ (c_wouldChangeX l D cA _ Y2 x ggv.c.hx ar ggv.c.q0 ak ggv.c.q1 ggv.c.kk ggv.c.R k q8_k a_k ja_k (nI k) sw_k (nI s0) (kOut_n (a := s0) (lo := 0) (hi := 1000) (by omega) (by omega) (by omega)) 20 (by decide) (by decide) (by decide) (fun u => (rBy M na ru k u).1) (by_eq ggv.l ggv.c hok ggv.y rfl rfl hk ja_k) (rNw M na ru k (nI s0)) (wc_eq ggv.l ggv.c hok ggv.y rfl rfl hk ja_k)) (cwV 3 htT (kg_V m_ml_L_95 m_im_X5_wouldChange m_sl_X5_wouldChange m_in_X5 m_cd_X5_wouldChange) rfl rfl rfl (by decide +kernel) ⟨Nat.le_of_ble_eq_true rfl, Nat.le_of_ble_eq_true rfl⟩) (kn_V hK hP hD hTB ggv.c.hx (Nat.le_of_ble_eq_true rfl) rfl) rfl rfl hl.1 rfl (lv_room (Nat.le_of_ble_eq_true rfl)) dL_law_673 ⟨(by show _ ≤ 600086; omega), (by show _ ≤ 7301442; omega)⟩) hP hD hS hA (fun r_179 x_179 H locs hq_179 hP hD hS => ?_)
                            have gg_179 : GG n na x_179 M x ar ak := ggv.eA hq_179.2
                            obtain ⟨a_k, ja_k⟩ := gg_179.c.row k (by omega)
                            have sw_k := gg_179.sw2 (by omega) ja_k
                            rw [hq_179.1.trans (would_0 es0)]
                            refine lv_if_eq (tgt := 681) hx hb dL_law_676 (by decide) (fun _ => ?_) (fun c_180 => absurd c_180 (by decide))
                            refine lv_iconst (v := 0) hx hb dL_law_681 (by decide) ?_
                            refine lv_istore (lv' := [(12, .int 0), (11, .int (nI r9)), (10, .int 20), (9, .int (nI (vcT M k))), (8, .int (nI k)), (7, .int (nI (aa + sumN (fun v => nT M.2 (nI k) (nI v) na) (vcT M k)))), (5, .long bq), (4, .int (nI sp)), (3, .ref x), (2, .ref d), (1, .int (nI ti)), (0, .ref b)]) hx hb dL_law_682 hl (by decide) rfl (fun ls hl => ?_)
                            refine kz_loopD 684 (fun N9 H locs ls => ∃ (i2 : Nat), N9 = (vcT M k) - i2 ∧ i2 ≤ (vcT M k) ∧ va_P D vwCl (PW cA U ++ PW cA x_179) H ∧ va_D A (PW cA U ++ PW cA x_179) ∧ va_S A s.heap H locs ∧ lv_has ls 16 [(12, .int (nI i2)), (11, .int (nI r9)), (9, .int (nI (vcT M k))), (8, .int (nI k)), (7, .int (nI (aa + sumN (fun v => nT M.2 (nI k) (nI v) na) (vcT M k)))), (5, .long bq), (4, .int (nI sp)), (3, .ref x), (2, .ref d), (1, .int (nI ti)), (0, .ref b)]) (fun N9 ih_684 H locs ls e_684 hd0 hI => ?_) hd0 ⟨0, rfl, Nat.zero_le _, hP, hD, hS, lv_sub hl [0, 1, 3, 4, 5, 6, 7, 8, 9, 10, 11] rfl⟩
                            obtain ⟨i2, hn9, hi29, hP, hD, hS, hl⟩ := hI
                            have htT : ∀ w ∈ TT, w.before _ (s.setDrawn e_684) = true := dr_words htT0 e_684
                            have hTB : TBok (s.setDrawn e_684) := TBok.same (u := s) (U := s.setDrawn e_684) rfl (Vm.Alike.refl s.vm) hTB0
                            have hK : va_K D vwCl (ty6 cA) (s.setDrawn e_684) := hK0
                            have hown : (s.setDrawn e_684).vm.findClass RL = some m.cls := hown0
                            have hTX : TXok A (s.setDrawn e_684) := hTX0.dr e_684
                            have hX : va_X b L xs (s.setDrawn e_684) (s.setDrawn e_684).heap := hX0
                            have hAO : va_AOA .int (s.setDrawn e_684) ∧ va_AOA (.array .int) (s.setDrawn e_684) := ⟨va_AOA.moved (u := s) (U := s.setDrawn e_684) (Vm.Alike.refl s.vm) hAO0.1, va_AOA.moved (u := s) (U := s.setDrawn e_684) (Vm.Alike.refl s.vm) hAO0.2⟩
                            refine lv_iload hx hb dL_law_684 (lv_at hl 0 rfl) ?_
                            refine lv_iload hx hb dL_law_686 (lv_at hl 2 rfl) ?_
                            refine lv_icmp_ge (tgt := 736) hx hb dL_law_688 (by decide) (fun c_181 => ?_) (fun c_181 => ?_)
                            · replace c_181 := (nI_leI (a := vcT M k) (b := i2) (by omega) (by omega)).mp c_181
                              exact hcut736 H locs _ e_684 hd0 ⟨x_179, gg_179, hP, hD, hS, lv_sub hl [2, 3, 4, 5, 6, 7, 8, 9, 10] rfl⟩
                            · replace c_181 : ¬ (vcT M k ≤ i2) := fun h9 => c_181 ((nI_leI (a := vcT M k) (b := i2) (by omega) (by omega)).mpr h9)
                              refine lv_iload hx hb dL_law_691 (lv_at hl 1 rfl) ?_
                              refine lv_if_lt (tgt := 736) hx hb dL_law_693 (by decide) (fun c_182 => ?_) (fun c_182 => ?_)
                              · replace c_182 := (nI_ltI (a := r9) (b := 0) (by omega) (by omega)).mp c_182
                                exact hcut736 H locs _ e_684 hd0 ⟨x_179, gg_179, hP, hD, hS, lv_sub hl [2, 3, 4, 5, 6, 7, 8, 9, 10] rfl⟩
                              · replace c_182 : ¬ (r9 < 0) := fun h9 => c_182 ((nI_ltI (a := r9) (b := 0) (by omega) (by omega)).mpr h9)
                                refine lv_aload_n hx hb dL_law_696 rfl (lv_at hl 7 rfl) ?_
                                refine lv_iload hx hb dL_law_697 (lv_at hl 3 rfl) ?_
                                refine lv_iload hx hb dL_law_699 (lv_at hl 0 rfl) ?_
                                refine lv_iconst (v := 0) hx hb dL_law_701 (by decide) ?_
                                refine kn_i (va_runV (As := [.int (nI k), .int (nI i2), .int 0]) (rest := []) ⟨hx, hb, hml, hown, htT⟩ (c_toldX l D cA _ x_179 x gg_179.c.hx ar gg_179.c.q0 ak gg_179.c.q1 gg_179.c.kk gg_179.c.R k q8_k a_k ja_k (nI k) sw_k (nI i2) (gg_179.vko hk ja_k evc (v := i2) (by omega) hvc4) 0 (by decide)) (cwV 3 htT (kg_V m_ml_L_70 m_im_X5_told m_sl_X5_told m_in_X5 m_cd_X5_told) rfl rfl rfl (by decide +kernel) ⟨Nat.le_of_ble_eq_true rfl, Nat.le_of_ble_eq_true rfl⟩) (kn_V hK hP hD hTB gg_179.c.hx (Nat.le_of_ble_eq_true rfl) rfl) rfl rfl hl.1 rfl (lv_room (Nat.le_of_ble_eq_true rfl)) dL_law_702 ⟨(by show _ ≤ 600086; omega), (by show _ ≤ 7301442; omega)⟩) hP hD hS hA (fun r_183 x_183 H locs hq_183 hP hD hS => ?_)
                                rw [hq_183.2] at hP hD
                                rw [hq_183.1.trans (gg_179.told0 hk ja_k (v := i2) (by omega))]
                                have hnt_183 := nT_le M.2 (nI k) (nI i2) na
                                refine lv_if_le (tgt := 730) hx hb dL_law_705 (by decide) (fun c_184 => ?_) (fun c_184 => ?_)
                                · replace c_184 := (nI_leI (a := nT M.2 (nI k) (nI i2) na) (b := 0) (by omega) (by omega)).mp c_184
                                  refine lv_iinc (v := nI (i2 + 1)) (lv' := [(12, .int (nI (i2 + 1))), (11, .int (nI r9)), (9, .int (nI (vcT M k))), (8, .int (nI k)), (7, .int (nI (aa + sumN (fun v => nT M.2 (nI k) (nI v) na) (vcT M k)))), (5, .long bq), (4, .int (nI sp)), (3, .ref x), (2, .ref d), (1, .int (nI ti)), (0, .ref b)]) hx hb dL_law_730 hl (k := 0) rfl (nI_1 _) (by decide) rfl (fun ls hl => ?_)
                                  refine lv_goto (tgt := 684) hx hb dL_law_733 (by decide) ?_
                                  have hl := lv_sub hl [0, 1, 2, 3, 4, 5, 6, 7, 8, 9, 10] rfl
                                  exact ih_684 _ (by omega) H locs ls e_684 hd0 ⟨i2 + 1, rfl, (by omega), hP, hD, hS, hl⟩
                                · replace c_184 : ¬ (nT M.2 (nI k) (nI i2) na ≤ 0) := fun h9 => c_184 ((nI_leI (a := nT M.2 (nI k) (nI i2) na) (b := 0) (by omega) (by omega)).mpr h9)
                                  refine lv_aload_n hx hb dL_law_708 rfl (lv_at hl 7 rfl) ?_
                                  refine lv_iload hx hb dL_law_709 (lv_at hl 3 rfl) ?_
                                  refine lv_iload hx hb dL_law_711 (lv_at hl 0 rfl) ?_
                                  refine kjD_d hd0 List.perm_append_comm (va_runV_D (As := [.int (nI k), .int (nI i2)]) (rest := []) ⟨hx, hb, hml, hown, htT⟩ (c_meanX l D cA _ x_179 x gg_179.c.hx ar gg_179.c.q0 ak gg_179.c.q1 gg_179.c.kk gg_179.c.R k q8_k a_k ja_k (nI k) sw_k (nI i2) (gg_179.vko hk ja_k evc (v := i2) (by omega) hvc4)) (cwV 2 htT (kg_V m_ml_L_73 m_im_X5_mean m_sl_X5_mean m_in_X5 m_cd_X5_mean) rfl rfl rfl (by decide +kernel) ⟨Nat.le_of_ble_eq_true rfl, Nat.le_of_ble_eq_true rfl⟩) (kn_V hK hP hD hTB gg_179.c.hx (Nat.le_of_ble_eq_true rfl) rfl) rfl rfl hl.1 rfl (lv_room (Nat.le_of_ble_eq_true rfl)) dL_law_713 ⟨(by show _ ≤ 600086; omega), (by show _ ≤ 7301442; omega)⟩) hP hD hS hA (fun r_185 x_185 H locs hq_185 hP hD hS d_185 hd0 => ?_)
                                  replace hP := kj_P List.perm_append_comm hP
                                  replace hD := kj_D List.perm_append_comm hD
                                  have htT : ∀ w ∈ TT, w.before _ (s.setDrawn d_185) = true := dr_words htT0 d_185
                                  have hTB : TBok (s.setDrawn d_185) := TBok.same (u := s) (U := s.setDrawn d_185) rfl (Vm.Alike.refl s.vm) hTB0
                                  have hK : va_K D vwCl (ty6 cA) (s.setDrawn d_185) := hK0
                                  have hown : (s.setDrawn d_185).vm.findClass RL = some m.cls := hown0
                                  have hTX : TXok A (s.setDrawn d_185) := hTX0.dr d_185
                                  have hX : va_X b L xs (s.setDrawn d_185) (s.setDrawn d_185).heap := hX0
                                  have hAO : va_AOA .int (s.setDrawn d_185) ∧ va_AOA (.array .int) (s.setDrawn d_185) := ⟨va_AOA.moved (u := s) (U := s.setDrawn d_185) (Vm.Alike.refl s.vm) hAO0.1, va_AOA.moved (u := s) (U := s.setDrawn d_185) (Vm.Alike.refl s.vm) hAO0.2⟩
                                  rw [hq_185.2] at hP hD
                                  have hm_185 : r_185 = kMn M na k i2 := gg_179.mean hk ja_k (v := i2) (by omega) hq_185.1
                                  subst hm_185
                                  refine lv_aload_n hx hb dL_law_716 rfl (lv_at hl 7 rfl) ?_
                                  refine lv_iload hx hb dL_law_717 (lv_at hl 3 rfl) ?_
                                  refine lv_iload hx hb dL_law_719 (lv_at hl 1 rfl) ?_
                                  refine kjD_d hd0 List.perm_append_comm (va_runV_D (As := [.int (nI k), .int (nI r9)]) (rest := [.double (kMn M na k i2)]) ⟨hx, hb, hml, hown, htT⟩ (c_meanX l D cA _ x_179 x gg_179.c.hx ar gg_179.c.q0 ak gg_179.c.q1 gg_179.c.kk gg_179.c.R k q8_k a_k ja_k (nI k) sw_k (nI r9) (gg_179.vko hk ja_k evc (v := r9) (by omega) hvc4)) (cwV 2 htT (kg_V m_ml_L_73 m_im_X5_mean m_sl_X5_mean m_in_X5 m_cd_X5_mean) rfl rfl rfl (by decide +kernel) ⟨Nat.le_of_ble_eq_true rfl, Nat.le_of_ble_eq_true rfl⟩) (kn_V hK hP hD hTB gg_179.c.hx (Nat.le_of_ble_eq_true rfl) rfl) rfl rfl hl.1 rfl (lv_room (Nat.le_of_ble_eq_true rfl)) dL_law_721 ⟨(by show _ ≤ 600086; omega), (by show _ ≤ 7301442; omega)⟩) hP hD hS hA (fun r_186 x_186 H locs hq_186 hP hD hS d_186 hd0 => ?_)
                                  replace hP := kj_P List.perm_append_comm hP
                                  replace hD := kj_D List.perm_append_comm hD
                                  have htT : ∀ w ∈ TT, w.before _ (s.setDrawn d_186) = true := dr_words htT0 d_186
                                  have hTB : TBok (s.setDrawn d_186) := TBok.same (u := s) (U := s.setDrawn d_186) rfl (Vm.Alike.refl s.vm) hTB0
                                  have hK : va_K D vwCl (ty6 cA) (s.setDrawn d_186) := hK0
                                  have hown : (s.setDrawn d_186).vm.findClass RL = some m.cls := hown0
                                  have hTX : TXok A (s.setDrawn d_186) := hTX0.dr d_186
                                  have hX : va_X b L xs (s.setDrawn d_186) (s.setDrawn d_186).heap := hX0
                                  have hAO : va_AOA .int (s.setDrawn d_186) ∧ va_AOA (.array .int) (s.setDrawn d_186) := ⟨va_AOA.moved (u := s) (U := s.setDrawn d_186) (Vm.Alike.refl s.vm) hAO0.1, va_AOA.moved (u := s) (U := s.setDrawn d_186) (Vm.Alike.refl s.vm) hAO0.2⟩
                                  rw [hq_186.2] at hP hD
                                  have hm_186 : r_186 = kMn M na k r9 := gg_179.mean hk ja_k (v := r9) (by omega) hq_186.1
                                  subst hm_186
                                  refine lv_dcmp hx hb dL_law_724 ?_
                                  refine lv_if_le (tgt := 730) hx hb dL_law_725 (by decide) (fun c_188 => ?_) (fun c_188 => ?_)
                                  · refine lv_iinc (v := nI (i2 + 1)) (lv' := [(12, .int (nI (i2 + 1))), (11, .int (nI r9)), (9, .int (nI (vcT M k))), (8, .int (nI k)), (7, .int (nI (aa + sumN (fun v => nT M.2 (nI k) (nI v) na) (vcT M k)))), (5, .long bq), (4, .int (nI sp)), (3, .ref x), (2, .ref d), (1, .int (nI ti)), (0, .ref b)]) hx hb dL_law_730 hl (k := 0) rfl (nI_1 _) (by decide) rfl (fun ls hl => ?_)
                                    refine lv_goto (tgt := 684) hx hb dL_law_733 (by decide) ?_
                                    have hl := lv_sub hl [0, 1, 2, 3, 4, 5, 6, 7, 8, 9, 10] rfl
                                    exact ih_684 _ (by omega) H locs ls d_186 hd0 ⟨i2 + 1, rfl, (by omega), hP, hD, hS, hl⟩
                                  · exact absurd (Int32.not_le.mp c_188) (cm_le (best_cmp (hmax i2 (by omega) (by omega))))
                · obtain ⟨Z9, ggz, hP, hD, hS, hl⟩ := hI
                  have htT : ∀ w ∈ TT, w.before _ (s.setDrawn f9736) = true := dr_words htT0 f9736
                  have hTB : TBok (s.setDrawn f9736) := TBok.same (u := s) (U := s.setDrawn f9736) rfl (Vm.Alike.refl s.vm) hTB0
                  have hK : va_K D vwCl (ty6 cA) (s.setDrawn f9736) := hK0
                  have hown : (s.setDrawn f9736).vm.findClass RL = some m.cls := hown0
                  have hTX : TXok A (s.setDrawn f9736) := hTX0.dr f9736
                  have hX : va_X b L xs (s.setDrawn f9736) (s.setDrawn f9736).heap := hX0
                  have hAO : va_AOA .int (s.setDrawn f9736) ∧ va_AOA (.array .int) (s.setDrawn f9736) := ⟨va_AOA.moved (u := s) (U := s.setDrawn f9736) (Vm.Alike.refl s.vm) hAO0.1, va_AOA.moved (u := s) (U := s.setDrawn f9736) (Vm.Alike.refl s.vm) hAO0.2⟩
                  obtain ⟨a_k, ja_k⟩ := ggz.c.row k (by omega)
                  have sw_k := ggz.sw2 (by omega) ja_k
                  refine lv_aload_n hx hb dL_law_736 rfl (lv_at hl 6 rfl) ?_
                  refine lv_aload_n hx hb dL_law_737 rfl (lv_at hl 6 rfl) ?_
                  refine kd_getiv (x := nI n) hx hb htT m_u_X6 hown hK hP dku.o rfl 5 (by decide) (by decide) rfl (htT _ m_fl_L_37) ((dku.f 5).trans ((show _ = fu 5 from rfl).trans hvmu.f5)) dL_law_738 ?_
                  refine kc_i (va_runV (As := [.int (nI n)]) (rest := []) ⟨hx, hb, hml, hown, htT⟩ (d_draw l D cA _ (PW cA Z9) b L xs hL U d x Ad n na fu fO fW fC fR fB dku (ru9) hvmu.f2 (by omega) (n) (by omega) (by omega)) (cwV 1 htT (kg_V m_ml_L_45 m_im_X6_draw m_sl_X6_draw m_in_X6 m_cd_X6_draw) rfl rfl rfl (by decide +kernel) ⟨Nat.le_of_ble_eq_true rfl, Nat.le_of_ble_eq_true rfl⟩) (kpe_V hK hP hD hTB hTX hX hbl hbA hAO hS hA (kpe_rc hK hP dku.o rfl)) rfl rfl hl.1 rfl (lv_room (Nat.le_of_ble_eq_true rfl)) dL_law_741 ⟨(by show _ ≤ 600086; omega), (by show _ ≤ 7301442; omega)⟩) hD hS hA (fun r_189 x_189 H locs hq_189 hP hD hS => ?_)
                  obtain ⟨⟨o, ho, hr_189⟩, ht_189⟩ := hq_189
                  rw [hr_189]
                  rw [ht_189] at hP hD
                  have dk_190 : DK (pI U d 2 (nI (ru9 + 1))) d x b Ad (n, na, (upd fu 2 (nI (ru9 + 1))), fO, fW, fC, fR, fB) := dku.num
                  obtain ⟨a_o, ja_o⟩ := ggz.c.row o (by omega)
                  have sw_o := ggz.sw2 (by omega) ja_o
                  have q8_o : o < 8 := by omega
                  obtain ⟨p0, q0, hpq, hq20, ep0, eq0⟩ := rBo_le (fun u => (rBy M na ru k u).2) (fun u => (rBy M na ru o u).2)
                  refine lv_istore (lv' := [(12, .int (nI o)), (9, .int (nI (vcT M k))), (8, .int (nI k)), (7, .int (nI (aa + sumN (fun v => nT M.2 (nI k) (nI v) na) (vcT M k)))), (5, .long bq), (4, .int (nI sp)), (3, .ref x), (2, .ref d), (1, .int (nI ti)), (0, .ref b)]) hx hb dL_law_744 hl (by decide) rfl (fun ls hl => ?_)
                  refine lv_aload_n hx hb dL_law_746 rfl (lv_at hl 6 rfl) ?_
                  refine lv_iload hx hb dL_law_747 (lv_at hl 2 rfl) ?_
                  refine lv_iload hx hb dL_law_749 (lv_at hl 0 rfl) ?_
                  refine lv_bipush (v := 20) hx hb dL_law_751 (by decide) ?_
                  refine kn_i (va_runV (As := [.int (nI k), .int (nI o), .int 20]) (rest := []) ⟨hx, hb, hml, hown, htT⟩ (c_bothX l D cA _ Z9 x ggz.c.hx ar ggz.c.q0 ak ggz.c.q1 ggz.c.kk ggz.c.R k q8_k a_k ja_k (nI k) sw_k o q8_o a_o ja_o (nI o) sw_o 20 (by decide) (by decide) (by decide) (fun u => (rBy M na ru k u).2) (fun u => (rBy M na ru o u).2) (by_why ggz.l ggz.c hok ggz.y rfl rfl hk ja_k) (by_why ggz.l ggz.c hok ggz.y rfl rfl (show o < n by omega) ja_o)) (cwV 3 htT (kg_V m_ml_L_98 m_im_X5_both m_sl_X5_both m_in_X5 m_cd_X5_both) rfl rfl rfl (by decide +kernel) ⟨Nat.le_of_ble_eq_true rfl, Nat.le_of_ble_eq_true rfl⟩) (kn_V hK hP hD hTB ggz.c.hx (Nat.le_of_ble_eq_true rfl) rfl) rfl rfl hl.1 rfl (lv_room (Nat.le_of_ble_eq_true rfl)) dL_law_753 ⟨(by show _ ≤ 600086; omega), (by show _ ≤ 7301442; omega)⟩) hP hD hS hA (fun r_191 x_191 H locs hq_191 hP hD hS => ?_)
                  have gg_191 : GG n na x_191 M x ar ak := ggz.eA hq_191.2
                  obtain ⟨a_k, ja_k⟩ := gg_191.c.row k (by omega)
                  have sw_k := gg_191.sw2 (by omega) ja_k
                  obtain ⟨a_o, ja_o⟩ := gg_191.c.row o (by omega)
                  have sw_o := gg_191.sw2 (by omega) ja_o
                  rw [hq_191.1.trans ep0]
                  refine lv_aload_n hx hb dL_law_756 rfl (lv_at hl 6 rfl) ?_
                  refine lv_iload hx hb dL_law_757 (lv_at hl 0 rfl) ?_
                  refine lv_iload hx hb dL_law_759 (lv_at hl 2 rfl) ?_
                  refine lv_bipush (v := 20) hx hb dL_law_761 (by decide) ?_
                  refine kn_i (va_runV (As := [.int (nI o), .int (nI k), .int 20]) (rest := [.int (nI p0)]) ⟨hx, hb, hml, hown, htT⟩ (c_bothX l D cA _ x_191 x gg_191.c.hx ar gg_191.c.q0 ak gg_191.c.q1 gg_191.c.kk gg_191.c.R o q8_o a_o ja_o (nI o) sw_o k q8_k a_k ja_k (nI k) sw_k 20 (by decide) (by decide) (by decide) (fun u => (rBy M na ru o u).2) (fun u => (rBy M na ru k u).2) (by_why gg_191.l gg_191.c hok gg_191.y rfl rfl (show o < n by omega) ja_o) (by_why gg_191.l gg_191.c hok gg_191.y rfl rfl hk ja_k)) (cwV 3 htT (kg_V m_ml_L_98 m_im_X5_both m_sl_X5_both m_in_X5 m_cd_X5_both) rfl rfl rfl (by decide +kernel) ⟨Nat.le_of_ble_eq_true rfl, Nat.le_of_ble_eq_true rfl⟩) (kn_V hK hP hD hTB gg_191.c.hx (Nat.le_of_ble_eq_true rfl) rfl) rfl rfl hl.1 rfl (lv_room (Nat.le_of_ble_eq_true rfl)) dL_law_763 ⟨(by show _ ≤ 600086; omega), (by show _ ≤ 7301442; omega)⟩) hP hD hS hA (fun r_192 x_192 H locs hq_192 hP hD hS => ?_)
                  have gg_192 : GG n na x_192 M x ar ak := gg_191.eA hq_192.2
                  obtain ⟨a_k, ja_k⟩ := gg_192.c.row k (by omega)
                  have sw_k := gg_192.sw2 (by omega) ja_k
                  obtain ⟨a_o, ja_o⟩ := gg_192.c.row o (by omega)
                  have sw_o := gg_192.sw2 (by omega) ja_o
                  rw [hq_192.1.trans ((rBo_sym (fun u => (rBy M na ru o u).2) (fun u => (rBy M na ru k u).2)).trans ep0)]
                  refine lv_icmp_ne (tgt := 792) hx hb dL_law_766 (by decide) (fun c_193 => ?_) (fun c_193 => ?_)
                  · exact absurd rfl c_193
                  · refine lv_aload_n hx hb dL_law_769 rfl (lv_at hl 6 rfl) ?_
                    refine lv_iload hx hb dL_law_770 (lv_at hl 2 rfl) ?_
                    refine lv_iload hx hb dL_law_772 (lv_at hl 0 rfl) ?_
                    refine lv_bipush (v := 20) hx hb dL_law_774 (by decide) ?_
                    refine kn_i (va_runV (As := [.int (nI k), .int (nI o), .int 20]) (rest := []) ⟨hx, hb, hml, hown, htT⟩ (c_bothX l D cA _ x_192 x gg_192.c.hx ar gg_192.c.q0 ak gg_192.c.q1 gg_192.c.kk gg_192.c.R k q8_k a_k ja_k (nI k) sw_k o q8_o a_o ja_o (nI o) sw_o 20 (by decide) (by decide) (by decide) (fun u => (rBy M na ru k u).2) (fun u => (rBy M na ru o u).2) (by_why gg_192.l gg_192.c hok gg_192.y rfl rfl hk ja_k) (by_why gg_192.l gg_192.c hok gg_192.y rfl rfl (show o < n by omega) ja_o)) (cwV 3 htT (kg_V m_ml_L_98 m_im_X5_both m_sl_X5_both m_in_X5 m_cd_X5_both) rfl rfl rfl (by decide +kernel) ⟨Nat.le_of_ble_eq_true rfl, Nat.le_of_ble_eq_true rfl⟩) (kn_V hK hP hD hTB gg_192.c.hx (Nat.le_of_ble_eq_true rfl) rfl) rfl rfl hl.1 rfl (lv_room (Nat.le_of_ble_eq_true rfl)) dL_law_776 ⟨(by show _ ≤ 600086; omega), (by show _ ≤ 7301442; omega)⟩) hP hD hS hA (fun r_194 x_194 H locs hq_194 hP hD hS => ?_)
                    have gg_194 : GG n na x_194 M x ar ak := gg_192.eA hq_194.2
                    obtain ⟨a_k, ja_k⟩ := gg_194.c.row k (by omega)
                    have sw_k := gg_194.sw2 (by omega) ja_k
                    obtain ⟨a_o, ja_o⟩ := gg_194.c.row o (by omega)
                    have sw_o := gg_194.sw2 (by omega) ja_o
                    rw [hq_194.1.trans ep0]
                    refine lv_aload_n hx hb dL_law_779 rfl (lv_at hl 6 rfl) ?_
                    refine lv_iload hx hb dL_law_780 (lv_at hl 2 rfl) ?_
                    refine lv_iload hx hb dL_law_782 (lv_at hl 2 rfl) ?_
                    refine lv_bipush (v := 20) hx hb dL_law_784 (by decide) ?_
                    refine kn_i (va_runV (As := [.int (nI k), .int (nI k), .int 20]) (rest := [.int (nI p0)]) ⟨hx, hb, hml, hown, htT⟩ (c_bothX l D cA _ x_194 x gg_194.c.hx ar gg_194.c.q0 ak gg_194.c.q1 gg_194.c.kk gg_194.c.R k q8_k a_k ja_k (nI k) sw_k k q8_k a_k ja_k (nI k) sw_k 20 (by decide) (by decide) (by decide) (fun u => (rBy M na ru k u).2) (fun u => (rBy M na ru k u).2) (by_why gg_194.l gg_194.c hok gg_194.y rfl rfl hk ja_k) (by_why gg_194.l gg_194.c hok gg_194.y rfl rfl hk ja_k)) (cwV 3 htT (kg_V m_ml_L_98 m_im_X5_both m_sl_X5_both m_in_X5 m_cd_X5_both) rfl rfl rfl (by decide +kernel) ⟨Nat.le_of_ble_eq_true rfl, Nat.le_of_ble_eq_true rfl⟩) (kn_V hK hP hD hTB gg_194.c.hx (Nat.le_of_ble_eq_true rfl) rfl) rfl rfl hl.1 rfl (lv_room (Nat.le_of_ble_eq_true rfl)) dL_law_786 ⟨(by show _ ≤ 600086; omega), (by show _ ≤ 7301442; omega)⟩) hP hD hS hA (fun r_195 x_195 H locs hq_195 hP hD hS => ?_)
                    have gg_195 : GG n na x_195 M x ar ak := gg_194.eA hq_195.2
                    obtain ⟨a_k, ja_k⟩ := gg_195.c.row k (by omega)
                    have sw_k := gg_195.sw2 (by omega) ja_k
                    obtain ⟨a_o, ja_o⟩ := gg_195.c.row o (by omega)
                    have sw_o := gg_195.sw2 (by omega) ja_o
                    rw [hq_195.1.trans eq0]
                    refine lv_icmp_le (tgt := 794) hx hb dL_law_789 (by decide) (fun c_196 => ?_) (fun c_196 => ?_)
                    · replace c_196 := (nI_leI (a := p0) (b := q0) (by omega) (by omega)).mp c_196
                      refine lv_iload hx hb dL_law_794 (lv_at hl 0 rfl) ?_
                      refine lv_iload hx hb dL_law_796 (lv_at hl 2 rfl) ?_
                      refine lv_icmp_eq (tgt := 852) hx hb dL_law_798 (by decide) (fun c_197 => ?_) (fun c_197 => ?_)
                      · replace c_197 := (nI_eq (a := o) (b := k) (by omega) (by omega)).mp c_197
                        exact hnext (pI U d 2 (nI (ru9 + 1))) x_195 (upd fu 2 (nI (ru9 + 1))) (ru9 + 1) H locs _ f9736 hd0 (by omega) dk_190 (hvmu.draw (d2 := ru9 + 1)) gg_195 hP hD hS (lv_sub hl [2, 3, 4, 5, 6, 7, 8, 9] rfl)
                      · replace c_197 : ¬ (o = k) := fun h9 => c_197 ((nI_eq (a := o) (b := k) (by omega) (by omega)).mpr h9)
                        rcases (hM.2.2.1.1 k hk).1 with e12 | ⟨z12, hz12, e12⟩
                        · refine lv_aload_n hx hb dL_law_801 rfl (lv_at hl 7 rfl) ?_
                          refine kd_gets (r := (aO Ad)) hx hb htT m_u_X6 hown hK hP dk_190.o rfl 6 (by decide) (by decide) rfl dk_190.q6 (htT _ m_fl_L_41) dL_law_802 ?_
                          refine lv_iload hx hb dL_law_805 (lv_at hl 2 rfl) ?_
                          refine ky_alda (r := some (aOk Ad k)) hx hb hK hP dk_190.ao (show vp_in (nI (k)) 8 from ki_in (by omega) (by omega)) ((congrArg _ (ki_cl (n := k) (by omega))).trans (dk_190.op (k := k) (show k < n by omega))) dL_law_807 ?_
                          refine lv_bipush (v := 7) hx hb dL_law_808 (by decide) ?_
                          refine kx_ialdv (x := -1) hx hb hK (kmy_P hP) (dk_190.oa (k := k) (show k < n by omega)) (Nat.le_of_ble_eq_true rfl) (Nat.le_of_ble_eq_true rfl) (show vp_in 7 12 from ki_in (n := 7) (by omega) (by omega)) ((congrArg _ (ki_cl (n := 7) (by omega))).trans ((dk_190.ov (k := k) (j := 7) (show k < n by omega) (show 7 < 12 by omega)).trans (((hvmu.o hk (q := (7, 12)) (by decide)).trans e12)))) dL_law_810 ?_
                          refine lv_if_lt (tgt := 852) hx hb dL_law_811 (by decide) (fun _ => ?_) (fun c_198 => absurd c_198 (by decide))
                          exact hnext (pI U d 2 (nI (ru9 + 1))) x_195 (upd fu 2 (nI (ru9 + 1))) (ru9 + 1) H locs _ f9736 hd0 (by omega) dk_190 (hvmu.draw (d2 := ru9 + 1)) gg_195 hP hD hS (lv_sub hl [2, 3, 4, 5, 6, 7, 8, 9] rfl)
                        · have hlay : M.2 12 k ≠ -1 := fun h9 => nI_m1 (a := z12) (by omega) (e12.symm.trans h9)
                          refine lv_aload_n hx hb dL_law_801 rfl (lv_at hl 7 rfl) ?_
                          refine kd_gets (r := (aO Ad)) hx hb htT m_u_X6 hown hK hP dk_190.o rfl 6 (by decide) (by decide) rfl dk_190.q6 (htT _ m_fl_L_41) dL_law_802 ?_
                          refine lv_iload hx hb dL_law_805 (lv_at hl 2 rfl) ?_
                          refine ky_alda (r := some (aOk Ad k)) hx hb hK hP dk_190.ao (show vp_in (nI (k)) 8 from ki_in (by omega) (by omega)) ((congrArg _ (ki_cl (n := k) (by omega))).trans (dk_190.op (k := k) (show k < n by omega))) dL_law_807 ?_
                          refine lv_bipush (v := 7) hx hb dL_law_808 (by decide) ?_
                          refine kx_ialdv (x := nI z12) hx hb hK (kmy_P hP) (dk_190.oa (k := k) (show k < n by omega)) (Nat.le_of_ble_eq_true rfl) (Nat.le_of_ble_eq_true rfl) (show vp_in 7 12 from ki_in (n := 7) (by omega) (by omega)) ((congrArg _ (ki_cl (n := 7) (by omega))).trans ((dk_190.ov (k := k) (j := 7) (show k < n by omega) (show 7 < 12 by omega)).trans (((hvmu.o hk (q := (7, 12)) (by decide)).trans e12)))) dL_law_810 ?_
                          refine lv_if_lt (tgt := 852) hx hb dL_law_811 (by decide) (fun c_199 => ?_) (fun c_199 => ?_)
                          · replace c_199 := (nI_ltI (a := z12) (b := 0) (by omega) (by omega)).mp c_199
                            exact hnext (pI U d 2 (nI (ru9 + 1))) x_195 (upd fu 2 (nI (ru9 + 1))) (ru9 + 1) H locs _ f9736 hd0 (by omega) dk_190 (hvmu.draw (d2 := ru9 + 1)) gg_195 hP hD hS (lv_sub hl [2, 3, 4, 5, 6, 7, 8, 9] rfl)
                          · replace c_199 : ¬ (z12 < 0) := fun h9 => c_199 ((nI_ltI (a := z12) (b := 0) (by omega) (by omega)).mpr h9)
                            refine lv_aload_n hx hb dL_law_814 rfl (lv_at hl 7 rfl) ?_
                            refine kd_gets (r := (aO Ad)) hx hb htT m_u_X6 hown hK hP dk_190.o rfl 6 (by decide) (by decide) rfl dk_190.q6 (htT _ m_fl_L_41) dL_law_815 ?_
                            refine lv_iload hx hb dL_law_818 (lv_at hl 0 rfl) ?_
                            refine ky_alda (r := some (aOk Ad o)) hx hb hK hP dk_190.ao (show vp_in (nI (o)) 8 from ki_in (by omega) (by omega)) ((congrArg _ (ki_cl (n := o) (by omega))).trans (dk_190.op (k := o) (show o < n by omega))) dL_law_820 ?_
                            refine lv_bipush (v := 7) hx hb dL_law_821 (by decide) ?_
                            refine kx_ialdv (x := M.2 12 o) hx hb hK (kmy_P hP) (dk_190.oa (k := o) (show o < n by omega)) (Nat.le_of_ble_eq_true rfl) (Nat.le_of_ble_eq_true rfl) (show vp_in 7 12 from ki_in (n := 7) (by omega) (by omega)) ((congrArg _ (ki_cl (n := 7) (by omega))).trans ((dk_190.ov (k := o) (j := 7) (show o < n by omega) (show 7 < 12 by omega)).trans ((hvmu.o (show o < n by omega) (q := (7, 12)) (by decide))))) dL_law_823 ?_
                            refine lv_aload_n hx hb dL_law_824 rfl (lv_at hl 7 rfl) ?_
                            refine kd_gets (r := (aO Ad)) hx hb htT m_u_X6 hown hK hP dk_190.o rfl 6 (by decide) (by decide) rfl dk_190.q6 (htT _ m_fl_L_41) dL_law_825 ?_
                            refine lv_iload hx hb dL_law_828 (lv_at hl 2 rfl) ?_
                            refine ky_alda (r := some (aOk Ad k)) hx hb hK hP dk_190.ao (show vp_in (nI (k)) 8 from ki_in (by omega) (by omega)) ((congrArg _ (ki_cl (n := k) (by omega))).trans (dk_190.op (k := k) (show k < n by omega))) dL_law_830 ?_
                            refine lv_bipush (v := 7) hx hb dL_law_831 (by decide) ?_
                            refine kx_ialdv (x := nI z12) hx hb hK (kmy_P hP) (dk_190.oa (k := k) (show k < n by omega)) (Nat.le_of_ble_eq_true rfl) (Nat.le_of_ble_eq_true rfl) (show vp_in 7 12 from ki_in (n := 7) (by omega) (by omega)) ((congrArg _ (ki_cl (n := 7) (by omega))).trans ((dk_190.ov (k := k) (j := 7) (show k < n by omega) (show 7 < 12 by omega)).trans (((hvmu.o hk (q := (7, 12)) (by decide)).trans e12)))) dL_law_833 ?_
                            refine lv_icmp_ne (tgt := 852) hx hb dL_law_834 (by decide) (fun c_200 => ?_) (fun c_200 => ?_)
                            · exact hnext (pI U d 2 (nI (ru9 + 1))) x_195 (upd fu 2 (nI (ru9 + 1))) (ru9 + 1) H locs _ f9736 hd0 (by omega) dk_190 (hvmu.draw (d2 := ru9 + 1)) gg_195 hP hD hS (lv_sub hl [2, 3, 4, 5, 6, 7, 8, 9] rfl)
                            · have hsame : M.2 12 o = M.2 12 k := by rw [e12]; exact c_200
                              refine lv_aload_n hx hb dL_law_837 rfl (lv_at hl 6 rfl) ?_
                              refine lv_iload hx hb dL_law_838 (lv_at hl 2 rfl) ?_
                              refine lv_iload hx hb dL_law_840 (lv_at hl 0 rfl) ?_
                              refine lv_bipush (v := 20) hx hb dL_law_842 (by decide) ?_
                              have hb0 : rBo (fun u => (rBy M na ru k u).2) (fun u => (rBy M na ru o u).2) = 0 := rBo_0 (by_apart gg_195 hM hok hk (o := o) (by omega) (by omega) hlay hsame)
                              refine kn_i (va_runV (As := [.int (nI k), .int (nI o), .int 20]) (rest := []) ⟨hx, hb, hml, hown, htT⟩ (c_bothX l D cA _ x_195 x gg_195.c.hx ar gg_195.c.q0 ak gg_195.c.q1 gg_195.c.kk gg_195.c.R k q8_k a_k ja_k (nI k) sw_k o q8_o a_o ja_o (nI o) sw_o 20 (by decide) (by decide) (by decide) (fun u => (rBy M na ru k u).2) (fun u => (rBy M na ru o u).2) (by_why gg_195.l gg_195.c hok gg_195.y rfl rfl hk ja_k) (by_why gg_195.l gg_195.c hok gg_195.y rfl rfl (show o < n by omega) ja_o)) (cwV 3 htT (kg_V m_ml_L_98 m_im_X5_both m_sl_X5_both m_in_X5 m_cd_X5_both) rfl rfl rfl (by decide +kernel) ⟨Nat.le_of_ble_eq_true rfl, Nat.le_of_ble_eq_true rfl⟩) (kn_V hK hP hD hTB gg_195.c.hx (Nat.le_of_ble_eq_true rfl) rfl) rfl rfl hl.1 rfl (lv_room (Nat.le_of_ble_eq_true rfl)) dL_law_844 ⟨(by show _ ≤ 600086; omega), (by show _ ≤ 7301442; omega)⟩) hP hD hS hA (fun r_201 x_201 H locs hq_201 hP hD hS => ?_)
                              have gg_201 : GG n na x_201 M x ar ak := gg_195.eA hq_201.2
                              obtain ⟨a_k, ja_k⟩ := gg_201.c.row k (by omega)
                              have sw_k := gg_201.sw2 (by omega) ja_k
                              obtain ⟨a_o, ja_o⟩ := gg_201.c.row o (by omega)
                              have sw_o := gg_201.sw2 (by omega) ja_o
                              rw [hq_201.1.trans hb0]
                              refine lv_if_eq (tgt := 852) hx hb dL_law_847 (by decide) (fun _ => ?_) (fun c_202 => absurd c_202 (by decide))
                              exact hnext (pI U d 2 (nI (ru9 + 1))) x_201 (upd fu 2 (nI (ru9 + 1))) (ru9 + 1) H locs _ f9736 hd0 (by omega) dk_190 (hvmu.draw (d2 := ru9 + 1)) gg_201 hP hD hS (lv_sub hl [2, 3, 4, 5, 6, 7, 8, 9] rfl)
                    · replace c_196 : ¬ (p0 ≤ q0) := fun h9 => c_196 ((nI_leI (a := p0) (b := q0) (by omega) (by omega)).mpr h9)
                      exfalso; omega
              · replace c_16 : ¬ (s1k ≤ 1000) := fun h9 => c_16 ((nI_leI (a := s1k) (b := 1000) (by omega) (by omega)).mpr h9)
                exfalso; omega
    · replace c_2 : ¬ (vcT M k) ≤ j := fun h9 => c_2 ((nI_leI (a := (vcT M k)) (b := j) (by omega) (by omega)).mpr h9)
      refine lv_iload hx hb dL_law_354 (lv_at hl 1 rfl) ?_
      refine lv_aload_n hx hb dL_law_356 rfl (lv_at hl 7 rfl) ?_
      refine lv_iload hx hb dL_law_357 (lv_at hl 3 rfl) ?_
      refine lv_iload hx hb dL_law_359 (lv_at hl 0 rfl) ?_
      refine lv_bipush (v := 20) hx hb dL_law_361 (by decide) ?_
      refine kn_i (va_runV (As := [.int (nI k), .int (nI j), .int 20]) (rest := [.int (rBel (fun u => (rBy M na ru k u).1) j)]) ⟨hx, hb, hml, hown, htT⟩ (c_reachX l D cA _ Y2 x ggv.c.hx ar ggv.c.q0 ak ggv.c.q1 ggv.c.kk ggv.c.R k q8_k a_k ja_k (nI k) sw_k (nI j) (ggv.vko hk ja_k evc (v := j) (by omega) hvc4) 20 (by decide) (by decide) (by decide) (fun u => (rBy M na ru k u).1) (by_eq ggv.l ggv.c hok ggv.y rfl rfl hk ja_k)) (cwV 3 htT (kg_V m_ml_L_66 m_im_X5_reach m_sl_X5_reach m_in_X5 m_cd_X5_reach) rfl rfl rfl (by decide +kernel) ⟨Nat.le_of_ble_eq_true rfl, Nat.le_of_ble_eq_true rfl⟩) (kn_V hK hP hD hTB ggv.c.hx (Nat.le_of_ble_eq_true rfl) rfl) rfl rfl hl.1 rfl (lv_room (Nat.le_of_ble_eq_true rfl)) dL_law_363 ⟨(by show _ ≤ 600086; omega), (by show _ ≤ 7301442; omega)⟩) hP hD hS hA (fun r_203 x_203 H locs hq_203 hP hD hS => ?_)
      have gg_203 : GG n na x_203 M x ar ak := ggv.eA hq_203.2
      obtain ⟨a_k, ja_k⟩ := gg_203.c.row k (by omega)
      have sw_k := gg_203.sw2 (by omega) ja_k
      rw [hq_203.1]
      refine lv_iadd hx hb dL_law_366 ?_
      have hss : sumN (fun v => nT M.2 (nI k) (nI v) na) (j + 1) = sumN (fun v => nT M.2 (nI k) (nI v) na) j + nT M.2 (nI k) (nI j) na := sumN_s _ _
      rw [show ((rBel (fun u => (rBy M na ru k u).1) j) + (rCnt (fun u => if ((fun u => (rBy M na ru k u).1) u) = nI j then 1 else 0) 20 0 0) : Int32) = rBel (fun u => (rBy M na ru k u).1) (j + 1) from rBel_s (by omega) hb4]
      refine lv_istore (lv' := [(10, .int (rBel (fun u => (rBy M na ru k u).1) (j + 1))), (11, .int (nI j)), (9, .int (nI (vcT M k))), (8, .int (nI k)), (7, .int (nI (aa + sumN (fun v => nT M.2 (nI k) (nI v) na) j))), (5, .long bq), (4, .int (nI sp)), (3, .ref x), (2, .ref d), (1, .int (nI ti)), (0, .ref b)]) hx hb dL_law_367 hl (by decide) rfl (fun ls hl => ?_)
      refine lv_iload hx hb dL_law_369 (lv_at hl 4 rfl) ?_
      refine lv_aload_n hx hb dL_law_371 rfl (lv_at hl 7 rfl) ?_
      refine lv_iload hx hb dL_law_372 (lv_at hl 3 rfl) ?_
      refine lv_iload hx hb dL_law_374 (lv_at hl 1 rfl) ?_
      refine lv_iconst (v := 0) hx hb dL_law_376 (by decide) ?_
      refine kn_i (va_runV (As := [.int (nI k), .int (nI j), .int 0]) (rest := [.int (nI (aa + sumN (fun v => nT M.2 (nI k) (nI v) na) j))]) ⟨hx, hb, hml, hown, htT⟩ (c_toldX l D cA _ x_203 x gg_203.c.hx ar gg_203.c.q0 ak gg_203.c.q1 gg_203.c.kk gg_203.c.R k q8_k a_k ja_k (nI k) sw_k (nI j) (gg_203.vko hk ja_k evc (v := j) (by omega) hvc4) 0 (by decide)) (cwV 3 htT (kg_V m_ml_L_70 m_im_X5_told m_sl_X5_told m_in_X5 m_cd_X5_told) rfl rfl rfl (by decide +kernel) ⟨Nat.le_of_ble_eq_true rfl, Nat.le_of_ble_eq_true rfl⟩) (kn_V hK hP hD hTB gg_203.c.hx (Nat.le_of_ble_eq_true rfl) rfl) rfl rfl hl.1 rfl (lv_room (Nat.le_of_ble_eq_true rfl)) dL_law_377 ⟨(by show _ ≤ 600086; omega), (by show _ ≤ 7301442; omega)⟩) hP hD hS hA (fun r_204 x_204 H locs hq_204 hP hD hS => ?_)
      rw [hq_204.2] at hP hD
      rw [hq_204.1.trans (gg_203.told0 hk ja_k (v := j) (by omega))]
      have hnt_204 := nT_le M.2 (nI k) (nI j) na
      refine lv_iadd hx hb dL_law_380 ?_
      rw [show ((nI (aa + sumN (fun v => nT M.2 (nI k) (nI v) na) j)) + (nI (nT M.2 (nI k) (nI j) na)) : Int32) = nI (aa + sumN (fun v => nT M.2 (nI k) (nI v) na) (j + 1)) from (nI_add (aa + sumN (fun v => nT M.2 (nI k) (nI v) na) j) (nT M.2 (nI k) (nI j) na)).trans (congrArg nI (by omega))]
      refine lv_istore (lv' := [(7, .int (nI (aa + sumN (fun v => nT M.2 (nI k) (nI v) na) (j + 1)))), (10, .int (rBel (fun u => (rBy M na ru k u).1) (j + 1))), (11, .int (nI j)), (9, .int (nI (vcT M k))), (8, .int (nI k)), (5, .long bq), (4, .int (nI sp)), (3, .ref x), (2, .ref d), (1, .int (nI ti)), (0, .ref b)]) hx hb dL_law_381 hl (by decide) rfl (fun ls hl => ?_)
      refine lv_aload_n hx hb dL_law_383 rfl (lv_at hl 7 rfl) ?_
      refine lv_iload hx hb dL_law_384 (lv_at hl 4 rfl) ?_
      refine lv_iload hx hb dL_law_386 (lv_at hl 2 rfl) ?_
      refine lv_iconst (v := 1) hx hb dL_law_388 (by decide) ?_
      refine kn_i (va_runV (As := [.int (nI k), .int (nI j), .int 1]) (rest := []) ⟨hx, hb, hml, hown, htT⟩ (c_toldX l D cA _ x_203 x gg_203.c.hx ar gg_203.c.q0 ak gg_203.c.q1 gg_203.c.kk gg_203.c.R k q8_k a_k ja_k (nI k) sw_k (nI j) (gg_203.vko hk ja_k evc (v := j) (by omega) hvc4) 1 (by decide)) (cwV 3 htT (kg_V m_ml_L_70 m_im_X5_told m_sl_X5_told m_in_X5 m_cd_X5_told) rfl rfl rfl (by decide +kernel) ⟨Nat.le_of_ble_eq_true rfl, Nat.le_of_ble_eq_true rfl⟩) (kn_V hK hP hD hTB gg_203.c.hx (Nat.le_of_ble_eq_true rfl) rfl) rfl rfl hl.1 rfl (lv_room (Nat.le_of_ble_eq_true rfl)) dL_law_389 ⟨(by show _ ≤ 600086; omega), (by show _ ≤ 7301442; omega)⟩) hP hD hS hA (fun r_205 x_205 H locs hq_205 hP hD hS => ?_)
      rw [hq_205.2] at hP hD
      obtain ⟨b1, hb1, eb1⟩ := gg_203.told1 hk ja_k (v := j) (by omega)
      rw [hq_205.1.trans eb1]
      have hnt_205 := nT_le M.2 (nI k) (nI j) na
      refine lv_aload_n hx hb dL_law_392 rfl (lv_at hl 7 rfl) ?_
      refine lv_iload hx hb dL_law_393 (lv_at hl 4 rfl) ?_
      refine lv_iload hx hb dL_law_395 (lv_at hl 2 rfl) ?_
      refine lv_iconst (v := 0) hx hb dL_law_397 (by decide) ?_
      refine kn_i (va_runV (As := [.int (nI k), .int (nI j), .int 0]) (rest := [.int (nI b1)]) ⟨hx, hb, hml, hown, htT⟩ (c_toldX l D cA _ x_203 x gg_203.c.hx ar gg_203.c.q0 ak gg_203.c.q1 gg_203.c.kk gg_203.c.R k q8_k a_k ja_k (nI k) sw_k (nI j) (gg_203.vko hk ja_k evc (v := j) (by omega) hvc4) 0 (by decide)) (cwV 3 htT (kg_V m_ml_L_70 m_im_X5_told m_sl_X5_told m_in_X5 m_cd_X5_told) rfl rfl rfl (by decide +kernel) ⟨Nat.le_of_ble_eq_true rfl, Nat.le_of_ble_eq_true rfl⟩) (kn_V hK hP hD hTB gg_203.c.hx (Nat.le_of_ble_eq_true rfl) rfl) rfl rfl hl.1 rfl (lv_room (Nat.le_of_ble_eq_true rfl)) dL_law_398 ⟨(by show _ ≤ 600086; omega), (by show _ ≤ 7301442; omega)⟩) hP hD hS hA (fun r_206 x_206 H locs hq_206 hP hD hS => ?_)
      rw [hq_206.2] at hP hD
      rw [hq_206.1.trans (gg_203.told0 hk ja_k (v := j) (by omega))]
      have hnt_206 := nT_le M.2 (nI k) (nI j) na
      refine lv_icmp_gt (tgt := 491) hx hb dL_law_401 (by decide) (fun c_207 => ?_) (fun c_207 => ?_)
      · replace c_207 := (nI_ltI (a := nT M.2 (nI k) (nI j) na) (b := b1) (by omega) (by omega)).mp c_207
        exfalso; omega
      · replace c_207 : ¬ (nT M.2 (nI k) (nI j) na < b1) := fun h9 => c_207 ((nI_ltI (a := nT M.2 (nI k) (nI j) na) (b := b1) (by omega) (by omega)).mpr h9)
        refine lv_aload_n hx hb dL_law_404 rfl (lv_at hl 7 rfl) ?_
        refine lv_iload hx hb dL_law_405 (lv_at hl 4 rfl) ?_
        refine lv_iload hx hb dL_law_407 (lv_at hl 2 rfl) ?_
        refine lv_iconst (v := 2) hx hb dL_law_409 (by decide) ?_
        refine kn_i (va_runV (As := [.int (nI k), .int (nI j), .int 2]) (rest := []) ⟨hx, hb, hml, hown, htT⟩ (c_toldX l D cA _ x_203 x gg_203.c.hx ar gg_203.c.q0 ak gg_203.c.q1 gg_203.c.kk gg_203.c.R k q8_k a_k ja_k (nI k) sw_k (nI j) (gg_203.vko hk ja_k evc (v := j) (by omega) hvc4) 2 (by decide)) (cwV 3 htT (kg_V m_ml_L_70 m_im_X5_told m_sl_X5_told m_in_X5 m_cd_X5_told) rfl rfl rfl (by decide +kernel) ⟨Nat.le_of_ble_eq_true rfl, Nat.le_of_ble_eq_true rfl⟩) (kn_V hK hP hD hTB gg_203.c.hx (Nat.le_of_ble_eq_true rfl) rfl) rfl rfl hl.1 rfl (lv_room (Nat.le_of_ble_eq_true rfl)) dL_law_410 ⟨(by show _ ≤ 600086; omega), (by show _ ≤ 7301442; omega)⟩) hP hD hS hA (fun r_208 x_208 H locs hq_208 hP hD hS => ?_)
        rw [hq_208.2] at hP hD
        obtain ⟨t2_208, ht2_208, er2_208, et2_208⟩ := gg_203.told2 hM hk ja_k (v := j) (by omega)
        have hts_208 := mul_b hna hsB
        rw [hq_208.1.trans et2_208]
        refine lv_if_lt (tgt := 491) hx hb dL_law_413 (by decide) (fun c_209 => ?_) (fun c_209 => ?_)
        · replace c_209 := (nI_ltI (a := t2_208) (b := 0) (by omega) (by omega)).mp c_209
          exfalso; omega
        · replace c_209 : ¬ (t2_208 < 0) := fun h9 => c_209 ((nI_ltI (a := t2_208) (b := 0) (by omega) (by omega)).mpr h9)
          refine lv_aload_n hx hb dL_law_416 rfl (lv_at hl 7 rfl) ?_
          refine lv_iload hx hb dL_law_417 (lv_at hl 4 rfl) ?_
          refine lv_iload hx hb dL_law_419 (lv_at hl 2 rfl) ?_
          refine kjD_d hd0 List.perm_append_comm (va_runV_D (As := [.int (nI k), .int (nI j)]) (rest := []) ⟨hx, hb, hml, hown, htT⟩ (c_meanX l D cA _ x_203 x gg_203.c.hx ar gg_203.c.q0 ak gg_203.c.q1 gg_203.c.kk gg_203.c.R k q8_k a_k ja_k (nI k) sw_k (nI j) (gg_203.vko hk ja_k evc (v := j) (by omega) hvc4)) (cwV 2 htT (kg_V m_ml_L_73 m_im_X5_mean m_sl_X5_mean m_in_X5 m_cd_X5_mean) rfl rfl rfl (by decide +kernel) ⟨Nat.le_of_ble_eq_true rfl, Nat.le_of_ble_eq_true rfl⟩) (kn_V hK hP hD hTB gg_203.c.hx (Nat.le_of_ble_eq_true rfl) rfl) rfl rfl hl.1 rfl (lv_room (Nat.le_of_ble_eq_true rfl)) dL_law_421 ⟨(by show _ ≤ 600086; omega), (by show _ ≤ 7301442; omega)⟩) hP hD hS hA (fun r_210 x_210 H locs hq_210 hP hD hS d_210 hd0 => ?_)
          replace hP := kj_P List.perm_append_comm hP
          replace hD := kj_D List.perm_append_comm hD
          have htT : ∀ w ∈ TT, w.before _ (s.setDrawn d_210) = true := dr_words htT0 d_210
          have hTB : TBok (s.setDrawn d_210) := TBok.same (u := s) (U := s.setDrawn d_210) rfl (Vm.Alike.refl s.vm) hTB0
          have hK : va_K D vwCl (ty6 cA) (s.setDrawn d_210) := hK0
          have hown : (s.setDrawn d_210).vm.findClass RL = some m.cls := hown0
          have hTX : TXok A (s.setDrawn d_210) := hTX0.dr d_210
          have hX : va_X b L xs (s.setDrawn d_210) (s.setDrawn d_210).heap := hX0
          have hAO : va_AOA .int (s.setDrawn d_210) ∧ va_AOA (.array .int) (s.setDrawn d_210) := ⟨va_AOA.moved (u := s) (U := s.setDrawn d_210) (Vm.Alike.refl s.vm) hAO0.1, va_AOA.moved (u := s) (U := s.setDrawn d_210) (Vm.Alike.refl s.vm) hAO0.2⟩
          rw [hq_210.2] at hP hD
          have hm_210 : r_210 = kMn M na k j := gg_203.mean hk ja_k (v := j) (by omega) hq_210.1
          subst hm_210
          refine lv_dconst0 hx hb dL_law_424 ?_
          refine lv_dcmp hx hb dL_law_425 ?_
          refine lv_if_lt (tgt := 491) hx hb dL_law_426 (by decide) (fun c_212 => ?_) (fun c_212 => ?_)
          · exact absurd c_212 (cm_ge (mn_ge hna hsB hM))
          · refine lv_aload_n hx hb dL_law_429 rfl (lv_at hl 7 rfl) ?_
            refine lv_iload hx hb dL_law_430 (lv_at hl 4 rfl) ?_
            refine lv_iload hx hb dL_law_432 (lv_at hl 2 rfl) ?_
            refine kjD_d hd0 List.perm_append_comm (va_runV_D (As := [.int (nI k), .int (nI j)]) (rest := []) ⟨hx, hb, hml, hown, htT⟩ (c_meanX l D cA _ x_203 x gg_203.c.hx ar gg_203.c.q0 ak gg_203.c.q1 gg_203.c.kk gg_203.c.R k q8_k a_k ja_k (nI k) sw_k (nI j) (gg_203.vko hk ja_k evc (v := j) (by omega) hvc4)) (cwV 2 htT (kg_V m_ml_L_73 m_im_X5_mean m_sl_X5_mean m_in_X5 m_cd_X5_mean) rfl rfl rfl (by decide +kernel) ⟨Nat.le_of_ble_eq_true rfl, Nat.le_of_ble_eq_true rfl⟩) (kn_V hK hP hD hTB gg_203.c.hx (Nat.le_of_ble_eq_true rfl) rfl) rfl rfl hl.1 rfl (lv_room (Nat.le_of_ble_eq_true rfl)) dL_law_434 ⟨(by show _ ≤ 600086; omega), (by show _ ≤ 7301442; omega)⟩) hP hD hS hA (fun r_213 x_213 H locs hq_213 hP hD hS d_213 hd0 => ?_)
            replace hP := kj_P List.perm_append_comm hP
            replace hD := kj_D List.perm_append_comm hD
            have htT : ∀ w ∈ TT, w.before _ (s.setDrawn d_213) = true := dr_words htT0 d_213
            have hTB : TBok (s.setDrawn d_213) := TBok.same (u := s) (U := s.setDrawn d_213) rfl (Vm.Alike.refl s.vm) hTB0
            have hK : va_K D vwCl (ty6 cA) (s.setDrawn d_213) := hK0
            have hown : (s.setDrawn d_213).vm.findClass RL = some m.cls := hown0
            have hTX : TXok A (s.setDrawn d_213) := hTX0.dr d_213
            have hX : va_X b L xs (s.setDrawn d_213) (s.setDrawn d_213).heap := hX0
            have hAO : va_AOA .int (s.setDrawn d_213) ∧ va_AOA (.array .int) (s.setDrawn d_213) := ⟨va_AOA.moved (u := s) (U := s.setDrawn d_213) (Vm.Alike.refl s.vm) hAO0.1, va_AOA.moved (u := s) (U := s.setDrawn d_213) (Vm.Alike.refl s.vm) hAO0.2⟩
            rw [hq_213.2] at hP hD
            have hm_213 : r_213 = kMn M na k j := gg_203.mean hk ja_k (v := j) (by omega) hq_213.1
            subst hm_213
            refine lv_aload_n hx hb dL_law_437 rfl (lv_at hl 7 rfl) ?_
            refine lv_iload hx hb dL_law_438 (lv_at hl 4 rfl) ?_
            refine lv_iload hx hb dL_law_440 (lv_at hl 2 rfl) ?_
            refine lv_iconst (v := 2) hx hb dL_law_442 (by decide) ?_
            refine kn_i (va_runV (As := [.int (nI k), .int (nI j), .int 2]) (rest := [.double (kMn M na k j)]) ⟨hx, hb, hml, hown, htT⟩ (c_toldX l D cA _ x_203 x gg_203.c.hx ar gg_203.c.q0 ak gg_203.c.q1 gg_203.c.kk gg_203.c.R k q8_k a_k ja_k (nI k) sw_k (nI j) (gg_203.vko hk ja_k evc (v := j) (by omega) hvc4) 2 (by decide)) (cwV 3 htT (kg_V m_ml_L_70 m_im_X5_told m_sl_X5_told m_in_X5 m_cd_X5_told) rfl rfl rfl (by decide +kernel) ⟨Nat.le_of_ble_eq_true rfl, Nat.le_of_ble_eq_true rfl⟩) (kn_V hK hP hD hTB gg_203.c.hx (Nat.le_of_ble_eq_true rfl) rfl) rfl rfl hl.1 rfl (lv_room (Nat.le_of_ble_eq_true rfl)) dL_law_443 ⟨(by show _ ≤ 600086; omega), (by show _ ≤ 7301442; omega)⟩) hP hD hS hA (fun r_214 x_214 H locs hq_214 hP hD hS => ?_)
            rw [hq_214.2] at hP hD
            obtain ⟨t2_214, ht2_214, er2_214, et2_214⟩ := gg_203.told2 hM hk ja_k (v := j) (by omega)
            have hts_214 := mul_b hna hsB
            rw [hq_214.1.trans et2_214]
            refine lv_i2d hx hb dL_law_446 ?_
            refine lv_dcmp hx hb dL_law_447 ?_
            refine lv_if_gt (tgt := 491) hx hb dL_law_448 (by decide) (fun c_216 => ?_) (fun c_216 => ?_)
            · exact absurd c_216 (cm_le (mn_le hna (by omega) er2_214))
            · refine lv_aload_n hx hb dL_law_451 rfl (lv_at hl 7 rfl) ?_
              refine lv_iload hx hb dL_law_452 (lv_at hl 4 rfl) ?_
              refine lv_iload hx hb dL_law_454 (lv_at hl 2 rfl) ?_
              refine kjD_d hd0 List.perm_append_comm (va_runV_D (As := [.int (nI k), .int (nI j)]) (rest := []) ⟨hx, hb, hml, hown, htT⟩ (c_liftX l D cA _ x_203 x gg_203.c.hx ar gg_203.c.q0 ak gg_203.c.q1 gg_203.c.kk gg_203.c.R k q8_k a_k ja_k (nI k) sw_k (nI j) (gg_203.vko hk ja_k evc (v := j) (by omega) hvc4)) (cwV 2 htT (kg_V m_ml_L_77 m_im_X5_lift m_sl_X5_lift m_in_X5 m_cd_X5_lift) rfl rfl rfl (by decide +kernel) ⟨Nat.le_of_ble_eq_true rfl, Nat.le_of_ble_eq_true rfl⟩) (kn_V hK hP hD hTB gg_203.c.hx (Nat.le_of_ble_eq_true rfl) rfl) rfl rfl hl.1 rfl (lv_room (Nat.le_of_ble_eq_true rfl)) dL_law_456 ⟨(by show _ ≤ 600086; omega), (by show _ ≤ 7301442; omega)⟩) hP hD hS hA (fun r_217 x_217 H locs hq_217 hP hD hS d_217 hd0 => ?_)
              replace hP := kj_P List.perm_append_comm hP
              replace hD := kj_D List.perm_append_comm hD
              have htT : ∀ w ∈ TT, w.before _ (s.setDrawn d_217) = true := dr_words htT0 d_217
              have hTB : TBok (s.setDrawn d_217) := TBok.same (u := s) (U := s.setDrawn d_217) rfl (Vm.Alike.refl s.vm) hTB0
              have hK : va_K D vwCl (ty6 cA) (s.setDrawn d_217) := hK0
              have hown : (s.setDrawn d_217).vm.findClass RL = some m.cls := hown0
              have hTX : TXok A (s.setDrawn d_217) := hTX0.dr d_217
              have hX : va_X b L xs (s.setDrawn d_217) (s.setDrawn d_217).heap := hX0
              have hAO : va_AOA .int (s.setDrawn d_217) ∧ va_AOA (.array .int) (s.setDrawn d_217) := ⟨va_AOA.moved (u := s) (U := s.setDrawn d_217) (Vm.Alike.refl s.vm) hAO0.1, va_AOA.moved (u := s) (U := s.setDrawn d_217) (Vm.Alike.refl s.vm) hAO0.2⟩
              rw [hq_217.2] at hP hD
              have hm_217 : r_217 = FP.dsub (kMn M na k j) (kMn M na k 0) := gg_203.lift hk ja_k (v := j) (by omega) hq_217.1
              subst hm_217
              refine lv_aload_n hx hb dL_law_459 rfl (lv_at hl 7 rfl) ?_
              refine lv_iload hx hb dL_law_460 (lv_at hl 4 rfl) ?_
              refine lv_iload hx hb dL_law_462 (lv_at hl 2 rfl) ?_
              refine kjD_d hd0 List.perm_append_comm (va_runV_D (As := [.int (nI k), .int (nI j)]) (rest := [.double (FP.dsub (kMn M na k j) (kMn M na k 0))]) ⟨hx, hb, hml, hown, htT⟩ (c_meanX l D cA _ x_203 x gg_203.c.hx ar gg_203.c.q0 ak gg_203.c.q1 gg_203.c.kk gg_203.c.R k q8_k a_k ja_k (nI k) sw_k (nI j) (gg_203.vko hk ja_k evc (v := j) (by omega) hvc4)) (cwV 2 htT (kg_V m_ml_L_73 m_im_X5_mean m_sl_X5_mean m_in_X5 m_cd_X5_mean) rfl rfl rfl (by decide +kernel) ⟨Nat.le_of_ble_eq_true rfl, Nat.le_of_ble_eq_true rfl⟩) (kn_V hK hP hD hTB gg_203.c.hx (Nat.le_of_ble_eq_true rfl) rfl) rfl rfl hl.1 rfl (lv_room (Nat.le_of_ble_eq_true rfl)) dL_law_464 ⟨(by show _ ≤ 600086; omega), (by show _ ≤ 7301442; omega)⟩) hP hD hS hA (fun r_218 x_218 H locs hq_218 hP hD hS d_218 hd0 => ?_)
              replace hP := kj_P List.perm_append_comm hP
              replace hD := kj_D List.perm_append_comm hD
              have htT : ∀ w ∈ TT, w.before _ (s.setDrawn d_218) = true := dr_words htT0 d_218
              have hTB : TBok (s.setDrawn d_218) := TBok.same (u := s) (U := s.setDrawn d_218) rfl (Vm.Alike.refl s.vm) hTB0
              have hK : va_K D vwCl (ty6 cA) (s.setDrawn d_218) := hK0
              have hown : (s.setDrawn d_218).vm.findClass RL = some m.cls := hown0
              have hTX : TXok A (s.setDrawn d_218) := hTX0.dr d_218
              have hX : va_X b L xs (s.setDrawn d_218) (s.setDrawn d_218).heap := hX0
              have hAO : va_AOA .int (s.setDrawn d_218) ∧ va_AOA (.array .int) (s.setDrawn d_218) := ⟨va_AOA.moved (u := s) (U := s.setDrawn d_218) (Vm.Alike.refl s.vm) hAO0.1, va_AOA.moved (u := s) (U := s.setDrawn d_218) (Vm.Alike.refl s.vm) hAO0.2⟩
              rw [hq_218.2] at hP hD
              have hm_218 : r_218 = kMn M na k j := gg_203.mean hk ja_k (v := j) (by omega) hq_218.1
              subst hm_218
              refine lv_aload_n hx hb dL_law_467 rfl (lv_at hl 7 rfl) ?_
              refine lv_iload hx hb dL_law_468 (lv_at hl 4 rfl) ?_
              refine lv_iconst (v := 0) hx hb dL_law_470 (by decide) ?_
              refine kjD_d hd0 List.perm_append_comm (va_runV_D (As := [.int (nI k), .int 0]) (rest := [.double (kMn M na k j), .double (FP.dsub (kMn M na k j) (kMn M na k 0))]) ⟨hx, hb, hml, hown, htT⟩ (c_meanX l D cA _ x_203 x gg_203.c.hx ar gg_203.c.q0 ak gg_203.c.q1 gg_203.c.kk gg_203.c.R k q8_k a_k ja_k (nI k) sw_k (nI 0) (gg_203.vko hk ja_k evc (v := 0) (by omega) hvc4)) (cwV 2 htT (kg_V m_ml_L_73 m_im_X5_mean m_sl_X5_mean m_in_X5 m_cd_X5_mean) rfl rfl rfl (by decide +kernel) ⟨Nat.le_of_ble_eq_true rfl, Nat.le_of_ble_eq_true rfl⟩) (kn_V hK hP hD hTB gg_203.c.hx (Nat.le_of_ble_eq_true rfl) rfl) rfl rfl hl.1 rfl (lv_room (Nat.le_of_ble_eq_true rfl)) dL_law_471 ⟨(by show _ ≤ 600086; omega), (by show _ ≤ 7301442; omega)⟩) hP hD hS hA (fun r_219 x_219 H locs hq_219 hP hD hS d_219 hd0 => ?_)
              replace hP := kj_P List.perm_append_comm hP
              replace hD := kj_D List.perm_append_comm hD
              have htT : ∀ w ∈ TT, w.before _ (s.setDrawn d_219) = true := dr_words htT0 d_219
              have hTB : TBok (s.setDrawn d_219) := TBok.same (u := s) (U := s.setDrawn d_219) rfl (Vm.Alike.refl s.vm) hTB0
              have hK : va_K D vwCl (ty6 cA) (s.setDrawn d_219) := hK0
              have hown : (s.setDrawn d_219).vm.findClass RL = some m.cls := hown0
              have hTX : TXok A (s.setDrawn d_219) := hTX0.dr d_219
              have hX : va_X b L xs (s.setDrawn d_219) (s.setDrawn d_219).heap := hX0
              have hAO : va_AOA .int (s.setDrawn d_219) ∧ va_AOA (.array .int) (s.setDrawn d_219) := ⟨va_AOA.moved (u := s) (U := s.setDrawn d_219) (Vm.Alike.refl s.vm) hAO0.1, va_AOA.moved (u := s) (U := s.setDrawn d_219) (Vm.Alike.refl s.vm) hAO0.2⟩
              rw [hq_219.2] at hP hD
              have hm_219 : r_219 = kMn M na k 0 := gg_203.mean hk ja_k (v := 0) (by omega) hq_219.1
              subst hm_219
              refine lv_dsub_any hd0 lw_bits hx hb dL_law_474 (fun r_220 d_220 hal_220 hd0 => ?_)
              have htT : ∀ w ∈ TT, w.before _ (s.setDrawn d_220) = true := dr_words htT0 d_220
              have hTB : TBok (s.setDrawn d_220) := TBok.same (u := s) (U := s.setDrawn d_220) rfl (Vm.Alike.refl s.vm) hTB0
              have hK : va_K D vwCl (ty6 cA) (s.setDrawn d_220) := hK0
              have hown : (s.setDrawn d_220).vm.findClass RL = some m.cls := hown0
              have hTX : TXok A (s.setDrawn d_220) := hTX0.dr d_220
              have hX : va_X b L xs (s.setDrawn d_220) (s.setDrawn d_220).heap := hX0
              have hAO : va_AOA .int (s.setDrawn d_220) ∧ va_AOA (.array .int) (s.setDrawn d_220) := ⟨va_AOA.moved (u := s) (U := s.setDrawn d_220) (Vm.Alike.refl s.vm) hAO0.1, va_AOA.moved (u := s) (U := s.setDrawn d_220) (Vm.Alike.refl s.vm) hAO0.2⟩
              have hm_220 : r_220 = FP.dsub (kMn M na k j) (kMn M na k 0) := al_eq hal_220 (lift_mag _ _ _ _) (by decide)
              subst hm_220
              refine lv_dcmp hx hb dL_law_475 ?_
              refine lv_if_ne (tgt := 491) hx hb dL_law_476 (by decide) (fun c_222 => ?_) (fun c_222 => ?_)
              · exact absurd c_222 (fun h9 => h9 (cm_eqz (lift_same _ _ _ _)))
              · refine lv_aload_n hx hb dL_law_479 rfl (lv_at hl 7 rfl) ?_
                refine lv_iload hx hb dL_law_480 (lv_at hl 4 rfl) ?_
                refine lv_iconst (v := 0) hx hb dL_law_482 (by decide) ?_
                refine kjD_d hd0 List.perm_append_comm (va_runV_D (As := [.int (nI k), .int 0]) (rest := []) ⟨hx, hb, hml, hown, htT⟩ (c_sureZ l D cA _ x_203 x gg_203.c.hx ar gg_203.c.q0 ak gg_203.c.q1 gg_203.c.kk gg_203.c.R k q8_k a_k ja_k (nI k) sw_k (nI 0) (gg_203.vko hk ja_k evc (v := 0) (by omega) hvc4) rfl) (cwV 2 htT (kg_V m_ml_L_80 m_im_X5_sure m_sl_X5_sure m_in_X5 m_cd_X5_sure) rfl rfl rfl (by decide +kernel) ⟨Nat.le_of_ble_eq_true rfl, Nat.le_of_ble_eq_true rfl⟩) (kn_V hK hP hD hTB gg_203.c.hx (Nat.le_of_ble_eq_true rfl) rfl) rfl rfl hl.1 rfl (lv_room (Nat.le_of_ble_eq_true rfl)) dL_law_483 ⟨(by show _ ≤ 600086; omega), (by show _ ≤ 7301442; omega)⟩) hP hD hS hA (fun r_223 x_223 H locs hq_223 hP hD hS d_223 hd0 => ?_)
                replace hP := kj_P List.perm_append_comm hP
                replace hD := kj_D List.perm_append_comm hD
                have htT : ∀ w ∈ TT, w.before _ (s.setDrawn d_223) = true := dr_words htT0 d_223
                have hTB : TBok (s.setDrawn d_223) := TBok.same (u := s) (U := s.setDrawn d_223) rfl (Vm.Alike.refl s.vm) hTB0
                have hK : va_K D vwCl (ty6 cA) (s.setDrawn d_223) := hK0
                have hown : (s.setDrawn d_223).vm.findClass RL = some m.cls := hown0
                have hTX : TXok A (s.setDrawn d_223) := hTX0.dr d_223
                have hX : va_X b L xs (s.setDrawn d_223) (s.setDrawn d_223).heap := hX0
                have hAO : va_AOA .int (s.setDrawn d_223) ∧ va_AOA (.array .int) (s.setDrawn d_223) := ⟨va_AOA.moved (u := s) (U := s.setDrawn d_223) (Vm.Alike.refl s.vm) hAO0.1, va_AOA.moved (u := s) (U := s.setDrawn d_223) (Vm.Alike.refl s.vm) hAO0.2⟩
                rw [hq_223.2] at hP hD
                refine lv_dconst0 hx hb dL_law_486 ?_
                refine lv_dcmp hx hb dL_law_487 ?_
                refine lv_if_eq (tgt := 493) hx hb dL_law_488 (by decide) (fun c_225 => ?_) (fun c_225 => ?_)
                · refine lv_iinc (v := nI (j + 1)) (lv' := [(11, .int (nI (j + 1))), (7, .int (nI (aa + sumN (fun v => nT M.2 (nI k) (nI v) na) (j + 1)))), (10, .int (rBel (fun u => (rBy M na ru k u).1) (j + 1))), (9, .int (nI (vcT M k))), (8, .int (nI k)), (5, .long bq), (4, .int (nI sp)), (3, .ref x), (2, .ref d), (1, .int (nI ti)), (0, .ref b)]) hx hb dL_law_493 hl (k := 2) rfl (nI_1 _) (by decide) rfl (fun ls hl => ?_)
                  refine lv_goto (tgt := 347) hx hb dL_law_496 (by decide) ?_
                  have hl := lv_sub hl [0, 2, 3, 4, 1, 5, 6, 7, 8, 9, 10] rfl
                  exact ih_347 _ (by omega) H locs ls d_223 hd0 ⟨x_203, j + 1, rfl, (by omega), gg_203, hP, hD, hS, hl⟩
                · exact absurd c_225 (fun h9 => h9 (cm_eqz hq_223.1))
  · replace c_1 : ¬ (12 ≤ i) := fun h9 => c_1 ((nI_leI (a := 12) (b := i) (by omega) (by omega)).mpr h9)
    refine lv_aload_n hx hb dL_law_132 rfl (lv_at hl 8 rfl) ?_
    refine lv_bipush (v := 10) hx hb dL_law_133 (by decide) ?_
    refine kc_i (va_runV (As := [.int 10]) (rest := []) ⟨hx, hb, hml, hown, htT⟩ (d_draw l D cA _ (PW cA Y) b L xs hL U d x Ad n na fu fO fW fC fR fB dku (ru9) hvmu.f2 (by omega) (10) (by omega) (by omega)) (cwV 1 htT (kg_V m_ml_L_45 m_im_X6_draw m_sl_X6_draw m_in_X6 m_cd_X6_draw) rfl rfl rfl (by decide +kernel) ⟨Nat.le_of_ble_eq_true rfl, Nat.le_of_ble_eq_true rfl⟩) (kpe_V hK hP hD hTB hTX hX hbl hbA hAO hS hA (kpe_rc hK hP dku.o rfl)) rfl rfl hl.1 rfl (lv_room (Nat.le_of_ble_eq_true rfl)) dL_law_135 ⟨(by show _ ≤ 600086; omega), (by show _ ≤ 7301442; omega)⟩) hD hS hA (fun r_226 x_226 H locs hq_226 hP hD hS => ?_)
    obtain ⟨⟨g1, hg1, hr_226⟩, ht_226⟩ := hq_226
    rw [hr_226]
    rw [ht_226] at hP hD
    have dk_227 : DK (pI U d 2 (nI (ru9 + 1))) d x b Ad (n, na, (upd fu 2 (nI (ru9 + 1))), fO, fW, fC, fR, fB) := dku.num
    refine lv_istore (lv' := [(12, .int (nI g1)), (11, .int (nI i)), (10, .int 0), (9, .int (nI (vcT M k))), (8, .int (nI k)), (7, .int (nI (aa))), (5, .long bq), (4, .int (nI sp)), (3, .ref x), (2, .ref d), (1, .int (nI ti)), (0, .ref b)]) hx hb dL_law_138 hl (by decide) rfl (fun ls hl => ?_)
    refine lv_aload_n hx hb dL_law_140 rfl (lv_at hl 9 rfl) ?_
    refine lv_bipush (v := 10) hx hb dL_law_141 (by decide) ?_
    refine kc_i (va_runV (As := [.int 10]) (rest := []) ⟨hx, hb, hml, hown, htT⟩ (d_draw l D cA _ (PW cA Y) b L xs hL (pI U d 2 (nI (ru9 + 1))) d x Ad n na (upd fu 2 (nI (ru9 + 1))) fO fW fC fR fB dk_227 (ru9 + 1) rfl (by omega) (10) (by omega) (by omega)) (cwV 1 htT (kg_V m_ml_L_45 m_im_X6_draw m_sl_X6_draw m_in_X6 m_cd_X6_draw) rfl rfl rfl (by decide +kernel) ⟨Nat.le_of_ble_eq_true rfl, Nat.le_of_ble_eq_true rfl⟩) (kpe_V hK hP hD hTB hTX hX hbl hbA hAO hS hA (kpe_rc hK hP dk_227.o rfl)) rfl rfl hl.1 rfl (lv_room (Nat.le_of_ble_eq_true rfl)) dL_law_143 ⟨(by show _ ≤ 600086; omega), (by show _ ≤ 7301442; omega)⟩) hD hS hA (fun r_228 x_228 H locs hq_228 hP hD hS => ?_)
    obtain ⟨⟨g2, hg2, hr_228⟩, ht_228⟩ := hq_228
    rw [hr_228]
    rw [ht_228] at hP hD
    have dk_229 : DK (pI (pI U d 2 (nI (ru9 + 1))) d 2 (nI (ru9 + 1 + 1))) d x b Ad (n, na, (upd (upd fu 2 (nI (ru9 + 1))) 2 (nI (ru9 + 1 + 1))), fO, fW, fC, fR, fB) := dk_227.num
    refine lv_istore (lv' := [(13, .int (nI g2)), (12, .int (nI g1)), (11, .int (nI i)), (10, .int 0), (9, .int (nI (vcT M k))), (8, .int (nI k)), (7, .int (nI (aa))), (5, .long bq), (4, .int (nI sp)), (3, .ref x), (2, .ref d), (1, .int (nI ti)), (0, .ref b)]) hx hb dL_law_146 hl (by decide) rfl (fun ls hl => ?_)
    refine lv_aload_n hx hb dL_law_148 rfl (lv_at hl 9 rfl) ?_
    refine lv_iload hx hb dL_law_149 (lv_at hl 5 rfl) ?_
    refine lv_iload hx hb dL_law_151 (lv_at hl 2 rfl) ?_
    refine lv_iload hx hb dL_law_153 (lv_at hl 1 rfl) ?_
    refine lv_iload hx hb dL_law_155 (lv_at hl 0 rfl) ?_
    obtain ⟨v, y9, vc9, evc9, hv9, hv94, hy9, hG9, hw0, hy8, hy0, hy3, hy7, hy2, -⟩ := rGx_all (M := M) (hold := M.1 2) (f := nI g1) (g := nI g2) (far := rFar M.2 k (M.1 1)) (on' := M.2 11) (sub' := fun j => (rG M.2 (M.1 2) (M.2 11) (fun k => rFar M.2 k (M.1 1)) (nI i) (nI g1) (nI g2) na ru 7 j).1) ggu.t.2.2.2 ggu.r hok hM ggu.wg (show i ≤ 9999 by omega) hk
    have hv : v < (vcT M k) := by have h9 : vc9 = (vcT M k) := (nI_eq (by omega) (by omega)).mp (evc9.symm.trans evc); omega
    have eg1 : (rG M.2 (M.1 2) (M.2 11) (fun k => rFar M.2 k (M.1 1)) (nI i) (nI g1) (nI g2) na ru 8 k).1 = nI v := congrArg Prod.fst hG9
    have eg2 : (rG M.2 (M.1 2) (M.2 11) (fun k => rFar M.2 k (M.1 1)) (nI i) (nI g1) (nI g2) na ru 8 k).2 = nI y9 := congrArg Prod.snd hG9
    have eg3 := (gets_bec8 ggu.l ggu.c hok ggu.y rfl rfl (show i ≤ 9999 by omega) rfl hk ja_k (f := nI g1) (g := nI g2)).trans eg1
    have eg4 := (gets_bec ggu.l ggu.c hok ggu.y rfl rfl (show i ≤ 9999 by omega) rfl hk ja_k (f := nI g1) (g := nI g2)).1.trans eg2
    refine kn_i (va_runV (As := [.int (nI k), .int (nI i), .int (nI g1), .int (nI g2)]) (rest := []) ⟨hx, hb, hml, hown, htT⟩ (c_gets l D cA _ Y x ggu.c.hx ar ggu.c.q0 ak ggu.c.q1 ggu.c.kk ggu.c.R k q8_k a_k ja_k (nI k) sw_k (nI i) (nI g1) (nI g2) (kOut_n (a := i) (lo := 0) (hi := 9999) (by omega) (by omega) (by omega)) (kOut_n (a := g1) (lo := 0) (hi := 9) (by omega) (by omega) (by omega)) (kOut_n (a := g2) (lo := 0) (hi := 9) (by omega) (by omega) (by omega))) (cwV 4 htT (kg_V m_ml_L_49 m_im_X5_gets m_sl_X5_gets m_in_X5 m_cd_X5_gets) rfl rfl rfl (by decide +kernel) ⟨Nat.le_of_ble_eq_true rfl, Nat.le_of_ble_eq_true rfl⟩) (kn_V hK hP hD hTB ggu.c.hx (Nat.le_of_ble_eq_true rfl) rfl) rfl rfl hl.1 rfl (lv_room (Nat.le_of_ble_eq_true rfl)) dL_law_157 ⟨(by show _ ≤ 600086; omega), (by show _ ≤ 7301442; omega)⟩) hP hD hS hA (fun r_230 x_230 H locs hq_230 hP hD hS => ?_)
    have gg_230 : GG n na x_230 M x ar ak := by rw [hq_230.2]; exact ggu.eA eqA.bec
    obtain ⟨a_k, ja_k⟩ := gg_230.c.row k (by omega)
    have sw_k := gg_230.sw2 (by omega) ja_k
    rw [hq_230.1.trans eg3]
    refine lv_istore (lv' := [(14, .int (nI v)), (13, .int (nI g2)), (12, .int (nI g1)), (11, .int (nI i)), (10, .int 0), (9, .int (nI (vcT M k))), (8, .int (nI k)), (7, .int (nI (aa))), (5, .long bq), (4, .int (nI sp)), (3, .ref x), (2, .ref d), (1, .int (nI ti)), (0, .ref b)]) hx hb dL_law_160 hl (by decide) rfl (fun ls hl => ?_)
    refine lv_aload_n hx hb dL_law_162 rfl (lv_at hl 10 rfl) ?_
    refine lv_iload hx hb dL_law_163 (lv_at hl 6 rfl) ?_
    refine lv_iload hx hb dL_law_165 (lv_at hl 3 rfl) ?_
    refine lv_iload hx hb dL_law_167 (lv_at hl 2 rfl) ?_
    refine lv_iload hx hb dL_law_169 (lv_at hl 1 rfl) ?_
    have eg5 := (gets_bec gg_230.l gg_230.c hok gg_230.y rfl rfl (show i ≤ 9999 by omega) rfl hk ja_k (f := nI g1) (g := nI g2)).1.trans eg2
    refine kn_i (va_runV (As := [.int (nI k), .int (nI i), .int (nI g1), .int (nI g2)]) (rest := []) ⟨hx, hb, hml, hown, htT⟩ (c_why l D cA _ x_230 x gg_230.c.hx ar gg_230.c.q0 ak gg_230.c.q1 gg_230.c.kk gg_230.c.R k q8_k a_k ja_k (nI k) sw_k (nI i) (nI g1) (nI g2) (kOut_n (a := i) (lo := 0) (hi := 9999) (by omega) (by omega) (by omega)) (kOut_n (a := g1) (lo := 0) (hi := 9) (by omega) (by omega) (by omega)) (kOut_n (a := g2) (lo := 0) (hi := 9) (by omega) (by omega) (by omega))) (cwV 4 htT (kg_V m_ml_L_53 m_im_X5_why m_sl_X5_why m_in_X5 m_cd_X5_why) rfl rfl rfl (by decide +kernel) ⟨Nat.le_of_ble_eq_true rfl, Nat.le_of_ble_eq_true rfl⟩) (kn_V hK hP hD hTB gg_230.c.hx (Nat.le_of_ble_eq_true rfl) rfl) rfl rfl hl.1 rfl (lv_room (Nat.le_of_ble_eq_true rfl)) dL_law_171 ⟨(by show _ ≤ 600086; omega), (by show _ ≤ 7301442; omega)⟩) hP hD hS hA (fun r_231 x_231 H locs hq_231 hP hD hS => ?_)
    have gg_231 : GG n na x_231 M x ar ak := by rw [hq_231.2]; exact gg_230.eA eqA.bec
    obtain ⟨a_k, ja_k⟩ := gg_231.c.row k (by omega)
    have sw_k := gg_231.sw2 (by omega) ja_k
    rw [hq_231.1.trans eg5]
    refine lv_istore (lv' := [(15, .int (nI y9)), (14, .int (nI v)), (13, .int (nI g2)), (12, .int (nI g1)), (11, .int (nI i)), (10, .int 0), (9, .int (nI (vcT M k))), (8, .int (nI k)), (7, .int (nI (aa))), (5, .long bq), (4, .int (nI sp)), (3, .ref x), (2, .ref d), (1, .int (nI ti)), (0, .ref b)]) hx hb dL_law_174 hl (by decide) rfl (fun ls hl => ?_)
    obtain ⟨w8, hw8, ew8, em8⟩ := gg_231.l.wt hk ja_k (show v < 4 by omega)
    have hw80 : y9 = 8 → w8 ≠ 0 := fun e z => hy8 e (by rw [em8, z]; rfl)
    have hon : y9 = 0 ↔ o9 = 0 := hy0.trans (by rw [eo9]; exact nI_eq (b := 0) (by omega) (by omega))
    refine kz_cutD 244 (fun H locs ls => va_P D vwCl (PW cA (pI (pI U d 2 (nI (ru9 + 1))) d 2 (nI (ru9 + 1 + 1))) ++ PW cA x_231) H ∧ va_D A (PW cA (pI (pI U d 2 (nI (ru9 + 1))) d 2 (nI (ru9 + 1 + 1))) ++ PW cA x_231) ∧ va_S A s.heap H locs ∧ lv_has ls 16 [(15, .int (nI y9)), (14, .int (nI v)), (13, .int (nI g2)), (12, .int (nI g1)), (11, .int (nI i)), (10, .int 0), (9, .int (nI (vcT M k))), (8, .int (nI k)), (7, .int (nI (aa))), (5, .long bq), (4, .int (nI sp)), (3, .ref x), (2, .ref d), (1, .int (nI ti)), (0, .ref b)]) (fun hcut244 => ?_) (fun H locs ls f9244 hd0 hI => ?_)
    · refine lv_iload hx hb dL_law_176 (lv_at hl 1 rfl) ?_
      refine lv_if_lt (tgt := 242) hx hb dL_law_178 (by decide) (fun c_232 => ?_) (fun c_232 => ?_)
      · replace c_232 := (nI_ltI (a := v) (b := 0) (by omega) (by omega)).mp c_232
        exfalso; omega
      · replace c_232 : ¬ (v < 0) := fun h9 => c_232 ((nI_ltI (a := v) (b := 0) (by omega) (by omega)).mpr h9)
        refine lv_iload hx hb dL_law_181 (lv_at hl 1 rfl) ?_
        refine lv_iload hx hb dL_law_183 (lv_at hl 6 rfl) ?_
        refine lv_icmp_ge (tgt := 242) hx hb dL_law_185 (by decide) (fun c_233 => ?_) (fun c_233 => ?_)
        · replace c_233 := (nI_leI (a := vcT M k) (b := v) (by omega) (by omega)).mp c_233
          exfalso; omega
        · replace c_233 : ¬ (vcT M k ≤ v) := fun h9 => c_233 ((nI_leI (a := vcT M k) (b := v) (by omega) (by omega)).mpr h9)
          refine lv_iload hx hb dL_law_188 (lv_at hl 0 rfl) ?_
          refine lv_if_lt (tgt := 242) hx hb dL_law_190 (by decide) (fun c_234 => ?_) (fun c_234 => ?_)
          · replace c_234 := (nI_ltI (a := y9) (b := 0) (by omega) (by omega)).mp c_234
            exfalso; omega
          · replace c_234 : ¬ (y9 < 0) := fun h9 => c_234 ((nI_ltI (a := y9) (b := 0) (by omega) (by omega)).mpr h9)
            refine lv_iload hx hb dL_law_193 (lv_at hl 0 rfl) ?_
            refine lv_bipush (v := 8) hx hb dL_law_195 (by decide) ?_
            refine lv_icmp_gt (tgt := 242) hx hb dL_law_197 (by decide) (fun c_235 => ?_) (fun c_235 => ?_)
            · replace c_235 := (nI_ltI (a := 8) (b := y9) (by omega) (by omega)).mp c_235
              exfalso; omega
            · replace c_235 : ¬ (8 < y9) := fun h9 => c_235 ((nI_ltI (a := 8) (b := y9) (by omega) (by omega)).mpr h9)
              refine lv_iload hx hb dL_law_200 (lv_at hl 1 rfl) ?_
              refine lv_if_eq (tgt := 224) hx hb dL_law_202 (by decide) (fun c_236 => ?_) (fun c_236 => ?_)
              · replace c_236 := (nI_eq (a := v) (b := 0) (by omega) (by omega)).mp c_236
                refine lv_iload hx hb dL_law_224 (lv_at hl 0 rfl) ?_
                refine lv_bipush (v := 8) hx hb dL_law_226 (by decide) ?_
                refine lv_icmp_ne (tgt := 244) hx hb dL_law_228 (by decide) (fun c_237 => ?_) (fun c_237 => ?_)
                · replace c_237 : ¬ (y9 = 8) := fun h9 => c_237 ((nI_eq (a := y9) (b := 8) (by omega) (by omega)).mpr h9)
                  exact hcut244 H locs _ e_125 hd0 ⟨hP, hD, hS, lv_sub hl [0, 1, 2, 3, 4, 5, 6, 7, 8, 9, 10, 11, 12, 13, 14] rfl⟩
                · replace c_237 := (nI_eq (a := y9) (b := 8) (by omega) (by omega)).mp c_237
                  refine lv_aload_n hx hb dL_law_231 rfl (lv_at hl 11 rfl) ?_
                  refine lv_iload hx hb dL_law_232 (lv_at hl 7 rfl) ?_
                  refine lv_iload hx hb dL_law_234 (lv_at hl 1 rfl) ?_
                  refine kn_i (va_runV (As := [.int (nI k), .int (nI v)]) (rest := []) ⟨hx, hb, hml, hown, htT⟩ (c_weight l D cA _ x_231 x gg_231.c.hx ar gg_231.c.q0 ak gg_231.c.q1 gg_231.c.kk gg_231.c.R k q8_k a_k ja_k (nI k) sw_k (nI v) (gg_231.vko hk ja_k evc hv hvc4)) (cwV 2 htT (kg_V m_ml_L_56 m_im_X5_weight m_sl_X5_weight m_in_X5 m_cd_X5_weight) rfl rfl rfl (by decide +kernel) ⟨Nat.le_of_ble_eq_true rfl, Nat.le_of_ble_eq_true rfl⟩) (kn_V hK hP hD hTB gg_231.c.hx (Nat.le_of_ble_eq_true rfl) rfl) rfl rfl hl.1 rfl (lv_room (Nat.le_of_ble_eq_true rfl)) dL_law_236 ⟨(by show _ ≤ 600086; omega), (by show _ ≤ 7301442; omega)⟩) hP hD hS hA (fun r_238 x_238 H locs hq_238 hP hD hS => ?_)
                  rw [hq_238.2] at hP hD
                  rw [hq_238.1.trans ew8]
                  refine lv_if_ne (tgt := 244) hx hb dL_law_239 (by decide) (fun c_239 => ?_) (fun c_239 => ?_)
                  · replace c_239 : ¬ (w8 = 0) := fun h9 => c_239 ((nI_eq (a := w8) (b := 0) (by omega) (by omega)).mpr h9)
                    exact hcut244 H locs _ e_125 hd0 ⟨hP, hD, hS, lv_sub hl [0, 1, 2, 3, 4, 5, 6, 7, 8, 9, 10, 11, 12, 13, 14] rfl⟩
                  · replace c_239 := (nI_eq (a := w8) (b := 0) (by omega) (by omega)).mp c_239
                    exfalso; omega
              · replace c_236 : ¬ (v = 0) := fun h9 => c_236 ((nI_eq (a := v) (b := 0) (by omega) (by omega)).mpr h9)
                refine lv_iload hx hb dL_law_205 (lv_at hl 0 rfl) ?_
                refine lv_iconst (v := 2) hx hb dL_law_207 (by decide) ?_
                refine lv_icmp_lt (tgt := 242) hx hb dL_law_208 (by decide) (fun c_240 => ?_) (fun c_240 => ?_)
                · replace c_240 := (nI_ltI (a := y9) (b := 2) (by omega) (by omega)).mp c_240
                  exfalso; omega
                · replace c_240 : ¬ (y9 < 2) := fun h9 => c_240 ((nI_ltI (a := y9) (b := 2) (by omega) (by omega)).mpr h9)
                  refine lv_iload hx hb dL_law_211 (lv_at hl 0 rfl) ?_
                  refine lv_iconst (v := 3) hx hb dL_law_213 (by decide) ?_
                  refine lv_icmp_le (tgt := 224) hx hb dL_law_214 (by decide) (fun c_241 => ?_) (fun c_241 => ?_)
                  · replace c_241 := (nI_leI (a := y9) (b := 3) (by omega) (by omega)).mp c_241
                    refine lv_iload hx hb dL_law_224 (lv_at hl 0 rfl) ?_
                    refine lv_bipush (v := 8) hx hb dL_law_226 (by decide) ?_
                    refine lv_icmp_ne (tgt := 244) hx hb dL_law_228 (by decide) (fun c_242 => ?_) (fun c_242 => ?_)
                    · replace c_242 : ¬ (y9 = 8) := fun h9 => c_242 ((nI_eq (a := y9) (b := 8) (by omega) (by omega)).mpr h9)
                      exact hcut244 H locs _ e_125 hd0 ⟨hP, hD, hS, lv_sub hl [0, 1, 2, 3, 4, 5, 6, 7, 8, 9, 10, 11, 12, 13, 14] rfl⟩
                    · replace c_242 := (nI_eq (a := y9) (b := 8) (by omega) (by omega)).mp c_242
                      refine lv_aload_n hx hb dL_law_231 rfl (lv_at hl 11 rfl) ?_
                      refine lv_iload hx hb dL_law_232 (lv_at hl 7 rfl) ?_
                      refine lv_iload hx hb dL_law_234 (lv_at hl 1 rfl) ?_
                      refine kn_i (va_runV (As := [.int (nI k), .int (nI v)]) (rest := []) ⟨hx, hb, hml, hown, htT⟩ (c_weight l D cA _ x_231 x gg_231.c.hx ar gg_231.c.q0 ak gg_231.c.q1 gg_231.c.kk gg_231.c.R k q8_k a_k ja_k (nI k) sw_k (nI v) (gg_231.vko hk ja_k evc hv hvc4)) (cwV 2 htT (kg_V m_ml_L_56 m_im_X5_weight m_sl_X5_weight m_in_X5 m_cd_X5_weight) rfl rfl rfl (by decide +kernel) ⟨Nat.le_of_ble_eq_true rfl, Nat.le_of_ble_eq_true rfl⟩) (kn_V hK hP hD hTB gg_231.c.hx (Nat.le_of_ble_eq_true rfl) rfl) rfl rfl hl.1 rfl (lv_room (Nat.le_of_ble_eq_true rfl)) dL_law_236 ⟨(by show _ ≤ 600086; omega), (by show _ ≤ 7301442; omega)⟩) hP hD hS hA (fun r_243 x_243 H locs hq_243 hP hD hS => ?_)
                      rw [hq_243.2] at hP hD
                      rw [hq_243.1.trans ew8]
                      refine lv_if_ne (tgt := 244) hx hb dL_law_239 (by decide) (fun c_244 => ?_) (fun c_244 => ?_)
                      · replace c_244 : ¬ (w8 = 0) := fun h9 => c_244 ((nI_eq (a := w8) (b := 0) (by omega) (by omega)).mpr h9)
                        exact hcut244 H locs _ e_125 hd0 ⟨hP, hD, hS, lv_sub hl [0, 1, 2, 3, 4, 5, 6, 7, 8, 9, 10, 11, 12, 13, 14] rfl⟩
                      · replace c_244 := (nI_eq (a := w8) (b := 0) (by omega) (by omega)).mp c_244
                        exfalso; omega
                  · replace c_241 : ¬ (y9 ≤ 3) := fun h9 => c_241 ((nI_leI (a := y9) (b := 3) (by omega) (by omega)).mpr h9)
                    refine lv_iload hx hb dL_law_217 (lv_at hl 0 rfl) ?_
                    refine lv_bipush (v := 8) hx hb dL_law_219 (by decide) ?_
                    refine lv_icmp_lt (tgt := 242) hx hb dL_law_221 (by decide) (fun c_245 => ?_) (fun c_245 => ?_)
                    · replace c_245 := (nI_ltI (a := y9) (b := 8) (by omega) (by omega)).mp c_245
                      exfalso; omega
                    · replace c_245 : ¬ (y9 < 8) := fun h9 => c_245 ((nI_ltI (a := y9) (b := 8) (by omega) (by omega)).mpr h9)
                      refine lv_iload hx hb dL_law_224 (lv_at hl 0 rfl) ?_
                      refine lv_bipush (v := 8) hx hb dL_law_226 (by decide) ?_
                      refine lv_icmp_ne (tgt := 244) hx hb dL_law_228 (by decide) (fun c_246 => ?_) (fun c_246 => ?_)
                      · replace c_246 : ¬ (y9 = 8) := fun h9 => c_246 ((nI_eq (a := y9) (b := 8) (by omega) (by omega)).mpr h9)
                        exact hcut244 H locs _ e_125 hd0 ⟨hP, hD, hS, lv_sub hl [0, 1, 2, 3, 4, 5, 6, 7, 8, 9, 10, 11, 12, 13, 14] rfl⟩
                      · replace c_246 := (nI_eq (a := y9) (b := 8) (by omega) (by omega)).mp c_246
                        refine lv_aload_n hx hb dL_law_231 rfl (lv_at hl 11 rfl) ?_
                        refine lv_iload hx hb dL_law_232 (lv_at hl 7 rfl) ?_
                        refine lv_iload hx hb dL_law_234 (lv_at hl 1 rfl) ?_
                        refine kn_i (va_runV (As := [.int (nI k), .int (nI v)]) (rest := []) ⟨hx, hb, hml, hown, htT⟩ (c_weight l D cA _ x_231 x gg_231.c.hx ar gg_231.c.q0 ak gg_231.c.q1 gg_231.c.kk gg_231.c.R k q8_k a_k ja_k (nI k) sw_k (nI v) (gg_231.vko hk ja_k evc hv hvc4)) (cwV 2 htT (kg_V m_ml_L_56 m_im_X5_weight m_sl_X5_weight m_in_X5 m_cd_X5_weight) rfl rfl rfl (by decide +kernel) ⟨Nat.le_of_ble_eq_true rfl, Nat.le_of_ble_eq_true rfl⟩) (kn_V hK hP hD hTB gg_231.c.hx (Nat.le_of_ble_eq_true rfl) rfl) rfl rfl hl.1 rfl (lv_room (Nat.le_of_ble_eq_true rfl)) dL_law_236 ⟨(by show _ ≤ 600086; omega), (by show _ ≤ 7301442; omega)⟩) hP hD hS hA (fun r_247 x_247 H locs hq_247 hP hD hS => ?_)
                        rw [hq_247.2] at hP hD
                        rw [hq_247.1.trans ew8]
                        refine lv_if_ne (tgt := 244) hx hb dL_law_239 (by decide) (fun c_248 => ?_) (fun c_248 => ?_)
                        · replace c_248 : ¬ (w8 = 0) := fun h9 => c_248 ((nI_eq (a := w8) (b := 0) (by omega) (by omega)).mpr h9)
                          exact hcut244 H locs _ e_125 hd0 ⟨hP, hD, hS, lv_sub hl [0, 1, 2, 3, 4, 5, 6, 7, 8, 9, 10, 11, 12, 13, 14] rfl⟩
                        · replace c_248 := (nI_eq (a := w8) (b := 0) (by omega) (by omega)).mp c_248
                          exfalso; omega
    · obtain ⟨hP, hD, hS, hl⟩ := hI
      have htT : ∀ w ∈ TT, w.before _ (s.setDrawn f9244) = true := dr_words htT0 f9244
      have hTB : TBok (s.setDrawn f9244) := TBok.same (u := s) (U := s.setDrawn f9244) rfl (Vm.Alike.refl s.vm) hTB0
      have hK : va_K D vwCl (ty6 cA) (s.setDrawn f9244) := hK0
      have hown : (s.setDrawn f9244).vm.findClass RL = some m.cls := hown0
      have hTX : TXok A (s.setDrawn f9244) := hTX0.dr f9244
      have hX : va_X b L xs (s.setDrawn f9244) (s.setDrawn f9244).heap := hX0
      have hAO : va_AOA .int (s.setDrawn f9244) ∧ va_AOA (.array .int) (s.setDrawn f9244) := ⟨va_AOA.moved (u := s) (U := s.setDrawn f9244) (Vm.Alike.refl s.vm) hAO0.1, va_AOA.moved (u := s) (U := s.setDrawn f9244) (Vm.Alike.refl s.vm) hAO0.2⟩
      have rk := hok.2.2.2.2 k hk
      have ehd : cHold x_231 (rlA x_231 a_k) (nI g1) (nI g2) 5 0 = rHold M.2 k (nI g1) (nI g2) (ru k) 0 := hold_eq (gg_231.l.1 k hk a_k ja_k).2.2.1 rk.1 rk.2.1
      rcases hold_or (T := M.2) (i := k) (f := nI g1) (g := nI g2) (ru k) 0 (by omega) with eh | ⟨zh, hzh, eh⟩
      · have hn3 : y9 ≠ 3 := fun z => hy3 z eh
        refine lv_aload_n hx hb dL_law_244 rfl (lv_at hl 12 rfl) ?_
        refine kd_gets (r := (aO Ad)) hx hb htT m_u_X6 hown hK hP dk_229.o rfl 6 (by decide) (by decide) rfl dk_229.q6 (htT _ m_fl_L_41) dL_law_245 ?_
        refine lv_iload hx hb dL_law_248 (lv_at hl 7 rfl) ?_
        refine ky_alda (r := some (aOk Ad k)) hx hb hK hP dk_229.ao (show vp_in (nI (k)) 8 from ki_in (by omega) (by omega)) ((congrArg _ (ki_cl (n := k) (by omega))).trans (dk_229.op (k := k) (show k < n by omega))) dL_law_250 ?_
        refine lv_iconst (v := 3) hx hb dL_law_251 (by decide) ?_
        refine kx_ialdv (x := nI o9) hx hb hK (kmy_P hP) (dk_229.oa (k := k) (show k < n by omega)) (Nat.le_of_ble_eq_true rfl) (Nat.le_of_ble_eq_true rfl) (show vp_in 3 12 from ki_in (n := 3) (by omega) (by omega)) ((congrArg _ (ki_cl (n := 3) (by omega))).trans ((dk_229.ov (k := k) (j := 3) (show k < n by omega) (show 3 < 12 by omega)).trans (((hvmu.o hk (q := (3, 11)) (by decide)).trans eo9)))) dL_law_252 ?_
        refine lv_if_ne (tgt := 260) hx hb dL_law_253 (by decide) (fun c_249 => ?_) (fun c_249 => ?_)
        · replace c_249 : ¬ (o9 = 0) := fun h9 => c_249 ((nI_eq (a := o9) (b := 0) (by omega) (by omega)).mpr h9)
          refine lv_iconst (v := 0) hx hb dL_law_260 (by decide) ?_
          refine lv_iload hx hb dL_law_261 (lv_at hl 0 rfl) ?_
          refine lv_if_ne (tgt := 270) hx hb dL_law_263 (by decide) (fun c_250 => ?_) (fun c_250 => ?_)
          · replace c_250 : ¬ (y9 = 0) := fun h9 => c_250 ((nI_eq (a := y9) (b := 0) (by omega) (by omega)).mpr h9)
            refine lv_iconst (v := 0) hx hb dL_law_270 (by decide) ?_
            refine lv_icmp_ne (tgt := 336) hx hb dL_law_271 (by decide) (fun c_251 => absurd c_251 (by decide)) (fun _ => ?_)
            refine lv_iload hx hb dL_law_274 (lv_at hl 0 rfl) ?_
            refine lv_iconst (v := 3) hx hb dL_law_276 (by decide) ?_
            refine lv_icmp_ne (tgt := 295) hx hb dL_law_277 (by decide) (fun c_252 => ?_) (fun c_252 => ?_)
            · replace c_252 : ¬ (y9 = 3) := fun h9 => c_252 ((nI_eq (a := y9) (b := 3) (by omega) (by omega)).mpr h9)
              refine lv_iload hx hb dL_law_295 (lv_at hl 0 rfl) ?_
              refine lv_bipush (v := 7) hx hb dL_law_297 (by decide) ?_
              refine lv_icmp_ne (tgt := 317) hx hb dL_law_299 (by decide) (fun c_253 => ?_) (fun c_253 => ?_)
              · replace c_253 : ¬ (y9 = 7) := fun h9 => c_253 ((nI_eq (a := y9) (b := 7) (by omega) (by omega)).mpr h9)
                refine lv_iload hx hb dL_law_317 (lv_at hl 0 rfl) ?_
                refine lv_iconst (v := 2) hx hb dL_law_319 (by decide) ?_
                refine lv_icmp_ne (tgt := 338) hx hb dL_law_320 (by decide) (fun c_254 => ?_) (fun c_254 => ?_)
                · replace c_254 : ¬ (y9 = 2) := fun h9 => c_254 ((nI_eq (a := y9) (b := 2) (by omega) (by omega)).mpr h9)
                  refine lv_iinc (v := nI (i + 1)) (lv' := [(11, .int (nI (i + 1))), (15, .int (nI y9)), (14, .int (nI v)), (13, .int (nI g2)), (12, .int (nI g1)), (10, .int 0), (9, .int (nI (vcT M k))), (8, .int (nI k)), (7, .int (nI (aa))), (5, .long bq), (4, .int (nI sp)), (3, .ref x), (2, .ref d), (1, .int (nI ti)), (0, .ref b)]) hx hb dL_law_338 hl (k := 4) rfl (nI_1 _) (by decide) rfl (fun ls hl => ?_)
                  refine lv_goto (tgt := 125) hx hb dL_law_341 (by decide) ?_
                  have hl := lv_sub hl [0, 5, 6, 7, 8, 9, 10, 11, 12, 13, 14] rfl
                  exact ih_125 _ (by omega) H locs ls f9244 hd0 ⟨pI (pI U d 2 (nI (ru9 + 1))) d 2 (nI (ru9 + 1 + 1)), x_231, (upd (upd fu 2 (nI (ru9 + 1))) 2 (nI (ru9 + 1 + 1))), (ru9 + 1 + 1), i + 1, rfl, (by omega), (by omega), dk_229, ((hvmu.draw (d2 := ru9 + 1)).draw (d2 := ru9 + 1 + 1)), gg_231, hP, hD, hS, hl⟩
                · replace c_254 := (nI_eq (a := y9) (b := 2) (by omega) (by omega)).mp c_254
                  refine lv_aload_n hx hb dL_law_323 rfl (lv_at hl 11 rfl) ?_
                  refine lv_iload hx hb dL_law_324 (lv_at hl 7 rfl) ?_
                  refine lv_iload hx hb dL_law_326 (lv_at hl 4 rfl) ?_
                  refine kn_i (va_runV (As := [.int (nI k), .int (nI i)]) (rest := []) ⟨hx, hb, hml, hown, htT⟩ (c_arm l D cA _ x_231 x gg_231.c.hx ar gg_231.c.q0 ak gg_231.c.q1 gg_231.c.kk gg_231.c.R k q8_k a_k ja_k (nI k) sw_k (nI i) (kOut_n (a := i) (lo := 0) (hi := 9999) (by omega) (by omega) (by omega))) (cwV 2 htT (kg_V m_ml_L_63 m_im_X5_arm m_sl_X5_arm m_in_X5 m_cd_X5_arm) rfl rfl rfl (by decide +kernel) ⟨Nat.le_of_ble_eq_true rfl, Nat.le_of_ble_eq_true rfl⟩) (kn_V hK hP hD hTB gg_231.c.hx (Nat.le_of_ble_eq_true rfl) rfl) rfl rfl hl.1 rfl (lv_room (Nat.le_of_ble_eq_true rfl)) dL_law_328 ⟨(by show _ ≤ 600086; omega), (by show _ ≤ 7301442; omega)⟩) hP hD hS hA (fun r_255 x_255 H locs hq_255 hP hD hS => ?_)
                  rw [hq_255.2] at hP hD
                  have har : rArmV M.2 (rArm M.2 (nI k) (nI i) na 0) = nI v := by unfold rArmV; rw [if_neg (hy2 (by omega)).1]; exact (hy2 (by omega)).2
                  rw [hq_255.1.trans ((armv_eq gg_231.l gg_231.c hna hk ja_k).trans har)]
                  refine lv_iload hx hb dL_law_331 (lv_at hl 1 rfl) ?_
                  refine lv_icmp_eq (tgt := 338) hx hb dL_law_333 (by decide) (fun c_256 => ?_) (fun c_256 => ?_)
                  · refine lv_iinc (v := nI (i + 1)) (lv' := [(11, .int (nI (i + 1))), (15, .int (nI y9)), (14, .int (nI v)), (13, .int (nI g2)), (12, .int (nI g1)), (10, .int 0), (9, .int (nI (vcT M k))), (8, .int (nI k)), (7, .int (nI (aa))), (5, .long bq), (4, .int (nI sp)), (3, .ref x), (2, .ref d), (1, .int (nI ti)), (0, .ref b)]) hx hb dL_law_338 hl (k := 4) rfl (nI_1 _) (by decide) rfl (fun ls hl => ?_)
                    refine lv_goto (tgt := 125) hx hb dL_law_341 (by decide) ?_
                    have hl := lv_sub hl [0, 5, 6, 7, 8, 9, 10, 11, 12, 13, 14] rfl
                    exact ih_125 _ (by omega) H locs ls f9244 hd0 ⟨pI (pI U d 2 (nI (ru9 + 1))) d 2 (nI (ru9 + 1 + 1)), x_231, (upd (upd fu 2 (nI (ru9 + 1))) 2 (nI (ru9 + 1 + 1))), (ru9 + 1 + 1), i + 1, rfl, (by omega), (by omega), dk_229, ((hvmu.draw (d2 := ru9 + 1)).draw (d2 := ru9 + 1 + 1)), gg_231, hP, hD, hS, hl⟩
                  · exact absurd rfl c_256
              · replace c_253 := (nI_eq (a := y9) (b := 7) (by omega) (by omega)).mp c_253
                refine lv_aload_n hx hb dL_law_302 rfl (lv_at hl 11 rfl) ?_
                refine lv_iload hx hb dL_law_303 (lv_at hl 7 rfl) ?_
                refine lv_iload hx hb dL_law_305 (lv_at hl 4 rfl) ?_
                refine lv_iload hx hb dL_law_307 (lv_at hl 3 rfl) ?_
                refine lv_iload hx hb dL_law_309 (lv_at hl 2 rfl) ?_
                refine kn_i (va_runV (As := [.int (nI k), .int (nI i), .int (nI g1), .int (nI g2)]) (rest := []) ⟨hx, hb, hml, hown, htT⟩ (c_holds l D cA _ x_231 x gg_231.c.hx ar gg_231.c.q0 ak gg_231.c.q1 gg_231.c.kk gg_231.c.R k q8_k a_k ja_k (nI k) sw_k (nI i) (nI g1) (nI g2) (kOut_n (a := i) (lo := 0) (hi := 9999) (by omega) (by omega) (by omega)) (kOut_n (a := g1) (lo := 0) (hi := 9) (by omega) (by omega) (by omega)) (kOut_n (a := g2) (lo := 0) (hi := 9) (by omega) (by omega) (by omega))) (cwV 4 htT (kg_V m_ml_L_60 m_im_X5_holds m_sl_X5_holds m_in_X5 m_cd_X5_holds) rfl rfl rfl (by decide +kernel) ⟨Nat.le_of_ble_eq_true rfl, Nat.le_of_ble_eq_true rfl⟩) (kn_V hK hP hD hTB gg_231.c.hx (Nat.le_of_ble_eq_true rfl) rfl) rfl rfl hl.1 rfl (lv_room (Nat.le_of_ble_eq_true rfl)) dL_law_311 ⟨(by show _ ≤ 600086; omega), (by show _ ≤ 7301442; omega)⟩) hP hD hS hA (fun r_257 x_257 H locs hq_257 hP hD hS => ?_)
                rw [hq_257.2] at hP hD
                rw [hq_257.1.trans (ehd.trans eh)]
                refine lv_if_ge (tgt := 336) hx hb dL_law_314 (by decide) (fun c_258 => absurd c_258 (by decide)) (fun _ => ?_)
                refine lv_iload hx hb dL_law_317 (lv_at hl 0 rfl) ?_
                refine lv_iconst (v := 2) hx hb dL_law_319 (by decide) ?_
                refine lv_icmp_ne (tgt := 338) hx hb dL_law_320 (by decide) (fun c_259 => ?_) (fun c_259 => ?_)
                · replace c_259 : ¬ (y9 = 2) := fun h9 => c_259 ((nI_eq (a := y9) (b := 2) (by omega) (by omega)).mpr h9)
                  refine lv_iinc (v := nI (i + 1)) (lv' := [(11, .int (nI (i + 1))), (15, .int (nI y9)), (14, .int (nI v)), (13, .int (nI g2)), (12, .int (nI g1)), (10, .int 0), (9, .int (nI (vcT M k))), (8, .int (nI k)), (7, .int (nI (aa))), (5, .long bq), (4, .int (nI sp)), (3, .ref x), (2, .ref d), (1, .int (nI ti)), (0, .ref b)]) hx hb dL_law_338 hl (k := 4) rfl (nI_1 _) (by decide) rfl (fun ls hl => ?_)
                  refine lv_goto (tgt := 125) hx hb dL_law_341 (by decide) ?_
                  have hl := lv_sub hl [0, 5, 6, 7, 8, 9, 10, 11, 12, 13, 14] rfl
                  exact ih_125 _ (by omega) H locs ls f9244 hd0 ⟨pI (pI U d 2 (nI (ru9 + 1))) d 2 (nI (ru9 + 1 + 1)), x_231, (upd (upd fu 2 (nI (ru9 + 1))) 2 (nI (ru9 + 1 + 1))), (ru9 + 1 + 1), i + 1, rfl, (by omega), (by omega), dk_229, ((hvmu.draw (d2 := ru9 + 1)).draw (d2 := ru9 + 1 + 1)), gg_231, hP, hD, hS, hl⟩
                · replace c_259 := (nI_eq (a := y9) (b := 2) (by omega) (by omega)).mp c_259
                  refine lv_aload_n hx hb dL_law_323 rfl (lv_at hl 11 rfl) ?_
                  refine lv_iload hx hb dL_law_324 (lv_at hl 7 rfl) ?_
                  refine lv_iload hx hb dL_law_326 (lv_at hl 4 rfl) ?_
                  refine kn_i (va_runV (As := [.int (nI k), .int (nI i)]) (rest := []) ⟨hx, hb, hml, hown, htT⟩ (c_arm l D cA _ x_231 x gg_231.c.hx ar gg_231.c.q0 ak gg_231.c.q1 gg_231.c.kk gg_231.c.R k q8_k a_k ja_k (nI k) sw_k (nI i) (kOut_n (a := i) (lo := 0) (hi := 9999) (by omega) (by omega) (by omega))) (cwV 2 htT (kg_V m_ml_L_63 m_im_X5_arm m_sl_X5_arm m_in_X5 m_cd_X5_arm) rfl rfl rfl (by decide +kernel) ⟨Nat.le_of_ble_eq_true rfl, Nat.le_of_ble_eq_true rfl⟩) (kn_V hK hP hD hTB gg_231.c.hx (Nat.le_of_ble_eq_true rfl) rfl) rfl rfl hl.1 rfl (lv_room (Nat.le_of_ble_eq_true rfl)) dL_law_328 ⟨(by show _ ≤ 600086; omega), (by show _ ≤ 7301442; omega)⟩) hP hD hS hA (fun r_260 x_260 H locs hq_260 hP hD hS => ?_)
                  rw [hq_260.2] at hP hD
                  have har : rArmV M.2 (rArm M.2 (nI k) (nI i) na 0) = nI v := by unfold rArmV; rw [if_neg (hy2 (by omega)).1]; exact (hy2 (by omega)).2
                  rw [hq_260.1.trans ((armv_eq gg_231.l gg_231.c hna hk ja_k).trans har)]
                  refine lv_iload hx hb dL_law_331 (lv_at hl 1 rfl) ?_
                  refine lv_icmp_eq (tgt := 338) hx hb dL_law_333 (by decide) (fun c_261 => ?_) (fun c_261 => ?_)
                  · refine lv_iinc (v := nI (i + 1)) (lv' := [(11, .int (nI (i + 1))), (15, .int (nI y9)), (14, .int (nI v)), (13, .int (nI g2)), (12, .int (nI g1)), (10, .int 0), (9, .int (nI (vcT M k))), (8, .int (nI k)), (7, .int (nI (aa))), (5, .long bq), (4, .int (nI sp)), (3, .ref x), (2, .ref d), (1, .int (nI ti)), (0, .ref b)]) hx hb dL_law_338 hl (k := 4) rfl (nI_1 _) (by decide) rfl (fun ls hl => ?_)
                    refine lv_goto (tgt := 125) hx hb dL_law_341 (by decide) ?_
                    have hl := lv_sub hl [0, 5, 6, 7, 8, 9, 10, 11, 12, 13, 14] rfl
                    exact ih_125 _ (by omega) H locs ls f9244 hd0 ⟨pI (pI U d 2 (nI (ru9 + 1))) d 2 (nI (ru9 + 1 + 1)), x_231, (upd (upd fu 2 (nI (ru9 + 1))) 2 (nI (ru9 + 1 + 1))), (ru9 + 1 + 1), i + 1, rfl, (by omega), (by omega), dk_229, ((hvmu.draw (d2 := ru9 + 1)).draw (d2 := ru9 + 1 + 1)), gg_231, hP, hD, hS, hl⟩
                  · exact absurd rfl c_261
            · replace c_252 := (nI_eq (a := y9) (b := 3) (by omega) (by omega)).mp c_252
              refine lv_aload_n hx hb dL_law_280 rfl (lv_at hl 11 rfl) ?_
              refine lv_iload hx hb dL_law_281 (lv_at hl 7 rfl) ?_
              refine lv_iload hx hb dL_law_283 (lv_at hl 4 rfl) ?_
              refine lv_iload hx hb dL_law_285 (lv_at hl 3 rfl) ?_
              refine lv_iload hx hb dL_law_287 (lv_at hl 2 rfl) ?_
              refine kn_i (va_runV (As := [.int (nI k), .int (nI i), .int (nI g1), .int (nI g2)]) (rest := []) ⟨hx, hb, hml, hown, htT⟩ (c_holds l D cA _ x_231 x gg_231.c.hx ar gg_231.c.q0 ak gg_231.c.q1 gg_231.c.kk gg_231.c.R k q8_k a_k ja_k (nI k) sw_k (nI i) (nI g1) (nI g2) (kOut_n (a := i) (lo := 0) (hi := 9999) (by omega) (by omega) (by omega)) (kOut_n (a := g1) (lo := 0) (hi := 9) (by omega) (by omega) (by omega)) (kOut_n (a := g2) (lo := 0) (hi := 9) (by omega) (by omega) (by omega))) (cwV 4 htT (kg_V m_ml_L_60 m_im_X5_holds m_sl_X5_holds m_in_X5 m_cd_X5_holds) rfl rfl rfl (by decide +kernel) ⟨Nat.le_of_ble_eq_true rfl, Nat.le_of_ble_eq_true rfl⟩) (kn_V hK hP hD hTB gg_231.c.hx (Nat.le_of_ble_eq_true rfl) rfl) rfl rfl hl.1 rfl (lv_room (Nat.le_of_ble_eq_true rfl)) dL_law_289 ⟨(by show _ ≤ 600086; omega), (by show _ ≤ 7301442; omega)⟩) hP hD hS hA (fun r_262 x_262 H locs hq_262 hP hD hS => ?_)
              rw [hq_262.2] at hP hD
              rw [hq_262.1.trans (ehd.trans eh)]
              refine lv_if_lt (tgt := 336) hx hb dL_law_292 (by decide) (fun _ => ?_) (fun c_263 => absurd c_263 (by decide))
              exfalso; omega
          · replace c_250 := (nI_eq (a := y9) (b := 0) (by omega) (by omega)).mp c_250
            refine lv_iconst (v := 1) hx hb dL_law_266 (by decide) ?_
            refine lv_goto (tgt := 271) hx hb dL_law_267 (by decide) ?_
            refine lv_icmp_ne (tgt := 336) hx hb dL_law_271 (by decide) (fun _ => ?_) (fun c_264 => absurd c_264 (by decide))
            exfalso; omega
        · replace c_249 := (nI_eq (a := o9) (b := 0) (by omega) (by omega)).mp c_249
          refine lv_iconst (v := 1) hx hb dL_law_256 (by decide) ?_
          refine lv_goto (tgt := 261) hx hb dL_law_257 (by decide) ?_
          refine lv_iload hx hb dL_law_261 (lv_at hl 0 rfl) ?_
          refine lv_if_ne (tgt := 270) hx hb dL_law_263 (by decide) (fun c_265 => ?_) (fun c_265 => ?_)
          · replace c_265 : ¬ (y9 = 0) := fun h9 => c_265 ((nI_eq (a := y9) (b := 0) (by omega) (by omega)).mpr h9)
            refine lv_iconst (v := 0) hx hb dL_law_270 (by decide) ?_
            refine lv_icmp_ne (tgt := 336) hx hb dL_law_271 (by decide) (fun _ => ?_) (fun c_266 => absurd c_266 (by decide))
            exfalso; omega
          · replace c_265 := (nI_eq (a := y9) (b := 0) (by omega) (by omega)).mp c_265
            refine lv_iconst (v := 1) hx hb dL_law_266 (by decide) ?_
            refine lv_goto (tgt := 271) hx hb dL_law_267 (by decide) ?_
            refine lv_icmp_ne (tgt := 336) hx hb dL_law_271 (by decide) (fun c_267 => absurd c_267 (by decide)) (fun _ => ?_)
            refine lv_iload hx hb dL_law_274 (lv_at hl 0 rfl) ?_
            refine lv_iconst (v := 3) hx hb dL_law_276 (by decide) ?_
            refine lv_icmp_ne (tgt := 295) hx hb dL_law_277 (by decide) (fun c_268 => ?_) (fun c_268 => ?_)
            · replace c_268 : ¬ (y9 = 3) := fun h9 => c_268 ((nI_eq (a := y9) (b := 3) (by omega) (by omega)).mpr h9)
              refine lv_iload hx hb dL_law_295 (lv_at hl 0 rfl) ?_
              refine lv_bipush (v := 7) hx hb dL_law_297 (by decide) ?_
              refine lv_icmp_ne (tgt := 317) hx hb dL_law_299 (by decide) (fun c_269 => ?_) (fun c_269 => ?_)
              · replace c_269 : ¬ (y9 = 7) := fun h9 => c_269 ((nI_eq (a := y9) (b := 7) (by omega) (by omega)).mpr h9)
                refine lv_iload hx hb dL_law_317 (lv_at hl 0 rfl) ?_
                refine lv_iconst (v := 2) hx hb dL_law_319 (by decide) ?_
                refine lv_icmp_ne (tgt := 338) hx hb dL_law_320 (by decide) (fun c_270 => ?_) (fun c_270 => ?_)
                · replace c_270 : ¬ (y9 = 2) := fun h9 => c_270 ((nI_eq (a := y9) (b := 2) (by omega) (by omega)).mpr h9)
                  refine lv_iinc (v := nI (i + 1)) (lv' := [(11, .int (nI (i + 1))), (15, .int (nI y9)), (14, .int (nI v)), (13, .int (nI g2)), (12, .int (nI g1)), (10, .int 0), (9, .int (nI (vcT M k))), (8, .int (nI k)), (7, .int (nI (aa))), (5, .long bq), (4, .int (nI sp)), (3, .ref x), (2, .ref d), (1, .int (nI ti)), (0, .ref b)]) hx hb dL_law_338 hl (k := 4) rfl (nI_1 _) (by decide) rfl (fun ls hl => ?_)
                  refine lv_goto (tgt := 125) hx hb dL_law_341 (by decide) ?_
                  have hl := lv_sub hl [0, 5, 6, 7, 8, 9, 10, 11, 12, 13, 14] rfl
                  exact ih_125 _ (by omega) H locs ls f9244 hd0 ⟨pI (pI U d 2 (nI (ru9 + 1))) d 2 (nI (ru9 + 1 + 1)), x_231, (upd (upd fu 2 (nI (ru9 + 1))) 2 (nI (ru9 + 1 + 1))), (ru9 + 1 + 1), i + 1, rfl, (by omega), (by omega), dk_229, ((hvmu.draw (d2 := ru9 + 1)).draw (d2 := ru9 + 1 + 1)), gg_231, hP, hD, hS, hl⟩
                · replace c_270 := (nI_eq (a := y9) (b := 2) (by omega) (by omega)).mp c_270
                  refine lv_aload_n hx hb dL_law_323 rfl (lv_at hl 11 rfl) ?_
                  refine lv_iload hx hb dL_law_324 (lv_at hl 7 rfl) ?_
                  refine lv_iload hx hb dL_law_326 (lv_at hl 4 rfl) ?_
                  refine kn_i (va_runV (As := [.int (nI k), .int (nI i)]) (rest := []) ⟨hx, hb, hml, hown, htT⟩ (c_arm l D cA _ x_231 x gg_231.c.hx ar gg_231.c.q0 ak gg_231.c.q1 gg_231.c.kk gg_231.c.R k q8_k a_k ja_k (nI k) sw_k (nI i) (kOut_n (a := i) (lo := 0) (hi := 9999) (by omega) (by omega) (by omega))) (cwV 2 htT (kg_V m_ml_L_63 m_im_X5_arm m_sl_X5_arm m_in_X5 m_cd_X5_arm) rfl rfl rfl (by decide +kernel) ⟨Nat.le_of_ble_eq_true rfl, Nat.le_of_ble_eq_true rfl⟩) (kn_V hK hP hD hTB gg_231.c.hx (Nat.le_of_ble_eq_true rfl) rfl) rfl rfl hl.1 rfl (lv_room (Nat.le_of_ble_eq_true rfl)) dL_law_328 ⟨(by show _ ≤ 600086; omega), (by show _ ≤ 7301442; omega)⟩) hP hD hS hA (fun r_271 x_271 H locs hq_271 hP hD hS => ?_)
                  rw [hq_271.2] at hP hD
                  have har : rArmV M.2 (rArm M.2 (nI k) (nI i) na 0) = nI v := by unfold rArmV; rw [if_neg (hy2 (by omega)).1]; exact (hy2 (by omega)).2
                  rw [hq_271.1.trans ((armv_eq gg_231.l gg_231.c hna hk ja_k).trans har)]
                  refine lv_iload hx hb dL_law_331 (lv_at hl 1 rfl) ?_
                  refine lv_icmp_eq (tgt := 338) hx hb dL_law_333 (by decide) (fun c_272 => ?_) (fun c_272 => ?_)
                  · refine lv_iinc (v := nI (i + 1)) (lv' := [(11, .int (nI (i + 1))), (15, .int (nI y9)), (14, .int (nI v)), (13, .int (nI g2)), (12, .int (nI g1)), (10, .int 0), (9, .int (nI (vcT M k))), (8, .int (nI k)), (7, .int (nI (aa))), (5, .long bq), (4, .int (nI sp)), (3, .ref x), (2, .ref d), (1, .int (nI ti)), (0, .ref b)]) hx hb dL_law_338 hl (k := 4) rfl (nI_1 _) (by decide) rfl (fun ls hl => ?_)
                    refine lv_goto (tgt := 125) hx hb dL_law_341 (by decide) ?_
                    have hl := lv_sub hl [0, 5, 6, 7, 8, 9, 10, 11, 12, 13, 14] rfl
                    exact ih_125 _ (by omega) H locs ls f9244 hd0 ⟨pI (pI U d 2 (nI (ru9 + 1))) d 2 (nI (ru9 + 1 + 1)), x_231, (upd (upd fu 2 (nI (ru9 + 1))) 2 (nI (ru9 + 1 + 1))), (ru9 + 1 + 1), i + 1, rfl, (by omega), (by omega), dk_229, ((hvmu.draw (d2 := ru9 + 1)).draw (d2 := ru9 + 1 + 1)), gg_231, hP, hD, hS, hl⟩
                  · exact absurd rfl c_272
              · replace c_269 := (nI_eq (a := y9) (b := 7) (by omega) (by omega)).mp c_269
                refine lv_aload_n hx hb dL_law_302 rfl (lv_at hl 11 rfl) ?_
                refine lv_iload hx hb dL_law_303 (lv_at hl 7 rfl) ?_
                refine lv_iload hx hb dL_law_305 (lv_at hl 4 rfl) ?_
                refine lv_iload hx hb dL_law_307 (lv_at hl 3 rfl) ?_
                refine lv_iload hx hb dL_law_309 (lv_at hl 2 rfl) ?_
                refine kn_i (va_runV (As := [.int (nI k), .int (nI i), .int (nI g1), .int (nI g2)]) (rest := []) ⟨hx, hb, hml, hown, htT⟩ (c_holds l D cA _ x_231 x gg_231.c.hx ar gg_231.c.q0 ak gg_231.c.q1 gg_231.c.kk gg_231.c.R k q8_k a_k ja_k (nI k) sw_k (nI i) (nI g1) (nI g2) (kOut_n (a := i) (lo := 0) (hi := 9999) (by omega) (by omega) (by omega)) (kOut_n (a := g1) (lo := 0) (hi := 9) (by omega) (by omega) (by omega)) (kOut_n (a := g2) (lo := 0) (hi := 9) (by omega) (by omega) (by omega))) (cwV 4 htT (kg_V m_ml_L_60 m_im_X5_holds m_sl_X5_holds m_in_X5 m_cd_X5_holds) rfl rfl rfl (by decide +kernel) ⟨Nat.le_of_ble_eq_true rfl, Nat.le_of_ble_eq_true rfl⟩) (kn_V hK hP hD hTB gg_231.c.hx (Nat.le_of_ble_eq_true rfl) rfl) rfl rfl hl.1 rfl (lv_room (Nat.le_of_ble_eq_true rfl)) dL_law_311 ⟨(by show _ ≤ 600086; omega), (by show _ ≤ 7301442; omega)⟩) hP hD hS hA (fun r_273 x_273 H locs hq_273 hP hD hS => ?_)
                rw [hq_273.2] at hP hD
                rw [hq_273.1.trans (ehd.trans eh)]
                refine lv_if_ge (tgt := 336) hx hb dL_law_314 (by decide) (fun c_274 => absurd c_274 (by decide)) (fun _ => ?_)
                refine lv_iload hx hb dL_law_317 (lv_at hl 0 rfl) ?_
                refine lv_iconst (v := 2) hx hb dL_law_319 (by decide) ?_
                refine lv_icmp_ne (tgt := 338) hx hb dL_law_320 (by decide) (fun c_275 => ?_) (fun c_275 => ?_)
                · replace c_275 : ¬ (y9 = 2) := fun h9 => c_275 ((nI_eq (a := y9) (b := 2) (by omega) (by omega)).mpr h9)
                  refine lv_iinc (v := nI (i + 1)) (lv' := [(11, .int (nI (i + 1))), (15, .int (nI y9)), (14, .int (nI v)), (13, .int (nI g2)), (12, .int (nI g1)), (10, .int 0), (9, .int (nI (vcT M k))), (8, .int (nI k)), (7, .int (nI (aa))), (5, .long bq), (4, .int (nI sp)), (3, .ref x), (2, .ref d), (1, .int (nI ti)), (0, .ref b)]) hx hb dL_law_338 hl (k := 4) rfl (nI_1 _) (by decide) rfl (fun ls hl => ?_)
                  refine lv_goto (tgt := 125) hx hb dL_law_341 (by decide) ?_
                  have hl := lv_sub hl [0, 5, 6, 7, 8, 9, 10, 11, 12, 13, 14] rfl
                  exact ih_125 _ (by omega) H locs ls f9244 hd0 ⟨pI (pI U d 2 (nI (ru9 + 1))) d 2 (nI (ru9 + 1 + 1)), x_231, (upd (upd fu 2 (nI (ru9 + 1))) 2 (nI (ru9 + 1 + 1))), (ru9 + 1 + 1), i + 1, rfl, (by omega), (by omega), dk_229, ((hvmu.draw (d2 := ru9 + 1)).draw (d2 := ru9 + 1 + 1)), gg_231, hP, hD, hS, hl⟩
                · replace c_275 := (nI_eq (a := y9) (b := 2) (by omega) (by omega)).mp c_275
                  refine lv_aload_n hx hb dL_law_323 rfl (lv_at hl 11 rfl) ?_
                  refine lv_iload hx hb dL_law_324 (lv_at hl 7 rfl) ?_
                  refine lv_iload hx hb dL_law_326 (lv_at hl 4 rfl) ?_
                  refine kn_i (va_runV (As := [.int (nI k), .int (nI i)]) (rest := []) ⟨hx, hb, hml, hown, htT⟩ (c_arm l D cA _ x_231 x gg_231.c.hx ar gg_231.c.q0 ak gg_231.c.q1 gg_231.c.kk gg_231.c.R k q8_k a_k ja_k (nI k) sw_k (nI i) (kOut_n (a := i) (lo := 0) (hi := 9999) (by omega) (by omega) (by omega))) (cwV 2 htT (kg_V m_ml_L_63 m_im_X5_arm m_sl_X5_arm m_in_X5 m_cd_X5_arm) rfl rfl rfl (by decide +kernel) ⟨Nat.le_of_ble_eq_true rfl, Nat.le_of_ble_eq_true rfl⟩) (kn_V hK hP hD hTB gg_231.c.hx (Nat.le_of_ble_eq_true rfl) rfl) rfl rfl hl.1 rfl (lv_room (Nat.le_of_ble_eq_true rfl)) dL_law_328 ⟨(by show _ ≤ 600086; omega), (by show _ ≤ 7301442; omega)⟩) hP hD hS hA (fun r_276 x_276 H locs hq_276 hP hD hS => ?_)
                  rw [hq_276.2] at hP hD
                  have har : rArmV M.2 (rArm M.2 (nI k) (nI i) na 0) = nI v := by unfold rArmV; rw [if_neg (hy2 (by omega)).1]; exact (hy2 (by omega)).2
                  rw [hq_276.1.trans ((armv_eq gg_231.l gg_231.c hna hk ja_k).trans har)]
                  refine lv_iload hx hb dL_law_331 (lv_at hl 1 rfl) ?_
                  refine lv_icmp_eq (tgt := 338) hx hb dL_law_333 (by decide) (fun c_277 => ?_) (fun c_277 => ?_)
                  · refine lv_iinc (v := nI (i + 1)) (lv' := [(11, .int (nI (i + 1))), (15, .int (nI y9)), (14, .int (nI v)), (13, .int (nI g2)), (12, .int (nI g1)), (10, .int 0), (9, .int (nI (vcT M k))), (8, .int (nI k)), (7, .int (nI (aa))), (5, .long bq), (4, .int (nI sp)), (3, .ref x), (2, .ref d), (1, .int (nI ti)), (0, .ref b)]) hx hb dL_law_338 hl (k := 4) rfl (nI_1 _) (by decide) rfl (fun ls hl => ?_)
                    refine lv_goto (tgt := 125) hx hb dL_law_341 (by decide) ?_
                    have hl := lv_sub hl [0, 5, 6, 7, 8, 9, 10, 11, 12, 13, 14] rfl
                    exact ih_125 _ (by omega) H locs ls f9244 hd0 ⟨pI (pI U d 2 (nI (ru9 + 1))) d 2 (nI (ru9 + 1 + 1)), x_231, (upd (upd fu 2 (nI (ru9 + 1))) 2 (nI (ru9 + 1 + 1))), (ru9 + 1 + 1), i + 1, rfl, (by omega), (by omega), dk_229, ((hvmu.draw (d2 := ru9 + 1)).draw (d2 := ru9 + 1 + 1)), gg_231, hP, hD, hS, hl⟩
                  · exact absurd rfl c_277
            · replace c_268 := (nI_eq (a := y9) (b := 3) (by omega) (by omega)).mp c_268
              refine lv_aload_n hx hb dL_law_280 rfl (lv_at hl 11 rfl) ?_
              refine lv_iload hx hb dL_law_281 (lv_at hl 7 rfl) ?_
              refine lv_iload hx hb dL_law_283 (lv_at hl 4 rfl) ?_
              refine lv_iload hx hb dL_law_285 (lv_at hl 3 rfl) ?_
              refine lv_iload hx hb dL_law_287 (lv_at hl 2 rfl) ?_
              refine kn_i (va_runV (As := [.int (nI k), .int (nI i), .int (nI g1), .int (nI g2)]) (rest := []) ⟨hx, hb, hml, hown, htT⟩ (c_holds l D cA _ x_231 x gg_231.c.hx ar gg_231.c.q0 ak gg_231.c.q1 gg_231.c.kk gg_231.c.R k q8_k a_k ja_k (nI k) sw_k (nI i) (nI g1) (nI g2) (kOut_n (a := i) (lo := 0) (hi := 9999) (by omega) (by omega) (by omega)) (kOut_n (a := g1) (lo := 0) (hi := 9) (by omega) (by omega) (by omega)) (kOut_n (a := g2) (lo := 0) (hi := 9) (by omega) (by omega) (by omega))) (cwV 4 htT (kg_V m_ml_L_60 m_im_X5_holds m_sl_X5_holds m_in_X5 m_cd_X5_holds) rfl rfl rfl (by decide +kernel) ⟨Nat.le_of_ble_eq_true rfl, Nat.le_of_ble_eq_true rfl⟩) (kn_V hK hP hD hTB gg_231.c.hx (Nat.le_of_ble_eq_true rfl) rfl) rfl rfl hl.1 rfl (lv_room (Nat.le_of_ble_eq_true rfl)) dL_law_289 ⟨(by show _ ≤ 600086; omega), (by show _ ≤ 7301442; omega)⟩) hP hD hS hA (fun r_278 x_278 H locs hq_278 hP hD hS => ?_)
              rw [hq_278.2] at hP hD
              rw [hq_278.1.trans (ehd.trans eh)]
              refine lv_if_lt (tgt := 336) hx hb dL_law_292 (by decide) (fun _ => ?_) (fun c_279 => absurd c_279 (by decide))
              exfalso; omega
      · have hn7 : y9 ≠ 7 := fun z => nI_m1 (a := zh) (by omega) (eh.symm.trans (hy7 z))
        refine lv_aload_n hx hb dL_law_244 rfl (lv_at hl 12 rfl) ?_
        refine kd_gets (r := (aO Ad)) hx hb htT m_u_X6 hown hK hP dk_229.o rfl 6 (by decide) (by decide) rfl dk_229.q6 (htT _ m_fl_L_41) dL_law_245 ?_
        refine lv_iload hx hb dL_law_248 (lv_at hl 7 rfl) ?_
        refine ky_alda (r := some (aOk Ad k)) hx hb hK hP dk_229.ao (show vp_in (nI (k)) 8 from ki_in (by omega) (by omega)) ((congrArg _ (ki_cl (n := k) (by omega))).trans (dk_229.op (k := k) (show k < n by omega))) dL_law_250 ?_
        refine lv_iconst (v := 3) hx hb dL_law_251 (by decide) ?_
        refine kx_ialdv (x := nI o9) hx hb hK (kmy_P hP) (dk_229.oa (k := k) (show k < n by omega)) (Nat.le_of_ble_eq_true rfl) (Nat.le_of_ble_eq_true rfl) (show vp_in 3 12 from ki_in (n := 3) (by omega) (by omega)) ((congrArg _ (ki_cl (n := 3) (by omega))).trans ((dk_229.ov (k := k) (j := 3) (show k < n by omega) (show 3 < 12 by omega)).trans (((hvmu.o hk (q := (3, 11)) (by decide)).trans eo9)))) dL_law_252 ?_
        refine lv_if_ne (tgt := 260) hx hb dL_law_253 (by decide) (fun c_280 => ?_) (fun c_280 => ?_)
        · replace c_280 : ¬ (o9 = 0) := fun h9 => c_280 ((nI_eq (a := o9) (b := 0) (by omega) (by omega)).mpr h9)
          refine lv_iconst (v := 0) hx hb dL_law_260 (by decide) ?_
          refine lv_iload hx hb dL_law_261 (lv_at hl 0 rfl) ?_
          refine lv_if_ne (tgt := 270) hx hb dL_law_263 (by decide) (fun c_281 => ?_) (fun c_281 => ?_)
          · replace c_281 : ¬ (y9 = 0) := fun h9 => c_281 ((nI_eq (a := y9) (b := 0) (by omega) (by omega)).mpr h9)
            refine lv_iconst (v := 0) hx hb dL_law_270 (by decide) ?_
            refine lv_icmp_ne (tgt := 336) hx hb dL_law_271 (by decide) (fun c_282 => absurd c_282 (by decide)) (fun _ => ?_)
            refine lv_iload hx hb dL_law_274 (lv_at hl 0 rfl) ?_
            refine lv_iconst (v := 3) hx hb dL_law_276 (by decide) ?_
            refine lv_icmp_ne (tgt := 295) hx hb dL_law_277 (by decide) (fun c_283 => ?_) (fun c_283 => ?_)
            · replace c_283 : ¬ (y9 = 3) := fun h9 => c_283 ((nI_eq (a := y9) (b := 3) (by omega) (by omega)).mpr h9)
              refine lv_iload hx hb dL_law_295 (lv_at hl 0 rfl) ?_
              refine lv_bipush (v := 7) hx hb dL_law_297 (by decide) ?_
              refine lv_icmp_ne (tgt := 317) hx hb dL_law_299 (by decide) (fun c_284 => ?_) (fun c_284 => ?_)
              · replace c_284 : ¬ (y9 = 7) := fun h9 => c_284 ((nI_eq (a := y9) (b := 7) (by omega) (by omega)).mpr h9)
                refine lv_iload hx hb dL_law_317 (lv_at hl 0 rfl) ?_
                refine lv_iconst (v := 2) hx hb dL_law_319 (by decide) ?_
                refine lv_icmp_ne (tgt := 338) hx hb dL_law_320 (by decide) (fun c_285 => ?_) (fun c_285 => ?_)
                · replace c_285 : ¬ (y9 = 2) := fun h9 => c_285 ((nI_eq (a := y9) (b := 2) (by omega) (by omega)).mpr h9)
                  refine lv_iinc (v := nI (i + 1)) (lv' := [(11, .int (nI (i + 1))), (15, .int (nI y9)), (14, .int (nI v)), (13, .int (nI g2)), (12, .int (nI g1)), (10, .int 0), (9, .int (nI (vcT M k))), (8, .int (nI k)), (7, .int (nI (aa))), (5, .long bq), (4, .int (nI sp)), (3, .ref x), (2, .ref d), (1, .int (nI ti)), (0, .ref b)]) hx hb dL_law_338 hl (k := 4) rfl (nI_1 _) (by decide) rfl (fun ls hl => ?_)
                  refine lv_goto (tgt := 125) hx hb dL_law_341 (by decide) ?_
                  have hl := lv_sub hl [0, 5, 6, 7, 8, 9, 10, 11, 12, 13, 14] rfl
                  exact ih_125 _ (by omega) H locs ls f9244 hd0 ⟨pI (pI U d 2 (nI (ru9 + 1))) d 2 (nI (ru9 + 1 + 1)), x_231, (upd (upd fu 2 (nI (ru9 + 1))) 2 (nI (ru9 + 1 + 1))), (ru9 + 1 + 1), i + 1, rfl, (by omega), (by omega), dk_229, ((hvmu.draw (d2 := ru9 + 1)).draw (d2 := ru9 + 1 + 1)), gg_231, hP, hD, hS, hl⟩
                · replace c_285 := (nI_eq (a := y9) (b := 2) (by omega) (by omega)).mp c_285
                  refine lv_aload_n hx hb dL_law_323 rfl (lv_at hl 11 rfl) ?_
                  refine lv_iload hx hb dL_law_324 (lv_at hl 7 rfl) ?_
                  refine lv_iload hx hb dL_law_326 (lv_at hl 4 rfl) ?_
                  refine kn_i (va_runV (As := [.int (nI k), .int (nI i)]) (rest := []) ⟨hx, hb, hml, hown, htT⟩ (c_arm l D cA _ x_231 x gg_231.c.hx ar gg_231.c.q0 ak gg_231.c.q1 gg_231.c.kk gg_231.c.R k q8_k a_k ja_k (nI k) sw_k (nI i) (kOut_n (a := i) (lo := 0) (hi := 9999) (by omega) (by omega) (by omega))) (cwV 2 htT (kg_V m_ml_L_63 m_im_X5_arm m_sl_X5_arm m_in_X5 m_cd_X5_arm) rfl rfl rfl (by decide +kernel) ⟨Nat.le_of_ble_eq_true rfl, Nat.le_of_ble_eq_true rfl⟩) (kn_V hK hP hD hTB gg_231.c.hx (Nat.le_of_ble_eq_true rfl) rfl) rfl rfl hl.1 rfl (lv_room (Nat.le_of_ble_eq_true rfl)) dL_law_328 ⟨(by show _ ≤ 600086; omega), (by show _ ≤ 7301442; omega)⟩) hP hD hS hA (fun r_286 x_286 H locs hq_286 hP hD hS => ?_)
                  rw [hq_286.2] at hP hD
                  have har : rArmV M.2 (rArm M.2 (nI k) (nI i) na 0) = nI v := by unfold rArmV; rw [if_neg (hy2 (by omega)).1]; exact (hy2 (by omega)).2
                  rw [hq_286.1.trans ((armv_eq gg_231.l gg_231.c hna hk ja_k).trans har)]
                  refine lv_iload hx hb dL_law_331 (lv_at hl 1 rfl) ?_
                  refine lv_icmp_eq (tgt := 338) hx hb dL_law_333 (by decide) (fun c_287 => ?_) (fun c_287 => ?_)
                  · refine lv_iinc (v := nI (i + 1)) (lv' := [(11, .int (nI (i + 1))), (15, .int (nI y9)), (14, .int (nI v)), (13, .int (nI g2)), (12, .int (nI g1)), (10, .int 0), (9, .int (nI (vcT M k))), (8, .int (nI k)), (7, .int (nI (aa))), (5, .long bq), (4, .int (nI sp)), (3, .ref x), (2, .ref d), (1, .int (nI ti)), (0, .ref b)]) hx hb dL_law_338 hl (k := 4) rfl (nI_1 _) (by decide) rfl (fun ls hl => ?_)
                    refine lv_goto (tgt := 125) hx hb dL_law_341 (by decide) ?_
                    have hl := lv_sub hl [0, 5, 6, 7, 8, 9, 10, 11, 12, 13, 14] rfl
                    exact ih_125 _ (by omega) H locs ls f9244 hd0 ⟨pI (pI U d 2 (nI (ru9 + 1))) d 2 (nI (ru9 + 1 + 1)), x_231, (upd (upd fu 2 (nI (ru9 + 1))) 2 (nI (ru9 + 1 + 1))), (ru9 + 1 + 1), i + 1, rfl, (by omega), (by omega), dk_229, ((hvmu.draw (d2 := ru9 + 1)).draw (d2 := ru9 + 1 + 1)), gg_231, hP, hD, hS, hl⟩
                  · exact absurd rfl c_287
              · replace c_284 := (nI_eq (a := y9) (b := 7) (by omega) (by omega)).mp c_284
                refine lv_aload_n hx hb dL_law_302 rfl (lv_at hl 11 rfl) ?_
                refine lv_iload hx hb dL_law_303 (lv_at hl 7 rfl) ?_
                refine lv_iload hx hb dL_law_305 (lv_at hl 4 rfl) ?_
                refine lv_iload hx hb dL_law_307 (lv_at hl 3 rfl) ?_
                refine lv_iload hx hb dL_law_309 (lv_at hl 2 rfl) ?_
                refine kn_i (va_runV (As := [.int (nI k), .int (nI i), .int (nI g1), .int (nI g2)]) (rest := []) ⟨hx, hb, hml, hown, htT⟩ (c_holds l D cA _ x_231 x gg_231.c.hx ar gg_231.c.q0 ak gg_231.c.q1 gg_231.c.kk gg_231.c.R k q8_k a_k ja_k (nI k) sw_k (nI i) (nI g1) (nI g2) (kOut_n (a := i) (lo := 0) (hi := 9999) (by omega) (by omega) (by omega)) (kOut_n (a := g1) (lo := 0) (hi := 9) (by omega) (by omega) (by omega)) (kOut_n (a := g2) (lo := 0) (hi := 9) (by omega) (by omega) (by omega))) (cwV 4 htT (kg_V m_ml_L_60 m_im_X5_holds m_sl_X5_holds m_in_X5 m_cd_X5_holds) rfl rfl rfl (by decide +kernel) ⟨Nat.le_of_ble_eq_true rfl, Nat.le_of_ble_eq_true rfl⟩) (kn_V hK hP hD hTB gg_231.c.hx (Nat.le_of_ble_eq_true rfl) rfl) rfl rfl hl.1 rfl (lv_room (Nat.le_of_ble_eq_true rfl)) dL_law_311 ⟨(by show _ ≤ 600086; omega), (by show _ ≤ 7301442; omega)⟩) hP hD hS hA (fun r_288 x_288 H locs hq_288 hP hD hS => ?_)
                rw [hq_288.2] at hP hD
                rw [hq_288.1.trans (ehd.trans eh)]
                refine lv_if_ge (tgt := 336) hx hb dL_law_314 (by decide) (fun c_289 => ?_) (fun c_289 => ?_)
                · replace c_289 := (nI_leI (a := 0) (b := zh) (by omega) (by omega)).mp c_289
                  exfalso; omega
                · replace c_289 : ¬ (0 ≤ zh) := fun h9 => c_289 ((nI_leI (a := 0) (b := zh) (by omega) (by omega)).mpr h9)
                  refine lv_iload hx hb dL_law_317 (lv_at hl 0 rfl) ?_
                  refine lv_iconst (v := 2) hx hb dL_law_319 (by decide) ?_
                  refine lv_icmp_ne (tgt := 338) hx hb dL_law_320 (by decide) (fun c_290 => ?_) (fun c_290 => ?_)
                  · replace c_290 : ¬ (y9 = 2) := fun h9 => c_290 ((nI_eq (a := y9) (b := 2) (by omega) (by omega)).mpr h9)
                    refine lv_iinc (v := nI (i + 1)) (lv' := [(11, .int (nI (i + 1))), (15, .int (nI y9)), (14, .int (nI v)), (13, .int (nI g2)), (12, .int (nI g1)), (10, .int 0), (9, .int (nI (vcT M k))), (8, .int (nI k)), (7, .int (nI (aa))), (5, .long bq), (4, .int (nI sp)), (3, .ref x), (2, .ref d), (1, .int (nI ti)), (0, .ref b)]) hx hb dL_law_338 hl (k := 4) rfl (nI_1 _) (by decide) rfl (fun ls hl => ?_)
                    refine lv_goto (tgt := 125) hx hb dL_law_341 (by decide) ?_
                    have hl := lv_sub hl [0, 5, 6, 7, 8, 9, 10, 11, 12, 13, 14] rfl
                    exact ih_125 _ (by omega) H locs ls f9244 hd0 ⟨pI (pI U d 2 (nI (ru9 + 1))) d 2 (nI (ru9 + 1 + 1)), x_231, (upd (upd fu 2 (nI (ru9 + 1))) 2 (nI (ru9 + 1 + 1))), (ru9 + 1 + 1), i + 1, rfl, (by omega), (by omega), dk_229, ((hvmu.draw (d2 := ru9 + 1)).draw (d2 := ru9 + 1 + 1)), gg_231, hP, hD, hS, hl⟩
                  · replace c_290 := (nI_eq (a := y9) (b := 2) (by omega) (by omega)).mp c_290
                    refine lv_aload_n hx hb dL_law_323 rfl (lv_at hl 11 rfl) ?_
                    refine lv_iload hx hb dL_law_324 (lv_at hl 7 rfl) ?_
                    refine lv_iload hx hb dL_law_326 (lv_at hl 4 rfl) ?_
                    refine kn_i (va_runV (As := [.int (nI k), .int (nI i)]) (rest := []) ⟨hx, hb, hml, hown, htT⟩ (c_arm l D cA _ x_231 x gg_231.c.hx ar gg_231.c.q0 ak gg_231.c.q1 gg_231.c.kk gg_231.c.R k q8_k a_k ja_k (nI k) sw_k (nI i) (kOut_n (a := i) (lo := 0) (hi := 9999) (by omega) (by omega) (by omega))) (cwV 2 htT (kg_V m_ml_L_63 m_im_X5_arm m_sl_X5_arm m_in_X5 m_cd_X5_arm) rfl rfl rfl (by decide +kernel) ⟨Nat.le_of_ble_eq_true rfl, Nat.le_of_ble_eq_true rfl⟩) (kn_V hK hP hD hTB gg_231.c.hx (Nat.le_of_ble_eq_true rfl) rfl) rfl rfl hl.1 rfl (lv_room (Nat.le_of_ble_eq_true rfl)) dL_law_328 ⟨(by show _ ≤ 600086; omega), (by show _ ≤ 7301442; omega)⟩) hP hD hS hA (fun r_291 x_291 H locs hq_291 hP hD hS => ?_)
                    rw [hq_291.2] at hP hD
                    have har : rArmV M.2 (rArm M.2 (nI k) (nI i) na 0) = nI v := by unfold rArmV; rw [if_neg (hy2 (by omega)).1]; exact (hy2 (by omega)).2
                    rw [hq_291.1.trans ((armv_eq gg_231.l gg_231.c hna hk ja_k).trans har)]
                    refine lv_iload hx hb dL_law_331 (lv_at hl 1 rfl) ?_
                    refine lv_icmp_eq (tgt := 338) hx hb dL_law_333 (by decide) (fun c_292 => ?_) (fun c_292 => ?_)
                    · refine lv_iinc (v := nI (i + 1)) (lv' := [(11, .int (nI (i + 1))), (15, .int (nI y9)), (14, .int (nI v)), (13, .int (nI g2)), (12, .int (nI g1)), (10, .int 0), (9, .int (nI (vcT M k))), (8, .int (nI k)), (7, .int (nI (aa))), (5, .long bq), (4, .int (nI sp)), (3, .ref x), (2, .ref d), (1, .int (nI ti)), (0, .ref b)]) hx hb dL_law_338 hl (k := 4) rfl (nI_1 _) (by decide) rfl (fun ls hl => ?_)
                      refine lv_goto (tgt := 125) hx hb dL_law_341 (by decide) ?_
                      have hl := lv_sub hl [0, 5, 6, 7, 8, 9, 10, 11, 12, 13, 14] rfl
                      exact ih_125 _ (by omega) H locs ls f9244 hd0 ⟨pI (pI U d 2 (nI (ru9 + 1))) d 2 (nI (ru9 + 1 + 1)), x_231, (upd (upd fu 2 (nI (ru9 + 1))) 2 (nI (ru9 + 1 + 1))), (ru9 + 1 + 1), i + 1, rfl, (by omega), (by omega), dk_229, ((hvmu.draw (d2 := ru9 + 1)).draw (d2 := ru9 + 1 + 1)), gg_231, hP, hD, hS, hl⟩
                    · exact absurd rfl c_292
            · replace c_283 := (nI_eq (a := y9) (b := 3) (by omega) (by omega)).mp c_283
              refine lv_aload_n hx hb dL_law_280 rfl (lv_at hl 11 rfl) ?_
              refine lv_iload hx hb dL_law_281 (lv_at hl 7 rfl) ?_
              refine lv_iload hx hb dL_law_283 (lv_at hl 4 rfl) ?_
              refine lv_iload hx hb dL_law_285 (lv_at hl 3 rfl) ?_
              refine lv_iload hx hb dL_law_287 (lv_at hl 2 rfl) ?_
              refine kn_i (va_runV (As := [.int (nI k), .int (nI i), .int (nI g1), .int (nI g2)]) (rest := []) ⟨hx, hb, hml, hown, htT⟩ (c_holds l D cA _ x_231 x gg_231.c.hx ar gg_231.c.q0 ak gg_231.c.q1 gg_231.c.kk gg_231.c.R k q8_k a_k ja_k (nI k) sw_k (nI i) (nI g1) (nI g2) (kOut_n (a := i) (lo := 0) (hi := 9999) (by omega) (by omega) (by omega)) (kOut_n (a := g1) (lo := 0) (hi := 9) (by omega) (by omega) (by omega)) (kOut_n (a := g2) (lo := 0) (hi := 9) (by omega) (by omega) (by omega))) (cwV 4 htT (kg_V m_ml_L_60 m_im_X5_holds m_sl_X5_holds m_in_X5 m_cd_X5_holds) rfl rfl rfl (by decide +kernel) ⟨Nat.le_of_ble_eq_true rfl, Nat.le_of_ble_eq_true rfl⟩) (kn_V hK hP hD hTB gg_231.c.hx (Nat.le_of_ble_eq_true rfl) rfl) rfl rfl hl.1 rfl (lv_room (Nat.le_of_ble_eq_true rfl)) dL_law_289 ⟨(by show _ ≤ 600086; omega), (by show _ ≤ 7301442; omega)⟩) hP hD hS hA (fun r_293 x_293 H locs hq_293 hP hD hS => ?_)
              rw [hq_293.2] at hP hD
              rw [hq_293.1.trans (ehd.trans eh)]
              refine lv_if_lt (tgt := 336) hx hb dL_law_292 (by decide) (fun c_294 => ?_) (fun c_294 => ?_)
              · replace c_294 := (nI_ltI (a := zh) (b := 0) (by omega) (by omega)).mp c_294
                exfalso; omega
              · replace c_294 : ¬ (zh < 0) := fun h9 => c_294 ((nI_ltI (a := zh) (b := 0) (by omega) (by omega)).mpr h9)
                refine lv_iload hx hb dL_law_295 (lv_at hl 0 rfl) ?_
                refine lv_bipush (v := 7) hx hb dL_law_297 (by decide) ?_
                refine lv_icmp_ne (tgt := 317) hx hb dL_law_299 (by decide) (fun c_295 => ?_) (fun c_295 => ?_)
                · replace c_295 : ¬ (y9 = 7) := fun h9 => c_295 ((nI_eq (a := y9) (b := 7) (by omega) (by omega)).mpr h9)
                  refine lv_iload hx hb dL_law_317 (lv_at hl 0 rfl) ?_
                  refine lv_iconst (v := 2) hx hb dL_law_319 (by decide) ?_
                  refine lv_icmp_ne (tgt := 338) hx hb dL_law_320 (by decide) (fun c_296 => ?_) (fun c_296 => ?_)
                  · replace c_296 : ¬ (y9 = 2) := fun h9 => c_296 ((nI_eq (a := y9) (b := 2) (by omega) (by omega)).mpr h9)
                    refine lv_iinc (v := nI (i + 1)) (lv' := [(11, .int (nI (i + 1))), (15, .int (nI y9)), (14, .int (nI v)), (13, .int (nI g2)), (12, .int (nI g1)), (10, .int 0), (9, .int (nI (vcT M k))), (8, .int (nI k)), (7, .int (nI (aa))), (5, .long bq), (4, .int (nI sp)), (3, .ref x), (2, .ref d), (1, .int (nI ti)), (0, .ref b)]) hx hb dL_law_338 hl (k := 4) rfl (nI_1 _) (by decide) rfl (fun ls hl => ?_)
                    refine lv_goto (tgt := 125) hx hb dL_law_341 (by decide) ?_
                    have hl := lv_sub hl [0, 5, 6, 7, 8, 9, 10, 11, 12, 13, 14] rfl
                    exact ih_125 _ (by omega) H locs ls f9244 hd0 ⟨pI (pI U d 2 (nI (ru9 + 1))) d 2 (nI (ru9 + 1 + 1)), x_231, (upd (upd fu 2 (nI (ru9 + 1))) 2 (nI (ru9 + 1 + 1))), (ru9 + 1 + 1), i + 1, rfl, (by omega), (by omega), dk_229, ((hvmu.draw (d2 := ru9 + 1)).draw (d2 := ru9 + 1 + 1)), gg_231, hP, hD, hS, hl⟩
                  · replace c_296 := (nI_eq (a := y9) (b := 2) (by omega) (by omega)).mp c_296
                    refine lv_aload_n hx hb dL_law_323 rfl (lv_at hl 11 rfl) ?_
                    refine lv_iload hx hb dL_law_324 (lv_at hl 7 rfl) ?_
                    refine lv_iload hx hb dL_law_326 (lv_at hl 4 rfl) ?_
                    refine kn_i (va_runV (As := [.int (nI k), .int (nI i)]) (rest := []) ⟨hx, hb, hml, hown, htT⟩ (c_arm l D cA _ x_231 x gg_231.c.hx ar gg_231.c.q0 ak gg_231.c.q1 gg_231.c.kk gg_231.c.R k q8_k a_k ja_k (nI k) sw_k (nI i) (kOut_n (a := i) (lo := 0) (hi := 9999) (by omega) (by omega) (by omega))) (cwV 2 htT (kg_V m_ml_L_63 m_im_X5_arm m_sl_X5_arm m_in_X5 m_cd_X5_arm) rfl rfl rfl (by decide +kernel) ⟨Nat.le_of_ble_eq_true rfl, Nat.le_of_ble_eq_true rfl⟩) (kn_V hK hP hD hTB gg_231.c.hx (Nat.le_of_ble_eq_true rfl) rfl) rfl rfl hl.1 rfl (lv_room (Nat.le_of_ble_eq_true rfl)) dL_law_328 ⟨(by show _ ≤ 600086; omega), (by show _ ≤ 7301442; omega)⟩) hP hD hS hA (fun r_297 x_297 H locs hq_297 hP hD hS => ?_)
                    rw [hq_297.2] at hP hD
                    have har : rArmV M.2 (rArm M.2 (nI k) (nI i) na 0) = nI v := by unfold rArmV; rw [if_neg (hy2 (by omega)).1]; exact (hy2 (by omega)).2
                    rw [hq_297.1.trans ((armv_eq gg_231.l gg_231.c hna hk ja_k).trans har)]
                    refine lv_iload hx hb dL_law_331 (lv_at hl 1 rfl) ?_
                    refine lv_icmp_eq (tgt := 338) hx hb dL_law_333 (by decide) (fun c_298 => ?_) (fun c_298 => ?_)
                    · refine lv_iinc (v := nI (i + 1)) (lv' := [(11, .int (nI (i + 1))), (15, .int (nI y9)), (14, .int (nI v)), (13, .int (nI g2)), (12, .int (nI g1)), (10, .int 0), (9, .int (nI (vcT M k))), (8, .int (nI k)), (7, .int (nI (aa))), (5, .long bq), (4, .int (nI sp)), (3, .ref x), (2, .ref d), (1, .int (nI ti)), (0, .ref b)]) hx hb dL_law_338 hl (k := 4) rfl (nI_1 _) (by decide) rfl (fun ls hl => ?_)
                      refine lv_goto (tgt := 125) hx hb dL_law_341 (by decide) ?_
                      have hl := lv_sub hl [0, 5, 6, 7, 8, 9, 10, 11, 12, 13, 14] rfl
                      exact ih_125 _ (by omega) H locs ls f9244 hd0 ⟨pI (pI U d 2 (nI (ru9 + 1))) d 2 (nI (ru9 + 1 + 1)), x_231, (upd (upd fu 2 (nI (ru9 + 1))) 2 (nI (ru9 + 1 + 1))), (ru9 + 1 + 1), i + 1, rfl, (by omega), (by omega), dk_229, ((hvmu.draw (d2 := ru9 + 1)).draw (d2 := ru9 + 1 + 1)), gg_231, hP, hD, hS, hl⟩
                    · exact absurd rfl c_298
                · replace c_295 := (nI_eq (a := y9) (b := 7) (by omega) (by omega)).mp c_295
                  refine lv_aload_n hx hb dL_law_302 rfl (lv_at hl 11 rfl) ?_
                  refine lv_iload hx hb dL_law_303 (lv_at hl 7 rfl) ?_
                  refine lv_iload hx hb dL_law_305 (lv_at hl 4 rfl) ?_
                  refine lv_iload hx hb dL_law_307 (lv_at hl 3 rfl) ?_
                  refine lv_iload hx hb dL_law_309 (lv_at hl 2 rfl) ?_
                  refine kn_i (va_runV (As := [.int (nI k), .int (nI i), .int (nI g1), .int (nI g2)]) (rest := []) ⟨hx, hb, hml, hown, htT⟩ (c_holds l D cA _ x_231 x gg_231.c.hx ar gg_231.c.q0 ak gg_231.c.q1 gg_231.c.kk gg_231.c.R k q8_k a_k ja_k (nI k) sw_k (nI i) (nI g1) (nI g2) (kOut_n (a := i) (lo := 0) (hi := 9999) (by omega) (by omega) (by omega)) (kOut_n (a := g1) (lo := 0) (hi := 9) (by omega) (by omega) (by omega)) (kOut_n (a := g2) (lo := 0) (hi := 9) (by omega) (by omega) (by omega))) (cwV 4 htT (kg_V m_ml_L_60 m_im_X5_holds m_sl_X5_holds m_in_X5 m_cd_X5_holds) rfl rfl rfl (by decide +kernel) ⟨Nat.le_of_ble_eq_true rfl, Nat.le_of_ble_eq_true rfl⟩) (kn_V hK hP hD hTB gg_231.c.hx (Nat.le_of_ble_eq_true rfl) rfl) rfl rfl hl.1 rfl (lv_room (Nat.le_of_ble_eq_true rfl)) dL_law_311 ⟨(by show _ ≤ 600086; omega), (by show _ ≤ 7301442; omega)⟩) hP hD hS hA (fun r_299 x_299 H locs hq_299 hP hD hS => ?_)
                  rw [hq_299.2] at hP hD
                  rw [hq_299.1.trans (ehd.trans eh)]
                  refine lv_if_ge (tgt := 336) hx hb dL_law_314 (by decide) (fun c_300 => ?_) (fun c_300 => ?_)
                  · replace c_300 := (nI_leI (a := 0) (b := zh) (by omega) (by omega)).mp c_300
                    exfalso; omega
                  · replace c_300 : ¬ (0 ≤ zh) := fun h9 => c_300 ((nI_leI (a := 0) (b := zh) (by omega) (by omega)).mpr h9)
                    refine lv_iload hx hb dL_law_317 (lv_at hl 0 rfl) ?_
                    refine lv_iconst (v := 2) hx hb dL_law_319 (by decide) ?_
                    refine lv_icmp_ne (tgt := 338) hx hb dL_law_320 (by decide) (fun c_301 => ?_) (fun c_301 => ?_)
                    · replace c_301 : ¬ (y9 = 2) := fun h9 => c_301 ((nI_eq (a := y9) (b := 2) (by omega) (by omega)).mpr h9)
                      refine lv_iinc (v := nI (i + 1)) (lv' := [(11, .int (nI (i + 1))), (15, .int (nI y9)), (14, .int (nI v)), (13, .int (nI g2)), (12, .int (nI g1)), (10, .int 0), (9, .int (nI (vcT M k))), (8, .int (nI k)), (7, .int (nI (aa))), (5, .long bq), (4, .int (nI sp)), (3, .ref x), (2, .ref d), (1, .int (nI ti)), (0, .ref b)]) hx hb dL_law_338 hl (k := 4) rfl (nI_1 _) (by decide) rfl (fun ls hl => ?_)
                      refine lv_goto (tgt := 125) hx hb dL_law_341 (by decide) ?_
                      have hl := lv_sub hl [0, 5, 6, 7, 8, 9, 10, 11, 12, 13, 14] rfl
                      exact ih_125 _ (by omega) H locs ls f9244 hd0 ⟨pI (pI U d 2 (nI (ru9 + 1))) d 2 (nI (ru9 + 1 + 1)), x_231, (upd (upd fu 2 (nI (ru9 + 1))) 2 (nI (ru9 + 1 + 1))), (ru9 + 1 + 1), i + 1, rfl, (by omega), (by omega), dk_229, ((hvmu.draw (d2 := ru9 + 1)).draw (d2 := ru9 + 1 + 1)), gg_231, hP, hD, hS, hl⟩
                    · replace c_301 := (nI_eq (a := y9) (b := 2) (by omega) (by omega)).mp c_301
                      refine lv_aload_n hx hb dL_law_323 rfl (lv_at hl 11 rfl) ?_
                      refine lv_iload hx hb dL_law_324 (lv_at hl 7 rfl) ?_
                      refine lv_iload hx hb dL_law_326 (lv_at hl 4 rfl) ?_
                      refine kn_i (va_runV (As := [.int (nI k), .int (nI i)]) (rest := []) ⟨hx, hb, hml, hown, htT⟩ (c_arm l D cA _ x_231 x gg_231.c.hx ar gg_231.c.q0 ak gg_231.c.q1 gg_231.c.kk gg_231.c.R k q8_k a_k ja_k (nI k) sw_k (nI i) (kOut_n (a := i) (lo := 0) (hi := 9999) (by omega) (by omega) (by omega))) (cwV 2 htT (kg_V m_ml_L_63 m_im_X5_arm m_sl_X5_arm m_in_X5 m_cd_X5_arm) rfl rfl rfl (by decide +kernel) ⟨Nat.le_of_ble_eq_true rfl, Nat.le_of_ble_eq_true rfl⟩) (kn_V hK hP hD hTB gg_231.c.hx (Nat.le_of_ble_eq_true rfl) rfl) rfl rfl hl.1 rfl (lv_room (Nat.le_of_ble_eq_true rfl)) dL_law_328 ⟨(by show _ ≤ 600086; omega), (by show _ ≤ 7301442; omega)⟩) hP hD hS hA (fun r_302 x_302 H locs hq_302 hP hD hS => ?_)
                      rw [hq_302.2] at hP hD
                      have har : rArmV M.2 (rArm M.2 (nI k) (nI i) na 0) = nI v := by unfold rArmV; rw [if_neg (hy2 (by omega)).1]; exact (hy2 (by omega)).2
                      rw [hq_302.1.trans ((armv_eq gg_231.l gg_231.c hna hk ja_k).trans har)]
                      refine lv_iload hx hb dL_law_331 (lv_at hl 1 rfl) ?_
                      refine lv_icmp_eq (tgt := 338) hx hb dL_law_333 (by decide) (fun c_303 => ?_) (fun c_303 => ?_)
                      · refine lv_iinc (v := nI (i + 1)) (lv' := [(11, .int (nI (i + 1))), (15, .int (nI y9)), (14, .int (nI v)), (13, .int (nI g2)), (12, .int (nI g1)), (10, .int 0), (9, .int (nI (vcT M k))), (8, .int (nI k)), (7, .int (nI (aa))), (5, .long bq), (4, .int (nI sp)), (3, .ref x), (2, .ref d), (1, .int (nI ti)), (0, .ref b)]) hx hb dL_law_338 hl (k := 4) rfl (nI_1 _) (by decide) rfl (fun ls hl => ?_)
                        refine lv_goto (tgt := 125) hx hb dL_law_341 (by decide) ?_
                        have hl := lv_sub hl [0, 5, 6, 7, 8, 9, 10, 11, 12, 13, 14] rfl
                        exact ih_125 _ (by omega) H locs ls f9244 hd0 ⟨pI (pI U d 2 (nI (ru9 + 1))) d 2 (nI (ru9 + 1 + 1)), x_231, (upd (upd fu 2 (nI (ru9 + 1))) 2 (nI (ru9 + 1 + 1))), (ru9 + 1 + 1), i + 1, rfl, (by omega), (by omega), dk_229, ((hvmu.draw (d2 := ru9 + 1)).draw (d2 := ru9 + 1 + 1)), gg_231, hP, hD, hS, hl⟩
                      · exact absurd rfl c_303
          · replace c_281 := (nI_eq (a := y9) (b := 0) (by omega) (by omega)).mp c_281
            refine lv_iconst (v := 1) hx hb dL_law_266 (by decide) ?_
            refine lv_goto (tgt := 271) hx hb dL_law_267 (by decide) ?_
            refine lv_icmp_ne (tgt := 336) hx hb dL_law_271 (by decide) (fun _ => ?_) (fun c_304 => absurd c_304 (by decide))
            exfalso; omega
        · replace c_280 := (nI_eq (a := o9) (b := 0) (by omega) (by omega)).mp c_280
          refine lv_iconst (v := 1) hx hb dL_law_256 (by decide) ?_
          refine lv_goto (tgt := 261) hx hb dL_law_257 (by decide) ?_
          refine lv_iload hx hb dL_law_261 (lv_at hl 0 rfl) ?_
          refine lv_if_ne (tgt := 270) hx hb dL_law_263 (by decide) (fun c_305 => ?_) (fun c_305 => ?_)
          · replace c_305 : ¬ (y9 = 0) := fun h9 => c_305 ((nI_eq (a := y9) (b := 0) (by omega) (by omega)).mpr h9)
            refine lv_iconst (v := 0) hx hb dL_law_270 (by decide) ?_
            refine lv_icmp_ne (tgt := 336) hx hb dL_law_271 (by decide) (fun _ => ?_) (fun c_306 => absurd c_306 (by decide))
            exfalso; omega
          · replace c_305 := (nI_eq (a := y9) (b := 0) (by omega) (by omega)).mp c_305
            refine lv_iconst (v := 1) hx hb dL_law_266 (by decide) ?_
            refine lv_goto (tgt := 271) hx hb dL_law_267 (by decide) ?_
            refine lv_icmp_ne (tgt := 336) hx hb dL_law_271 (by decide) (fun c_307 => absurd c_307 (by decide)) (fun _ => ?_)
            refine lv_iload hx hb dL_law_274 (lv_at hl 0 rfl) ?_
            refine lv_iconst (v := 3) hx hb dL_law_276 (by decide) ?_
            refine lv_icmp_ne (tgt := 295) hx hb dL_law_277 (by decide) (fun c_308 => ?_) (fun c_308 => ?_)
            · replace c_308 : ¬ (y9 = 3) := fun h9 => c_308 ((nI_eq (a := y9) (b := 3) (by omega) (by omega)).mpr h9)
              refine lv_iload hx hb dL_law_295 (lv_at hl 0 rfl) ?_
              refine lv_bipush (v := 7) hx hb dL_law_297 (by decide) ?_
              refine lv_icmp_ne (tgt := 317) hx hb dL_law_299 (by decide) (fun c_309 => ?_) (fun c_309 => ?_)
              · replace c_309 : ¬ (y9 = 7) := fun h9 => c_309 ((nI_eq (a := y9) (b := 7) (by omega) (by omega)).mpr h9)
                refine lv_iload hx hb dL_law_317 (lv_at hl 0 rfl) ?_
                refine lv_iconst (v := 2) hx hb dL_law_319 (by decide) ?_
                refine lv_icmp_ne (tgt := 338) hx hb dL_law_320 (by decide) (fun c_310 => ?_) (fun c_310 => ?_)
                · replace c_310 : ¬ (y9 = 2) := fun h9 => c_310 ((nI_eq (a := y9) (b := 2) (by omega) (by omega)).mpr h9)
                  refine lv_iinc (v := nI (i + 1)) (lv' := [(11, .int (nI (i + 1))), (15, .int (nI y9)), (14, .int (nI v)), (13, .int (nI g2)), (12, .int (nI g1)), (10, .int 0), (9, .int (nI (vcT M k))), (8, .int (nI k)), (7, .int (nI (aa))), (5, .long bq), (4, .int (nI sp)), (3, .ref x), (2, .ref d), (1, .int (nI ti)), (0, .ref b)]) hx hb dL_law_338 hl (k := 4) rfl (nI_1 _) (by decide) rfl (fun ls hl => ?_)
                  refine lv_goto (tgt := 125) hx hb dL_law_341 (by decide) ?_
                  have hl := lv_sub hl [0, 5, 6, 7, 8, 9, 10, 11, 12, 13, 14] rfl
                  exact ih_125 _ (by omega) H locs ls f9244 hd0 ⟨pI (pI U d 2 (nI (ru9 + 1))) d 2 (nI (ru9 + 1 + 1)), x_231, (upd (upd fu 2 (nI (ru9 + 1))) 2 (nI (ru9 + 1 + 1))), (ru9 + 1 + 1), i + 1, rfl, (by omega), (by omega), dk_229, ((hvmu.draw (d2 := ru9 + 1)).draw (d2 := ru9 + 1 + 1)), gg_231, hP, hD, hS, hl⟩
                · replace c_310 := (nI_eq (a := y9) (b := 2) (by omega) (by omega)).mp c_310
                  refine lv_aload_n hx hb dL_law_323 rfl (lv_at hl 11 rfl) ?_
                  refine lv_iload hx hb dL_law_324 (lv_at hl 7 rfl) ?_
                  refine lv_iload hx hb dL_law_326 (lv_at hl 4 rfl) ?_
                  refine kn_i (va_runV (As := [.int (nI k), .int (nI i)]) (rest := []) ⟨hx, hb, hml, hown, htT⟩ (c_arm l D cA _ x_231 x gg_231.c.hx ar gg_231.c.q0 ak gg_231.c.q1 gg_231.c.kk gg_231.c.R k q8_k a_k ja_k (nI k) sw_k (nI i) (kOut_n (a := i) (lo := 0) (hi := 9999) (by omega) (by omega) (by omega))) (cwV 2 htT (kg_V m_ml_L_63 m_im_X5_arm m_sl_X5_arm m_in_X5 m_cd_X5_arm) rfl rfl rfl (by decide +kernel) ⟨Nat.le_of_ble_eq_true rfl, Nat.le_of_ble_eq_true rfl⟩) (kn_V hK hP hD hTB gg_231.c.hx (Nat.le_of_ble_eq_true rfl) rfl) rfl rfl hl.1 rfl (lv_room (Nat.le_of_ble_eq_true rfl)) dL_law_328 ⟨(by show _ ≤ 600086; omega), (by show _ ≤ 7301442; omega)⟩) hP hD hS hA (fun r_311 x_311 H locs hq_311 hP hD hS => ?_)
                  rw [hq_311.2] at hP hD
                  have har : rArmV M.2 (rArm M.2 (nI k) (nI i) na 0) = nI v := by unfold rArmV; rw [if_neg (hy2 (by omega)).1]; exact (hy2 (by omega)).2
                  rw [hq_311.1.trans ((armv_eq gg_231.l gg_231.c hna hk ja_k).trans har)]
                  refine lv_iload hx hb dL_law_331 (lv_at hl 1 rfl) ?_
                  refine lv_icmp_eq (tgt := 338) hx hb dL_law_333 (by decide) (fun c_312 => ?_) (fun c_312 => ?_)
                  · refine lv_iinc (v := nI (i + 1)) (lv' := [(11, .int (nI (i + 1))), (15, .int (nI y9)), (14, .int (nI v)), (13, .int (nI g2)), (12, .int (nI g1)), (10, .int 0), (9, .int (nI (vcT M k))), (8, .int (nI k)), (7, .int (nI (aa))), (5, .long bq), (4, .int (nI sp)), (3, .ref x), (2, .ref d), (1, .int (nI ti)), (0, .ref b)]) hx hb dL_law_338 hl (k := 4) rfl (nI_1 _) (by decide) rfl (fun ls hl => ?_)
                    refine lv_goto (tgt := 125) hx hb dL_law_341 (by decide) ?_
                    have hl := lv_sub hl [0, 5, 6, 7, 8, 9, 10, 11, 12, 13, 14] rfl
                    exact ih_125 _ (by omega) H locs ls f9244 hd0 ⟨pI (pI U d 2 (nI (ru9 + 1))) d 2 (nI (ru9 + 1 + 1)), x_231, (upd (upd fu 2 (nI (ru9 + 1))) 2 (nI (ru9 + 1 + 1))), (ru9 + 1 + 1), i + 1, rfl, (by omega), (by omega), dk_229, ((hvmu.draw (d2 := ru9 + 1)).draw (d2 := ru9 + 1 + 1)), gg_231, hP, hD, hS, hl⟩
                  · exact absurd rfl c_312
              · replace c_309 := (nI_eq (a := y9) (b := 7) (by omega) (by omega)).mp c_309
                refine lv_aload_n hx hb dL_law_302 rfl (lv_at hl 11 rfl) ?_
                refine lv_iload hx hb dL_law_303 (lv_at hl 7 rfl) ?_
                refine lv_iload hx hb dL_law_305 (lv_at hl 4 rfl) ?_
                refine lv_iload hx hb dL_law_307 (lv_at hl 3 rfl) ?_
                refine lv_iload hx hb dL_law_309 (lv_at hl 2 rfl) ?_
                refine kn_i (va_runV (As := [.int (nI k), .int (nI i), .int (nI g1), .int (nI g2)]) (rest := []) ⟨hx, hb, hml, hown, htT⟩ (c_holds l D cA _ x_231 x gg_231.c.hx ar gg_231.c.q0 ak gg_231.c.q1 gg_231.c.kk gg_231.c.R k q8_k a_k ja_k (nI k) sw_k (nI i) (nI g1) (nI g2) (kOut_n (a := i) (lo := 0) (hi := 9999) (by omega) (by omega) (by omega)) (kOut_n (a := g1) (lo := 0) (hi := 9) (by omega) (by omega) (by omega)) (kOut_n (a := g2) (lo := 0) (hi := 9) (by omega) (by omega) (by omega))) (cwV 4 htT (kg_V m_ml_L_60 m_im_X5_holds m_sl_X5_holds m_in_X5 m_cd_X5_holds) rfl rfl rfl (by decide +kernel) ⟨Nat.le_of_ble_eq_true rfl, Nat.le_of_ble_eq_true rfl⟩) (kn_V hK hP hD hTB gg_231.c.hx (Nat.le_of_ble_eq_true rfl) rfl) rfl rfl hl.1 rfl (lv_room (Nat.le_of_ble_eq_true rfl)) dL_law_311 ⟨(by show _ ≤ 600086; omega), (by show _ ≤ 7301442; omega)⟩) hP hD hS hA (fun r_313 x_313 H locs hq_313 hP hD hS => ?_)
                rw [hq_313.2] at hP hD
                rw [hq_313.1.trans (ehd.trans eh)]
                refine lv_if_ge (tgt := 336) hx hb dL_law_314 (by decide) (fun c_314 => ?_) (fun c_314 => ?_)
                · replace c_314 := (nI_leI (a := 0) (b := zh) (by omega) (by omega)).mp c_314
                  exfalso; omega
                · replace c_314 : ¬ (0 ≤ zh) := fun h9 => c_314 ((nI_leI (a := 0) (b := zh) (by omega) (by omega)).mpr h9)
                  refine lv_iload hx hb dL_law_317 (lv_at hl 0 rfl) ?_
                  refine lv_iconst (v := 2) hx hb dL_law_319 (by decide) ?_
                  refine lv_icmp_ne (tgt := 338) hx hb dL_law_320 (by decide) (fun c_315 => ?_) (fun c_315 => ?_)
                  · replace c_315 : ¬ (y9 = 2) := fun h9 => c_315 ((nI_eq (a := y9) (b := 2) (by omega) (by omega)).mpr h9)
                    refine lv_iinc (v := nI (i + 1)) (lv' := [(11, .int (nI (i + 1))), (15, .int (nI y9)), (14, .int (nI v)), (13, .int (nI g2)), (12, .int (nI g1)), (10, .int 0), (9, .int (nI (vcT M k))), (8, .int (nI k)), (7, .int (nI (aa))), (5, .long bq), (4, .int (nI sp)), (3, .ref x), (2, .ref d), (1, .int (nI ti)), (0, .ref b)]) hx hb dL_law_338 hl (k := 4) rfl (nI_1 _) (by decide) rfl (fun ls hl => ?_)
                    refine lv_goto (tgt := 125) hx hb dL_law_341 (by decide) ?_
                    have hl := lv_sub hl [0, 5, 6, 7, 8, 9, 10, 11, 12, 13, 14] rfl
                    exact ih_125 _ (by omega) H locs ls f9244 hd0 ⟨pI (pI U d 2 (nI (ru9 + 1))) d 2 (nI (ru9 + 1 + 1)), x_231, (upd (upd fu 2 (nI (ru9 + 1))) 2 (nI (ru9 + 1 + 1))), (ru9 + 1 + 1), i + 1, rfl, (by omega), (by omega), dk_229, ((hvmu.draw (d2 := ru9 + 1)).draw (d2 := ru9 + 1 + 1)), gg_231, hP, hD, hS, hl⟩
                  · replace c_315 := (nI_eq (a := y9) (b := 2) (by omega) (by omega)).mp c_315
                    refine lv_aload_n hx hb dL_law_323 rfl (lv_at hl 11 rfl) ?_
                    refine lv_iload hx hb dL_law_324 (lv_at hl 7 rfl) ?_
                    refine lv_iload hx hb dL_law_326 (lv_at hl 4 rfl) ?_
                    refine kn_i (va_runV (As := [.int (nI k), .int (nI i)]) (rest := []) ⟨hx, hb, hml, hown, htT⟩ (c_arm l D cA _ x_231 x gg_231.c.hx ar gg_231.c.q0 ak gg_231.c.q1 gg_231.c.kk gg_231.c.R k q8_k a_k ja_k (nI k) sw_k (nI i) (kOut_n (a := i) (lo := 0) (hi := 9999) (by omega) (by omega) (by omega))) (cwV 2 htT (kg_V m_ml_L_63 m_im_X5_arm m_sl_X5_arm m_in_X5 m_cd_X5_arm) rfl rfl rfl (by decide +kernel) ⟨Nat.le_of_ble_eq_true rfl, Nat.le_of_ble_eq_true rfl⟩) (kn_V hK hP hD hTB gg_231.c.hx (Nat.le_of_ble_eq_true rfl) rfl) rfl rfl hl.1 rfl (lv_room (Nat.le_of_ble_eq_true rfl)) dL_law_328 ⟨(by show _ ≤ 600086; omega), (by show _ ≤ 7301442; omega)⟩) hP hD hS hA (fun r_316 x_316 H locs hq_316 hP hD hS => ?_)
                    rw [hq_316.2] at hP hD
                    have har : rArmV M.2 (rArm M.2 (nI k) (nI i) na 0) = nI v := by unfold rArmV; rw [if_neg (hy2 (by omega)).1]; exact (hy2 (by omega)).2
                    rw [hq_316.1.trans ((armv_eq gg_231.l gg_231.c hna hk ja_k).trans har)]
                    refine lv_iload hx hb dL_law_331 (lv_at hl 1 rfl) ?_
                    refine lv_icmp_eq (tgt := 338) hx hb dL_law_333 (by decide) (fun c_317 => ?_) (fun c_317 => ?_)
                    · refine lv_iinc (v := nI (i + 1)) (lv' := [(11, .int (nI (i + 1))), (15, .int (nI y9)), (14, .int (nI v)), (13, .int (nI g2)), (12, .int (nI g1)), (10, .int 0), (9, .int (nI (vcT M k))), (8, .int (nI k)), (7, .int (nI (aa))), (5, .long bq), (4, .int (nI sp)), (3, .ref x), (2, .ref d), (1, .int (nI ti)), (0, .ref b)]) hx hb dL_law_338 hl (k := 4) rfl (nI_1 _) (by decide) rfl (fun ls hl => ?_)
                      refine lv_goto (tgt := 125) hx hb dL_law_341 (by decide) ?_
                      have hl := lv_sub hl [0, 5, 6, 7, 8, 9, 10, 11, 12, 13, 14] rfl
                      exact ih_125 _ (by omega) H locs ls f9244 hd0 ⟨pI (pI U d 2 (nI (ru9 + 1))) d 2 (nI (ru9 + 1 + 1)), x_231, (upd (upd fu 2 (nI (ru9 + 1))) 2 (nI (ru9 + 1 + 1))), (ru9 + 1 + 1), i + 1, rfl, (by omega), (by omega), dk_229, ((hvmu.draw (d2 := ru9 + 1)).draw (d2 := ru9 + 1 + 1)), gg_231, hP, hD, hS, hl⟩
                    · exact absurd rfl c_317
            · replace c_308 := (nI_eq (a := y9) (b := 3) (by omega) (by omega)).mp c_308
              refine lv_aload_n hx hb dL_law_280 rfl (lv_at hl 11 rfl) ?_
              refine lv_iload hx hb dL_law_281 (lv_at hl 7 rfl) ?_
              refine lv_iload hx hb dL_law_283 (lv_at hl 4 rfl) ?_
              refine lv_iload hx hb dL_law_285 (lv_at hl 3 rfl) ?_
              refine lv_iload hx hb dL_law_287 (lv_at hl 2 rfl) ?_
              refine kn_i (va_runV (As := [.int (nI k), .int (nI i), .int (nI g1), .int (nI g2)]) (rest := []) ⟨hx, hb, hml, hown, htT⟩ (c_holds l D cA _ x_231 x gg_231.c.hx ar gg_231.c.q0 ak gg_231.c.q1 gg_231.c.kk gg_231.c.R k q8_k a_k ja_k (nI k) sw_k (nI i) (nI g1) (nI g2) (kOut_n (a := i) (lo := 0) (hi := 9999) (by omega) (by omega) (by omega)) (kOut_n (a := g1) (lo := 0) (hi := 9) (by omega) (by omega) (by omega)) (kOut_n (a := g2) (lo := 0) (hi := 9) (by omega) (by omega) (by omega))) (cwV 4 htT (kg_V m_ml_L_60 m_im_X5_holds m_sl_X5_holds m_in_X5 m_cd_X5_holds) rfl rfl rfl (by decide +kernel) ⟨Nat.le_of_ble_eq_true rfl, Nat.le_of_ble_eq_true rfl⟩) (kn_V hK hP hD hTB gg_231.c.hx (Nat.le_of_ble_eq_true rfl) rfl) rfl rfl hl.1 rfl (lv_room (Nat.le_of_ble_eq_true rfl)) dL_law_289 ⟨(by show _ ≤ 600086; omega), (by show _ ≤ 7301442; omega)⟩) hP hD hS hA (fun r_318 x_318 H locs hq_318 hP hD hS => ?_)
              rw [hq_318.2] at hP hD
              rw [hq_318.1.trans (ehd.trans eh)]
              refine lv_if_lt (tgt := 336) hx hb dL_law_292 (by decide) (fun c_319 => ?_) (fun c_319 => ?_)
              · replace c_319 := (nI_ltI (a := zh) (b := 0) (by omega) (by omega)).mp c_319
                exfalso; omega
              · replace c_319 : ¬ (zh < 0) := fun h9 => c_319 ((nI_ltI (a := zh) (b := 0) (by omega) (by omega)).mpr h9)
                refine lv_iload hx hb dL_law_295 (lv_at hl 0 rfl) ?_
                refine lv_bipush (v := 7) hx hb dL_law_297 (by decide) ?_
                refine lv_icmp_ne (tgt := 317) hx hb dL_law_299 (by decide) (fun c_320 => ?_) (fun c_320 => ?_)
                · replace c_320 : ¬ (y9 = 7) := fun h9 => c_320 ((nI_eq (a := y9) (b := 7) (by omega) (by omega)).mpr h9)
                  refine lv_iload hx hb dL_law_317 (lv_at hl 0 rfl) ?_
                  refine lv_iconst (v := 2) hx hb dL_law_319 (by decide) ?_
                  refine lv_icmp_ne (tgt := 338) hx hb dL_law_320 (by decide) (fun c_321 => ?_) (fun c_321 => ?_)
                  · replace c_321 : ¬ (y9 = 2) := fun h9 => c_321 ((nI_eq (a := y9) (b := 2) (by omega) (by omega)).mpr h9)
                    refine lv_iinc (v := nI (i + 1)) (lv' := [(11, .int (nI (i + 1))), (15, .int (nI y9)), (14, .int (nI v)), (13, .int (nI g2)), (12, .int (nI g1)), (10, .int 0), (9, .int (nI (vcT M k))), (8, .int (nI k)), (7, .int (nI (aa))), (5, .long bq), (4, .int (nI sp)), (3, .ref x), (2, .ref d), (1, .int (nI ti)), (0, .ref b)]) hx hb dL_law_338 hl (k := 4) rfl (nI_1 _) (by decide) rfl (fun ls hl => ?_)
                    refine lv_goto (tgt := 125) hx hb dL_law_341 (by decide) ?_
                    have hl := lv_sub hl [0, 5, 6, 7, 8, 9, 10, 11, 12, 13, 14] rfl
                    exact ih_125 _ (by omega) H locs ls f9244 hd0 ⟨pI (pI U d 2 (nI (ru9 + 1))) d 2 (nI (ru9 + 1 + 1)), x_231, (upd (upd fu 2 (nI (ru9 + 1))) 2 (nI (ru9 + 1 + 1))), (ru9 + 1 + 1), i + 1, rfl, (by omega), (by omega), dk_229, ((hvmu.draw (d2 := ru9 + 1)).draw (d2 := ru9 + 1 + 1)), gg_231, hP, hD, hS, hl⟩
                  · replace c_321 := (nI_eq (a := y9) (b := 2) (by omega) (by omega)).mp c_321
                    refine lv_aload_n hx hb dL_law_323 rfl (lv_at hl 11 rfl) ?_
                    refine lv_iload hx hb dL_law_324 (lv_at hl 7 rfl) ?_
                    refine lv_iload hx hb dL_law_326 (lv_at hl 4 rfl) ?_
                    refine kn_i (va_runV (As := [.int (nI k), .int (nI i)]) (rest := []) ⟨hx, hb, hml, hown, htT⟩ (c_arm l D cA _ x_231 x gg_231.c.hx ar gg_231.c.q0 ak gg_231.c.q1 gg_231.c.kk gg_231.c.R k q8_k a_k ja_k (nI k) sw_k (nI i) (kOut_n (a := i) (lo := 0) (hi := 9999) (by omega) (by omega) (by omega))) (cwV 2 htT (kg_V m_ml_L_63 m_im_X5_arm m_sl_X5_arm m_in_X5 m_cd_X5_arm) rfl rfl rfl (by decide +kernel) ⟨Nat.le_of_ble_eq_true rfl, Nat.le_of_ble_eq_true rfl⟩) (kn_V hK hP hD hTB gg_231.c.hx (Nat.le_of_ble_eq_true rfl) rfl) rfl rfl hl.1 rfl (lv_room (Nat.le_of_ble_eq_true rfl)) dL_law_328 ⟨(by show _ ≤ 600086; omega), (by show _ ≤ 7301442; omega)⟩) hP hD hS hA (fun r_322 x_322 H locs hq_322 hP hD hS => ?_)
                    rw [hq_322.2] at hP hD
                    have har : rArmV M.2 (rArm M.2 (nI k) (nI i) na 0) = nI v := by unfold rArmV; rw [if_neg (hy2 (by omega)).1]; exact (hy2 (by omega)).2
                    rw [hq_322.1.trans ((armv_eq gg_231.l gg_231.c hna hk ja_k).trans har)]
                    refine lv_iload hx hb dL_law_331 (lv_at hl 1 rfl) ?_
                    refine lv_icmp_eq (tgt := 338) hx hb dL_law_333 (by decide) (fun c_323 => ?_) (fun c_323 => ?_)
                    · refine lv_iinc (v := nI (i + 1)) (lv' := [(11, .int (nI (i + 1))), (15, .int (nI y9)), (14, .int (nI v)), (13, .int (nI g2)), (12, .int (nI g1)), (10, .int 0), (9, .int (nI (vcT M k))), (8, .int (nI k)), (7, .int (nI (aa))), (5, .long bq), (4, .int (nI sp)), (3, .ref x), (2, .ref d), (1, .int (nI ti)), (0, .ref b)]) hx hb dL_law_338 hl (k := 4) rfl (nI_1 _) (by decide) rfl (fun ls hl => ?_)
                      refine lv_goto (tgt := 125) hx hb dL_law_341 (by decide) ?_
                      have hl := lv_sub hl [0, 5, 6, 7, 8, 9, 10, 11, 12, 13, 14] rfl
                      exact ih_125 _ (by omega) H locs ls f9244 hd0 ⟨pI (pI U d 2 (nI (ru9 + 1))) d 2 (nI (ru9 + 1 + 1)), x_231, (upd (upd fu 2 (nI (ru9 + 1))) 2 (nI (ru9 + 1 + 1))), (ru9 + 1 + 1), i + 1, rfl, (by omega), (by omega), dk_229, ((hvmu.draw (d2 := ru9 + 1)).draw (d2 := ru9 + 1 + 1)), gg_231, hP, hD, hS, hl⟩
                    · exact absurd rfl c_323
                · replace c_320 := (nI_eq (a := y9) (b := 7) (by omega) (by omega)).mp c_320
                  refine lv_aload_n hx hb dL_law_302 rfl (lv_at hl 11 rfl) ?_
                  refine lv_iload hx hb dL_law_303 (lv_at hl 7 rfl) ?_
                  refine lv_iload hx hb dL_law_305 (lv_at hl 4 rfl) ?_
                  refine lv_iload hx hb dL_law_307 (lv_at hl 3 rfl) ?_
                  refine lv_iload hx hb dL_law_309 (lv_at hl 2 rfl) ?_
                  refine kn_i (va_runV (As := [.int (nI k), .int (nI i), .int (nI g1), .int (nI g2)]) (rest := []) ⟨hx, hb, hml, hown, htT⟩ (c_holds l D cA _ x_231 x gg_231.c.hx ar gg_231.c.q0 ak gg_231.c.q1 gg_231.c.kk gg_231.c.R k q8_k a_k ja_k (nI k) sw_k (nI i) (nI g1) (nI g2) (kOut_n (a := i) (lo := 0) (hi := 9999) (by omega) (by omega) (by omega)) (kOut_n (a := g1) (lo := 0) (hi := 9) (by omega) (by omega) (by omega)) (kOut_n (a := g2) (lo := 0) (hi := 9) (by omega) (by omega) (by omega))) (cwV 4 htT (kg_V m_ml_L_60 m_im_X5_holds m_sl_X5_holds m_in_X5 m_cd_X5_holds) rfl rfl rfl (by decide +kernel) ⟨Nat.le_of_ble_eq_true rfl, Nat.le_of_ble_eq_true rfl⟩) (kn_V hK hP hD hTB gg_231.c.hx (Nat.le_of_ble_eq_true rfl) rfl) rfl rfl hl.1 rfl (lv_room (Nat.le_of_ble_eq_true rfl)) dL_law_311 ⟨(by show _ ≤ 600086; omega), (by show _ ≤ 7301442; omega)⟩) hP hD hS hA (fun r_324 x_324 H locs hq_324 hP hD hS => ?_)
                  rw [hq_324.2] at hP hD
                  rw [hq_324.1.trans (ehd.trans eh)]
                  refine lv_if_ge (tgt := 336) hx hb dL_law_314 (by decide) (fun c_325 => ?_) (fun c_325 => ?_)
                  · replace c_325 := (nI_leI (a := 0) (b := zh) (by omega) (by omega)).mp c_325
                    exfalso; omega
                  · replace c_325 : ¬ (0 ≤ zh) := fun h9 => c_325 ((nI_leI (a := 0) (b := zh) (by omega) (by omega)).mpr h9)
                    refine lv_iload hx hb dL_law_317 (lv_at hl 0 rfl) ?_
                    refine lv_iconst (v := 2) hx hb dL_law_319 (by decide) ?_
                    refine lv_icmp_ne (tgt := 338) hx hb dL_law_320 (by decide) (fun c_326 => ?_) (fun c_326 => ?_)
                    · replace c_326 : ¬ (y9 = 2) := fun h9 => c_326 ((nI_eq (a := y9) (b := 2) (by omega) (by omega)).mpr h9)
                      refine lv_iinc (v := nI (i + 1)) (lv' := [(11, .int (nI (i + 1))), (15, .int (nI y9)), (14, .int (nI v)), (13, .int (nI g2)), (12, .int (nI g1)), (10, .int 0), (9, .int (nI (vcT M k))), (8, .int (nI k)), (7, .int (nI (aa))), (5, .long bq), (4, .int (nI sp)), (3, .ref x), (2, .ref d), (1, .int (nI ti)), (0, .ref b)]) hx hb dL_law_338 hl (k := 4) rfl (nI_1 _) (by decide) rfl (fun ls hl => ?_)
                      refine lv_goto (tgt := 125) hx hb dL_law_341 (by decide) ?_
                      have hl := lv_sub hl [0, 5, 6, 7, 8, 9, 10, 11, 12, 13, 14] rfl
                      exact ih_125 _ (by omega) H locs ls f9244 hd0 ⟨pI (pI U d 2 (nI (ru9 + 1))) d 2 (nI (ru9 + 1 + 1)), x_231, (upd (upd fu 2 (nI (ru9 + 1))) 2 (nI (ru9 + 1 + 1))), (ru9 + 1 + 1), i + 1, rfl, (by omega), (by omega), dk_229, ((hvmu.draw (d2 := ru9 + 1)).draw (d2 := ru9 + 1 + 1)), gg_231, hP, hD, hS, hl⟩
                    · replace c_326 := (nI_eq (a := y9) (b := 2) (by omega) (by omega)).mp c_326
                      refine lv_aload_n hx hb dL_law_323 rfl (lv_at hl 11 rfl) ?_
                      refine lv_iload hx hb dL_law_324 (lv_at hl 7 rfl) ?_
                      refine lv_iload hx hb dL_law_326 (lv_at hl 4 rfl) ?_
                      refine kn_i (va_runV (As := [.int (nI k), .int (nI i)]) (rest := []) ⟨hx, hb, hml, hown, htT⟩ (c_arm l D cA _ x_231 x gg_231.c.hx ar gg_231.c.q0 ak gg_231.c.q1 gg_231.c.kk gg_231.c.R k q8_k a_k ja_k (nI k) sw_k (nI i) (kOut_n (a := i) (lo := 0) (hi := 9999) (by omega) (by omega) (by omega))) (cwV 2 htT (kg_V m_ml_L_63 m_im_X5_arm m_sl_X5_arm m_in_X5 m_cd_X5_arm) rfl rfl rfl (by decide +kernel) ⟨Nat.le_of_ble_eq_true rfl, Nat.le_of_ble_eq_true rfl⟩) (kn_V hK hP hD hTB gg_231.c.hx (Nat.le_of_ble_eq_true rfl) rfl) rfl rfl hl.1 rfl (lv_room (Nat.le_of_ble_eq_true rfl)) dL_law_328 ⟨(by show _ ≤ 600086; omega), (by show _ ≤ 7301442; omega)⟩) hP hD hS hA (fun r_327 x_327 H locs hq_327 hP hD hS => ?_)
                      rw [hq_327.2] at hP hD
                      have har : rArmV M.2 (rArm M.2 (nI k) (nI i) na 0) = nI v := by unfold rArmV; rw [if_neg (hy2 (by omega)).1]; exact (hy2 (by omega)).2
                      rw [hq_327.1.trans ((armv_eq gg_231.l gg_231.c hna hk ja_k).trans har)]
                      refine lv_iload hx hb dL_law_331 (lv_at hl 1 rfl) ?_
                      refine lv_icmp_eq (tgt := 338) hx hb dL_law_333 (by decide) (fun c_328 => ?_) (fun c_328 => ?_)
                      · refine lv_iinc (v := nI (i + 1)) (lv' := [(11, .int (nI (i + 1))), (15, .int (nI y9)), (14, .int (nI v)), (13, .int (nI g2)), (12, .int (nI g1)), (10, .int 0), (9, .int (nI (vcT M k))), (8, .int (nI k)), (7, .int (nI (aa))), (5, .long bq), (4, .int (nI sp)), (3, .ref x), (2, .ref d), (1, .int (nI ti)), (0, .ref b)]) hx hb dL_law_338 hl (k := 4) rfl (nI_1 _) (by decide) rfl (fun ls hl => ?_)
                        refine lv_goto (tgt := 125) hx hb dL_law_341 (by decide) ?_
                        have hl := lv_sub hl [0, 5, 6, 7, 8, 9, 10, 11, 12, 13, 14] rfl
                        exact ih_125 _ (by omega) H locs ls f9244 hd0 ⟨pI (pI U d 2 (nI (ru9 + 1))) d 2 (nI (ru9 + 1 + 1)), x_231, (upd (upd fu 2 (nI (ru9 + 1))) 2 (nI (ru9 + 1 + 1))), (ru9 + 1 + 1), i + 1, rfl, (by omega), (by omega), dk_229, ((hvmu.draw (d2 := ru9 + 1)).draw (d2 := ru9 + 1 + 1)), gg_231, hP, hD, hS, hl⟩
                      · exact absurd rfl c_328
