set_option maxRecDepth 100000 in
set_option maxHeartbeats 4000000 in
/-- dropRule -/
theorem d_dropRule (l : Launch) (D : va_G) (cA : Nat → ClassId) (sz : Nat) (wb : va_W) (b L : Nat) (xs : Nat → Int32) (hL : L < 2 ^ 31) (T : Pool) (d x : Nat) (Ad : DA) (n na : Nat) (fF : Nat → Int32) (fO fW : Nat → Nat → Int32) (fC : Nat → Nat) (fR : Nat → Nat → Nat → Int32) (fB : Nat → Nat → Int32) (dk : DK T d x b Ad (n, na, fF, fO, fW, fC, fR, fB)) (k ap : Nat) (hk : k < 8) (hC5 : fC k ≤ 5) (hap : ap < fC k)  : Met l yX6_dropRule (Cond.code yX6_dropRule cX6_dropRule 5 (some .boolean) :: TT) ({ frames := 0, cells := 1, slots := 5, locals := 0 }) (va_Pc [.ref d, .int (nI k), .int (nI ap)] (kPreE D cA (PW cA T ++ wb) b L xs sz)) (va_Qi (fun (r_ : Int32) (x_ : Pool) => r_ = 1 ∧ ∃ Ad2, DK x_ d x b Ad2 (n, na, fF, fO, fW, va_up fC k (fC k - 1), fun i => if i = k then (fun z => fR k (if z < ap then z else z + 1)) else fR i, fB)) (fun x_ => kB D cA (va_A (PW cA T ++ wb) sz) (PW cA x_ ++ wb)) (va_A (PW cA T ++ wb) sz)) 1 5 (va_A (PW cA T ++ wb) sz) := by
  refine Met.ofW (cc := cX6_dropRule) (maxL := 5) (ret := (some .boolean)) (by decide) rfl ?_
  intro p e s m args below meth c s₁ B hml hv
  obtain ⟨rfl, ⟨⟨hsz, hP, hK, hD0, hTB⟩, hTX⟩, hX, hbl, hbA, hAO⟩ := hv
  have hx := B.exec
  have hb := B.bytes
  have hr := B.returns
  have hts := atoms_spec (ws := Cond.code yX6_dropRule cX6_dropRule 5 (some .boolean) :: TT) B.pre
  have htT : ∀ w ∈ TT, w.before _ s = true := fun w h => hts w (List.mem_cons_of_mem _ h)
  have hown : s.vm.findClass RX6 = some m.cls := findClass_of_methodNamed B.named
  have hlocks := B.notSynchronized
  subst hsz
  have hD := hD0.self (sz := s.heap.size)
  generalize hAe : va_A (PW cA T ++ wb) s.heap.size = A at hD hTX hbA ⊢
  have hA : ∀ q : Nat, s.heap.size ≤ q → A q := fun q h => by rw [← hAe]; exact Or.inr h
  have hS : va_S A s.heap s.heap [] := va_S.rf
  have hl := lv_entry ([.ref d, .int (nI k), .int (nI ap)]) (n := 5) (Nat.le_of_ble_eq_true rfl)
  rw [lg_entry_eq]
  generalize (lg_sl ([.ref d, .int (nI k), .int (nI ap)]) ++ List.replicate (5 - (lg_sl ([.ref d, .int (nI k), .int (nI ap)])).length) Slot.unset).toArray = ls at hl ⊢
  have hl : lv_has ls 5 [(0, .ref d), (1, .int (nI k)), (2, .int (nI ap))] := hl
  have hn8 : n ≤ 8 := dk.n8
  refine lv_aload_n hx hb dX6_dropRule_0 rfl (lv_at hl 0 rfl) ?_
  refine kd_gets (r := (aR Ad)) hx hb htT m_u_X6 hown hK hP dk.o rfl 8 (by decide) (by decide) rfl dk.q8 (htT _ m_fl_X6_28) dX6_dropRule_1 ?_
  refine lv_iload_n hx hb dX6_dropRule_4 rfl (lv_at hl 1 rfl) ?_
  refine ky_aldb (r := some (aRk Ad k)) hx hb hK hP dk.ar (show vp_in (nI (k)) 8 from ki_in (by omega) (by omega)) ((congrArg _ (ki_cl (n := k) (by omega))).trans (dk.rp (k := k) (show k < 8 by omega))) dX6_dropRule_5 ?_
  refine ky_lena (v := nI (fC k)) hx hb hK hP (dk.ra (k := k) (show k < 8 by omega)) rfl dX6_dropRule_6 ?_
  refine lv_iconst (v := 1) hx hb dX6_dropRule_7 (by decide) ?_
  refine lv_isub hx hb dX6_dropRule_8 ?_
  rw [show ((nI (fC k)) - 1 : Int32) = nI ((fC k) - 1) from pk_sub (a := fC k) (b := 1) (by omega)]
  refine ky_newa (n := nI ((fC k) - 1)) (N' := (fC k) - 1) hx hb hown (htT _ m_cl_X6_16) hAO.1 hK hP hD hS hA (fun h9 => absurd ((nI_ltI (a := (fC k) - 1) (b := 0) (by omega) (by omega)).mp h9) (by omega)) (ki_cl (by omega)) (by omega) (Nat.le_of_ble_eq_true rfl) (show 0 + ((fC k) - 1) ≤ 5 by omega) dX6_dropRule_9 (fun q_1 H hq_1 hP hD hS => ?_)
  refine W.widen (k := 1) (n := 5) (Nat.le_of_ble_eq_true rfl) (show 0 + ((fC k) - 1) ≤ 5 by omega) ?_
  have hE0 : ExtA T (pW T q_1 24 ((fC k) - 1)) := ExtA.new hq_1
  refine lv_astore_n (lv' := [(3, .ref q_1), (0, .ref d), (1, .int (nI k)), (2, .int (nI ap))]) hx hb dX6_dropRule_12 rfl hl (by decide) rfl (fun ls hl => ?_)
  refine lv_iconst (v := 0) hx hb dX6_dropRule_13 (by decide) ?_
  refine lv_istore (lv' := [(4, .int 0), (3, .ref q_1), (0, .ref d), (1, .int (nI k)), (2, .int (nI ap))]) hx hb dX6_dropRule_14 hl (by decide) rfl (fun ls hl => ?_)
  refine kz_loop 16 (fun N9 H locs ls => ∃ (U : Pool) (i : Nat), N9 = fC k - 1 - i ∧ i ≤ fC k - 1 ∧ ExtA T U ∧ isA U q_1 24 (fC k - 1) ∧ (∀ z, z < i → gP U q_1 z = some (aRR Ad k (if z < ap then z else z + 1))) ∧ va_P D vwCl (PW cA U ++ wb) H ∧ va_D A (PW cA U ++ wb) ∧ va_S A s.heap H locs ∧ lv_has ls 5 [(4, .int (nI i)), (3, .ref q_1), (0, .ref d), (1, .int (nI k)), (2, .int (nI ap))]) (fun N9 ih_16 H locs ls hI => ?_) ⟨pW T q_1 24 ((fC k) - 1), 0, rfl, Nat.zero_le _, hE0, (isA_q (S := T) (q := q_1) (ki := 24) (n := fC k - 1)), (fun z hz => absurd hz (Nat.not_lt_zero _)), hP, hD, hS, lv_sub hl [0, 1, 2, 3, 4] rfl⟩
  obtain ⟨U, i, hn9, hi9, hE, isQ, hz9, hP, hD, hS, hl⟩ := hI
  have dk_U : DK U d x b Ad (n, na, fF, fO, fW, fC, fR, fB) := dk.ext hE
  refine lv_iload hx hb dX6_dropRule_16 (lv_at hl 0 rfl) ?_
  refine lv_aload_n hx hb dX6_dropRule_18 rfl (lv_at hl 1 rfl) ?_
  refine ky_lena (v := nI (fC k - 1)) hx hb hK hP isQ rfl dX6_dropRule_19 ?_
  refine lv_icmp_ge (tgt := 55) hx hb dX6_dropRule_20 (by decide) (fun c_2 => ?_) (fun c_2 => ?_)
  · replace c_2 := (nI_leI (a := fC k - 1) (b := i) (by omega) (by omega)).mp c_2
    refine lv_aload_n hx hb dX6_dropRule_55 rfl (lv_at hl 2 rfl) ?_
    refine kd_gets (r := (aR Ad)) hx hb htT m_u_X6 hown hK hP dk_U.o rfl 8 (by decide) (by decide) rfl dk_U.q8 (htT _ m_fl_X6_28) dX6_dropRule_56 ?_
    refine lv_iload_n hx hb dX6_dropRule_59 rfl (lv_at hl 3 rfl) ?_
    refine lv_aload_n hx hb dX6_dropRule_60 rfl (lv_at hl 1 rfl) ?_
    refine ky_astbv hx hb hP hD hS dk_U.ar isQ (rr_2 hK hAO.2) (show vp_in (nI k) 8 from ki_in (by omega) (by decide)) (ki_cl (n := k) (by omega)) dX6_dropRule_61 (fun H locs hP hD hS => ?_)
    have dk_9 := dk_U.rul (k := k) (q := q_1) (m := fC k - 1) (Z := fun z => aRR Ad k (if z < ap then z else z + 1)) (g := fun z => fR k (if z < ap then z else z + 1)) hk isQ (fun e9 => hq_1 (e9 ▸ dk.ao.1)) (fun z hz => ⟨hz9 z (by omega), dk_U.rra (k := k) (i := if z < ap then z else z + 1) hk (show (if z < ap then z else z + 1) < fC k by split <;> omega), fun j hj => dk_U.rv (k := k) (i := if z < ap then z else z + 1) (j := j) hk (show (if z < ap then z else z + 1) < fC k by split <;> omega) hj⟩)
    refine lv_iconst (v := 1) hx hb dX6_dropRule_62 (by decide) ?_
    exact W.zret (v := 1) hx hb hr (rfl) (fun t ht hW => ⟨⟨1, pP U (aR Ad) k (some q_1), rfl, ⟨rfl, _, dk_9⟩, by rw [ht]; exact hP, va_K.moved hW.alike hK, hD⟩, hS.F ht⟩) hS.2.2 dX6_dropRule_63
  · replace c_2 : ¬ (fC k - 1 ≤ i) := fun h9 => c_2 ((nI_leI (a := fC k - 1) (b := i) (by omega) (by omega)).mpr h9)
    refine lv_aload_n hx hb dX6_dropRule_23 rfl (lv_at hl 1 rfl) ?_
    refine lv_iload hx hb dX6_dropRule_24 (lv_at hl 0 rfl) ?_
    refine lv_aload_n hx hb dX6_dropRule_26 rfl (lv_at hl 2 rfl) ?_
    refine kd_gets (r := (aR Ad)) hx hb htT m_u_X6 hown hK hP dk_U.o rfl 8 (by decide) (by decide) rfl dk_U.q8 (htT _ m_fl_X6_28) dX6_dropRule_27 ?_
    refine lv_iload_n hx hb dX6_dropRule_30 rfl (lv_at hl 3 rfl) ?_
    refine ky_aldb (r := some (aRk Ad k)) hx hb hK hP dk_U.ar (show vp_in (nI (k)) 8 from ki_in (by omega) (by omega)) ((congrArg _ (ki_cl (n := k) (by omega))).trans (dk_U.rp (k := k) (show k < 8 by omega))) dX6_dropRule_31 ?_
    refine lv_iload hx hb dX6_dropRule_32 (lv_at hl 0 rfl) ?_
    refine lv_iload_n hx hb dX6_dropRule_34 rfl (lv_at hl 4 rfl) ?_
    refine lv_icmp_ge (tgt := 43) hx hb dX6_dropRule_35 (by decide) (fun c_3 => ?_) (fun c_3 => ?_)
    · replace c_3 := (nI_leI (a := ap) (b := i) (by omega) (by omega)).mp c_3
      refine lv_iload hx hb dX6_dropRule_43 (lv_at hl 0 rfl) ?_
      refine lv_iconst (v := 1) hx hb dX6_dropRule_45 (by decide) ?_
      refine lv_iadd hx hb dX6_dropRule_46 ?_
      rw [show ((nI i) + 1 : Int32) = nI (i + 1) from nI_add i 1]
      refine ky_alda (r := some (aRR Ad k (i + 1))) hx hb hK hP (dk_U.ra (k := k) (show k < 8 by omega)) (show vp_in (nI (i + 1)) (fC k) from ki_in (by omega) (by omega)) ((congrArg _ (ki_cl (n := i + 1) (by omega))).trans (dk_U.rrp (k := k) (i := i + 1) (show k < 8 by omega) (show i + 1 < fC k by omega))) dX6_dropRule_47 ?_
      refine ky_astav hx hb hP hD hS isQ (dk_U.rra (k := k) (i := i + 1) (show k < 8 by omega) (show i + 1 < fC k by omega)) (by decide) (by decide) (rr_1 hK hAO.1) (show vp_in (nI i) (fC k - 1) from ki_in (by omega) (by omega)) (ki_cl (n := i) (by omega)) dX6_dropRule_48 (fun H locs hP hD hS => ?_)
      have hE2 : ExtA T (pP U q_1 i (some (aRR Ad k (i + 1)))) := hE.pP hq_1
      have hz2 : ∀ z, z < i + 1 → gP (pP U q_1 i (some (aRR Ad k (i + 1)))) q_1 z = some (aRR Ad k (if z < ap then z else z + 1)) := fun z hz => by
        by_cases ez : z = i
        · subst ez; rw [if_neg (by omega)]; exact u2_s
        · exact (u2_k ez).trans (hz9 z (by omega))
      refine lv_iinc (v := nI (i + 1)) (lv' := [(4, .int (nI (i + 1))), (3, .ref q_1), (0, .ref d), (1, .int (nI k)), (2, .int (nI ap))]) hx hb dX6_dropRule_49 hl (k := 0) rfl (nI_1 _) (by decide) rfl (fun ls hl => ?_)
      refine lv_goto (tgt := 16) hx hb dX6_dropRule_52 (by decide) ?_
      have hl := lv_sub hl [0, 1, 2, 3, 4] rfl
      exact ih_16 _ (by omega) H locs ls ⟨(pP U q_1 i (some (aRR Ad k (i + 1)))), i + 1, rfl, (by omega), hE2, (isQ), hz2, hP, hD, hS, hl⟩
    · replace c_3 : ¬ (ap ≤ i) := fun h9 => c_3 ((nI_leI (a := ap) (b := i) (by omega) (by omega)).mpr h9)
      refine lv_iload hx hb dX6_dropRule_38 (lv_at hl 0 rfl) ?_
      refine lv_goto (tgt := 47) hx hb dX6_dropRule_40 (by decide) ?_
      refine ky_alda (r := some (aRR Ad k i)) hx hb hK hP (dk_U.ra (k := k) (show k < 8 by omega)) (show vp_in (nI (i)) (fC k) from ki_in (by omega) (by omega)) ((congrArg _ (ki_cl (n := i) (by omega))).trans (dk_U.rrp (k := k) (i := i) (show k < 8 by omega) (show i < fC k by omega))) dX6_dropRule_47 ?_
      refine ky_astav hx hb hP hD hS isQ (dk_U.rra (k := k) (i := i) (show k < 8 by omega) (show i < fC k by omega)) (by decide) (by decide) (rr_1 hK hAO.1) (show vp_in (nI i) (fC k - 1) from ki_in (by omega) (by omega)) (ki_cl (n := i) (by omega)) dX6_dropRule_48 (fun H locs hP hD hS => ?_)
      have hE2 : ExtA T (pP U q_1 i (some (aRR Ad k i))) := hE.pP hq_1
      have hz2 : ∀ z, z < i + 1 → gP (pP U q_1 i (some (aRR Ad k i))) q_1 z = some (aRR Ad k (if z < ap then z else z + 1)) := fun z hz => by
        by_cases ez : z = i
        · subst ez; rw [if_pos (by omega)]; exact u2_s
        · exact (u2_k ez).trans (hz9 z (by omega))
      refine lv_iinc (v := nI (i + 1)) (lv' := [(4, .int (nI (i + 1))), (3, .ref q_1), (0, .ref d), (1, .int (nI k)), (2, .int (nI ap))]) hx hb dX6_dropRule_49 hl (k := 0) rfl (nI_1 _) (by decide) rfl (fun ls hl => ?_)
      refine lv_goto (tgt := 16) hx hb dX6_dropRule_52 (by decide) ?_
      have hl := lv_sub hl [0, 1, 2, 3, 4] rfl
      exact ih_16 _ (by omega) H locs ls ⟨(pP U q_1 i (some (aRR Ad k i))), i + 1, rfl, (by omega), hE2, (isQ), hz2, hP, hD, hS, hl⟩

set_option maxRecDepth 100000 in
set_option maxHeartbeats 4000000 in
/-- d_unrule -/
theorem d_unrule (l : Launch) (D : va_G) (cA : Nat → ClassId) (sz : Nat) (b L : Nat) (xs : Nat → Int32) (hL : L < 2 ^ 31) (T S : Pool) (d x ar ak D0 c0 s0 n0 : Nat) (hD0 : D0 < 1000000) (hc0 : c0 < 100000) (hs0 : s0 < 1000000) (hJ : J38 d x b ar ak D0 c0 s0 n0 T S) (hn0 : 1 ≤ n0)  : Met l yX6_unrule (Cond.code yX6_unrule cX6_unrule 3 (some .boolean) :: TT) ({ frames := 3, cells := 1, slots := 5, locals := 66 }) (va_Pc [.ref d] (kPreE D cA (PW cA T ++ PW cA S) b L xs sz)) (va_Qi (fun (r_ : Int32) (x_ : Pool × Pool) => r_ = 1 ∧ J38 d x b ar ak (D0 + 8) (c0) (s0) (n0) x_.1 x_.2) (fun x_ => kB D cA (va_A (PW cA T ++ PW cA S) sz) (PW cA x_.1 ++ PW cA x_.2)) (va_A (PW cA T ++ PW cA S) sz)) 1 5 (va_A (PW cA T ++ PW cA S) sz) := by
  refine Met.ofW (cc := cX6_unrule) (maxL := 3) (ret := (some .boolean)) (by decide) rfl ?_
  intro p e s m args below meth c s₁ B hml hv
  obtain ⟨rfl, ⟨⟨hsz, hP, hK, hD0, hTB⟩, hTX⟩, hX, hbl, hbA, hAO⟩ := hv
  have hx := B.exec
  have hb := B.bytes
  have hr := B.returns
  have hts := atoms_spec (ws := Cond.code yX6_unrule cX6_unrule 3 (some .boolean) :: TT) B.pre
  have htT : ∀ w ∈ TT, w.before _ s = true := fun w h => hts w (List.mem_cons_of_mem _ h)
  have hown : s.vm.findClass RX6 = some m.cls := findClass_of_methodNamed B.named
  have hlocks := B.notSynchronized
  subst hsz
  have hD := hD0.self (sz := s.heap.size)
  generalize hAe : va_A (PW cA T ++ PW cA S) s.heap.size = A at hD hTX hbA ⊢
  have hA : ∀ q : Nat, s.heap.size ≤ q → A q := fun q h => by rw [← hAe]; exact Or.inr h
  have hS : va_S A s.heap s.heap [] := va_S.rf
  have hl := lv_entry ([.ref d]) (n := 3) (Nat.le_of_ble_eq_true rfl)
  rw [lg_entry_eq]
  generalize (lg_sl ([.ref d]) ++ List.replicate (3 - (lg_sl ([.ref d])).length) Slot.unset).toArray = ls at hl ⊢
  have hl : lv_has ls 3 [(0, .ref d)] := hl
  obtain ⟨n, na, dr, cM, sB, Ad, fF, fO, fW, fC, fR, fB, M, hn9, hdr9, hcM9, hsB9, dk, hvm, gg, hM⟩ := hJ
  have hn8 : n ≤ 8 := dk.n8
  have hna : na ≤ 100 := gg.r.na
  have hdr : fF 2 = nI dr := hvm.f2
  have oF5 : fF 5 = nI n := hvm.f5
  have oF3 : fF 3 = nI cM := hvm.f3.trans hM.1.1
  refine lv_aload_n hx hb dX6_unrule_0 rfl (lv_at hl 0 rfl) ?_
  refine lv_aload_n hx hb dX6_unrule_1 rfl (lv_at hl 0 rfl) ?_
  refine kd_getiv (x := nI n) hx hb htT m_u_X6 hown hK hP dk.o rfl 5 (by decide) (by decide) rfl (htT _ m_fl_X6_57) ((dk.f 5).trans ((show _ = fF 5 from rfl).trans oF5)) dX6_unrule_2 ?_
  refine kc_i (va_runV (As := [.int (nI n)]) (rest := []) ⟨hx, hb, hml, hown, htT⟩ (d_draw l D cA _ (PW cA S) b L xs hL T d x Ad n na fF fO fW fC fR fB dk (dr) hdr (by omega) (n) (by omega) (by omega)) (cwV 1 htT (kg_V m_ml_X6_60 m_im_X6_draw m_sl_X6_draw m_in_X6 m_cd_X6_draw) rfl rfl rfl (by decide +kernel) ⟨Nat.le_of_ble_eq_true rfl, Nat.le_of_ble_eq_true rfl⟩) (kpe_V hK hP hD hTB hTX hX hbl hbA hAO hS hA (kpe_rc hK hP dk.o rfl)) rfl rfl hl.1 rfl (lv_room (Nat.le_of_ble_eq_true rfl)) dX6_unrule_5 ⟨Nat.le_of_ble_eq_true rfl, Nat.le_of_ble_eq_true rfl⟩) hD hS hA (fun r_1 x_1 H locs hq_1 hP hD hS => ?_)
  obtain ⟨⟨k, hk, hr_1⟩, ht_1⟩ := hq_1
  rw [hr_1]
  rw [ht_1] at hP hD
  have dk_2 : DK (pI T d 2 (nI (dr + 1))) d x b Ad (n, na, (upd fF 2 (nI (dr + 1))), fO, fW, fC, fR, fB) := dk.num
  have q8_k : k < 8 := by omega
  obtain ⟨a_k, ja_k⟩ := gg.c.row k (by omega)
  have sw_k := gg.sw2 (by omega) ja_k
  have hC5 : fC k ≤ 5 := (hvm.c q8_k).1
  have e17 : M.2 17 k = nI (fC k) := (hvm.c q8_k).2
  have e8 : gI S a_k 8 = nI (fC k) := (gg.l.rn hk ja_k (q := (8, 17)) (by decide)).trans e17
  refine lv_istore_n (lv' := [(1, .int (nI k)), (0, .ref d)]) hx hb dX6_unrule_8 rfl hl (by decide) rfl (fun ls hl => ?_)
  refine lv_aload_n hx hb dX6_unrule_9 rfl (lv_at hl 1 rfl) ?_
  refine lv_iconst (v := 5) hx hb dX6_unrule_10 (by decide) ?_
  refine kc_i (va_runV (As := [.int 5]) (rest := []) ⟨hx, hb, hml, hown, htT⟩ (d_draw l D cA _ (PW cA S) b L xs hL (pI T d 2 (nI (dr + 1))) d x Ad n na (upd fF 2 (nI (dr + 1))) fO fW fC fR fB dk_2 (dr + 1) rfl (by omega) (5) (by omega) (by omega)) (cwV 1 htT (kg_V m_ml_X6_60 m_im_X6_draw m_sl_X6_draw m_in_X6 m_cd_X6_draw) rfl rfl rfl (by decide +kernel) ⟨Nat.le_of_ble_eq_true rfl, Nat.le_of_ble_eq_true rfl⟩) (kpe_V hK hP hD hTB hTX hX hbl hbA hAO hS hA (kpe_rc hK hP dk_2.o rfl)) rfl rfl hl.1 rfl (lv_room (Nat.le_of_ble_eq_true rfl)) dX6_unrule_11 ⟨Nat.le_of_ble_eq_true rfl, Nat.le_of_ble_eq_true rfl⟩) hD hS hA (fun r_3 x_3 H locs hq_3 hP hD hS => ?_)
  obtain ⟨⟨ap, hap, hr_3⟩, ht_3⟩ := hq_3
  rw [hr_3]
  rw [ht_3] at hP hD
  have dk_4 : DK (pI (pI T d 2 (nI (dr + 1))) d 2 (nI (dr + 1 + 1))) d x b Ad (n, na, (upd (upd fF 2 (nI (dr + 1))) 2 (nI (dr + 1 + 1))), fO, fW, fC, fR, fB) := dk_2.num
  refine lv_istore_n (lv' := [(2, .int (nI ap)), (1, .int (nI k)), (0, .ref d)]) hx hb dX6_unrule_14 rfl hl (by decide) rfl (fun ls hl => ?_)
  refine lv_iload_n hx hb dX6_unrule_15 rfl (lv_at hl 0 rfl) ?_
  refine lv_aload_n hx hb dX6_unrule_16 rfl (lv_at hl 2 rfl) ?_
  refine kd_gets (r := (aR Ad)) hx hb htT m_u_X6 hown hK hP dk_4.o rfl 8 (by decide) (by decide) rfl dk_4.q8 (htT _ m_fl_X6_28) dX6_unrule_17 ?_
  refine lv_iload_n hx hb dX6_unrule_20 rfl (lv_at hl 1 rfl) ?_
  refine ky_aldb (r := some (aRk Ad k)) hx hb hK hP dk_4.ar (show vp_in (nI (k)) 8 from ki_in (by omega) (by omega)) ((congrArg _ (ki_cl (n := k) (by omega))).trans (dk_4.rp (k := k) (show k < 8 by omega))) dX6_unrule_21 ?_
  refine ky_lena (v := nI (fC k)) hx hb hK hP (dk_4.ra (k := k) (show k < 8 by omega)) rfl dX6_unrule_22 ?_
  refine lv_icmp_lt (tgt := 28) hx hb dX6_unrule_23 (by decide) (fun c_5 => ?_) (fun c_5 => ?_)
  · replace c_5 := (nI_ltI (a := ap) (b := fC k) (by omega) (by omega)).mp c_5
    refine lv_aload_n hx hb dX6_unrule_28 rfl (lv_at hl 2 rfl) ?_
    refine kd_gets (r := x) hx hb htT m_u_X6 hown hK hP dk_4.o rfl 0 (by decide) (by decide) rfl dk_4.q0 (htT _ m_fl_X6_10) dX6_unrule_29 ?_
    refine lv_iload_n hx hb dX6_unrule_32 rfl (lv_at hl 1 rfl) ?_
    refine lv_iload_n hx hb dX6_unrule_33 rfl (lv_at hl 0 rfl) ?_
    refine kn_i (va_runV (As := [.int (nI k), .int (nI ap)]) (rest := []) ⟨hx, hb, hml, hown, htT⟩ (c_unrule l D cA _ S x gg.c.hx ar gg.c.q0 ak gg.c.q1 gg.c.kk gg.c.R k q8_k a_k ja_k (nI k) sw_k ap (by omega) (by rw [e8]; exact kOut_sw (n := fC k) (i := ap) (by omega) (by omega) rfl)) (cwV 2 htT (kg_V m_ml_X6_99 m_im_X5_unrule m_sl_X5_unrule m_in_X5 m_cd_X5_unrule) rfl rfl rfl (by decide +kernel) ⟨Nat.le_of_ble_eq_true rfl, Nat.le_of_ble_eq_true rfl⟩) (kn_V hK hP hD hTB gg.c.hx (Nat.le_of_ble_eq_true rfl) rfl) rfl rfl hl.1 rfl (lv_room (Nat.le_of_ble_eq_true rfl)) dX6_unrule_34 ⟨Nat.le_of_ble_eq_true rfl, Nat.le_of_ble_eq_true rfl⟩) hP hD hS hA (fun r_6 x_6 H locs hq_6 hP hD hS => ?_)
    have e81 : gI S a_k 8 - 1 = nI (fC k - 1) := by rw [e8]; exact pk_sub (a := fC k) (b := 1) (by omega)
    rw [hq_6.1.trans e81]
    have gg2 : GG n na x_6 (mUnr M k ap (fC k)) x ar ak := by rw [hq_6.2, e81]; exact gg.unrule hk ja_k hC5 e17 (by omega)
    refine lv_aload_n hx hb dX6_unrule_37 rfl (lv_at hl 2 rfl) ?_
    refine kd_gets (r := (aR Ad)) hx hb htT m_u_X6 hown hK hP dk_4.o rfl 8 (by decide) (by decide) rfl dk_4.q8 (htT _ m_fl_X6_28) dX6_unrule_38 ?_
    refine lv_iload_n hx hb dX6_unrule_41 rfl (lv_at hl 1 rfl) ?_
    refine ky_aldb (r := some (aRk Ad k)) hx hb hK hP dk_4.ar (show vp_in (nI (k)) 8 from ki_in (by omega) (by omega)) ((congrArg _ (ki_cl (n := k) (by omega))).trans (dk_4.rp (k := k) (show k < 8 by omega))) dX6_unrule_42 ?_
    refine ky_lena (v := nI (fC k)) hx hb hK hP (dk_4.ra (k := k) (show k < 8 by omega)) rfl dX6_unrule_43 ?_
    refine lv_iconst (v := 1) hx hb dX6_unrule_44 (by decide) ?_
    refine lv_isub hx hb dX6_unrule_45 ?_
    rw [show ((nI (fC k)) - 1 : Int32) = nI ((fC k) - 1) from pk_sub (a := fC k) (b := 1) (by omega)]
    refine lv_icmp_ne (tgt := 62) hx hb dX6_unrule_46 (by decide) (fun c_7 => ?_) (fun c_7 => ?_)
    · exact absurd rfl c_7
    · refine lv_aload_n hx hb dX6_unrule_49 rfl (lv_at hl 2 rfl) ?_
      refine lv_iload_n hx hb dX6_unrule_50 rfl (lv_at hl 1 rfl) ?_
      refine lv_iload_n hx hb dX6_unrule_51 rfl (lv_at hl 0 rfl) ?_
      refine kc_i (va_runV (As := [.int (nI k), .int (nI ap)]) (rest := []) ⟨hx, hb, hml, hown, htT⟩ (d_dropRule l D cA _ (PW cA x_6) b L xs hL (pI (pI T d 2 (nI (dr + 1))) d 2 (nI (dr + 1 + 1))) d x Ad n na (upd (upd fF 2 (nI (dr + 1))) 2 (nI (dr + 1 + 1))) fO fW fC fR fB dk_4 k ap q8_k hC5 (by omega)) (cwV 2 htT (kg_V m_ml_X6_102 m_im_X6_dropRule m_sl_X6_dropRule m_in_X6 m_cd_X6_dropRule) rfl rfl rfl (by decide +kernel) ⟨Nat.le_of_ble_eq_true rfl, Nat.le_of_ble_eq_true rfl⟩) (kpe_V hK hP hD hTB hTX hX hbl hbA hAO hS hA (kpe_rc hK hP dk_4.o rfl)) rfl rfl hl.1 rfl (lv_room (Nat.le_of_ble_eq_true rfl)) dX6_unrule_52 ⟨Nat.le_of_ble_eq_true rfl, Nat.le_of_ble_eq_true rfl⟩) hD hS hA (fun r_8 x_8 H locs hq_8 hP hD hS => ?_)
      obtain ⟨hr_8, Ad2, dk2⟩ := hq_8
      rw [hr_8]
      refine lv_if_eq (tgt := 62) hx hb dX6_unrule_55 (by decide) (fun c_9 => absurd c_9 (by decide)) (fun _ => ?_)
      refine lv_iconst (v := 1) hx hb dX6_unrule_58 (by decide) ?_
      refine lv_goto (tgt := 63) hx hb dX6_unrule_59 (by decide) ?_
      exact W.zret (v := 1) hx hb hr (rfl) (fun t ht hW => ⟨⟨1, (x_8, x_6), rfl, ⟨rfl, n, na, dr + 1 + 1, cM, sB, _, _, _, _, _, _, _, (mUnr M k ap (fC k)), by omega, by omega, by omega, by omega, dk2, (((hvm.draw (d2 := dr + 1)).draw (d2 := dr + 1 + 1)).unrule (k := k) q8_k (ap := ap) (by show ap < fC k; omega)), gg2, (hM.unrule hk hC5 e17 (by omega))⟩, by rw [ht]; exact hP, va_K.moved hW.alike hK, hD⟩, hS.F ht⟩) hS.2.2 dX6_unrule_63
  · replace c_5 : ¬ (ap < fC k) := fun h9 => c_5 ((nI_ltI (a := ap) (b := fC k) (by omega) (by omega)).mpr h9)
    refine lv_iconst (v := 1) hx hb dX6_unrule_26 (by decide) ?_
    refine W.widen (k := 1) (n := 5) (Nat.le_of_ble_eq_true rfl) (Nat.le_of_ble_eq_true rfl) ?_
    exact W.zret (v := 1) hx hb hr (rfl) (fun t ht hW => ⟨⟨1, (pI (pI T d 2 (nI (dr + 1))) d 2 (nI (dr + 1 + 1)), S), rfl, ⟨rfl, n, na, dr + 1 + 1, cM, sB, _, _, _, _, _, _, _, M, by omega, by omega, by omega, by omega, dk_4, ((hvm.draw (d2 := dr + 1)).draw (d2 := dr + 1 + 1)), gg, hM⟩, by rw [ht]; exact hP, va_K.moved hW.alike hK, hD⟩, hS.F ht⟩) hS.2.2 dX6_unrule_27

set_option maxRecDepth 100000 in
set_option maxHeartbeats 4000000 in
/-- d_rule -/
theorem d_rule (l : Launch) (D : va_G) (cA : Nat → ClassId) (sz : Nat) (b L : Nat) (xs : Nat → Int32) (hL : L < 2 ^ 31) (T S : Pool) (d x ar ak D0 c0 s0 n0 : Nat) (hD0 : D0 < 1000000) (hc0 : c0 < 100000) (hs0 : s0 < 1000000) (hJ : J38 d x b ar ak D0 c0 s0 n0 T S) (hn0 : 1 ≤ n0)  : Met l yX6_rule (Cond.code yX6_rule cX6_rule 3 (some .boolean) :: TT) ({ frames := 3, cells := 3, slots := 109, locals := 82 }) (va_Pc [.ref d] (kPreE D cA (PW cA T ++ PW cA S) b L xs sz)) (va_Qi (fun (r_ : Int32) (x_ : Pool × Pool) => r_ = 1 ∧ J38 d x b ar ak (D0 + 8) (c0) (s0) (n0) x_.1 x_.2) (fun x_ => kB D cA (va_A (PW cA T ++ PW cA S) sz) (PW cA x_.1 ++ PW cA x_.2)) (va_A (PW cA T ++ PW cA S) sz)) 3 109 (va_A (PW cA T ++ PW cA S) sz) := by
  refine Met.ofW (cc := cX6_rule) (maxL := 3) (ret := (some .boolean)) (by decide) rfl ?_
  intro p e s m args below meth c s₁ B hml hv
  obtain ⟨rfl, ⟨⟨hsz, hP, hK, hD0, hTB⟩, hTX⟩, hX, hbl, hbA, hAO⟩ := hv
  have hx := B.exec
  have hb := B.bytes
  have hr := B.returns
  have hts := atoms_spec (ws := Cond.code yX6_rule cX6_rule 3 (some .boolean) :: TT) B.pre
  have htT : ∀ w ∈ TT, w.before _ s = true := fun w h => hts w (List.mem_cons_of_mem _ h)
  have hown : s.vm.findClass RX6 = some m.cls := findClass_of_methodNamed B.named
  have hlocks := B.notSynchronized
  subst hsz
  have hD := hD0.self (sz := s.heap.size)
  generalize hAe : va_A (PW cA T ++ PW cA S) s.heap.size = A at hD hTX hbA ⊢
  have hA : ∀ q : Nat, s.heap.size ≤ q → A q := fun q h => by rw [← hAe]; exact Or.inr h
  have hS : va_S A s.heap s.heap [] := va_S.rf
  have hl := lv_entry ([.ref d]) (n := 3) (Nat.le_of_ble_eq_true rfl)
  rw [lg_entry_eq]
  generalize (lg_sl ([.ref d]) ++ List.replicate (3 - (lg_sl ([.ref d])).length) Slot.unset).toArray = ls at hl ⊢
  have hl : lv_has ls 3 [(0, .ref d)] := hl
  obtain ⟨n, na, dr, cM, sB, Ad, fF, fO, fW, fC, fR, fB, M, hn9, hdr9, hcM9, hsB9, dk, hvm, gg, hM⟩ := hJ
  have hn8 : n ≤ 8 := dk.n8
  have hna : na ≤ 100 := gg.r.na
  have hdr : fF 2 = nI dr := hvm.f2
  have oF5 : fF 5 = nI n := hvm.f5
  have oF3 : fF 3 = nI cM := hvm.f3.trans hM.1.1
  refine lv_aload_n hx hb dX6_rule_0 rfl (lv_at hl 0 rfl) ?_
  refine lv_aload_n hx hb dX6_rule_1 rfl (lv_at hl 0 rfl) ?_
  refine kd_getiv (x := nI n) hx hb htT m_u_X6 hown hK hP dk.o rfl 5 (by decide) (by decide) rfl (htT _ m_fl_X6_57) ((dk.f 5).trans ((show _ = fF 5 from rfl).trans oF5)) dX6_rule_2 ?_
  refine kc_i (va_runV (As := [.int (nI n)]) (rest := []) ⟨hx, hb, hml, hown, htT⟩ (d_draw l D cA _ (PW cA S) b L xs hL T d x Ad n na fF fO fW fC fR fB dk (dr) hdr (by omega) (n) (by omega) (by omega)) (cwV 1 htT (kg_V m_ml_X6_60 m_im_X6_draw m_sl_X6_draw m_in_X6 m_cd_X6_draw) rfl rfl rfl (by decide +kernel) ⟨Nat.le_of_ble_eq_true rfl, Nat.le_of_ble_eq_true rfl⟩) (kpe_V hK hP hD hTB hTX hX hbl hbA hAO hS hA (kpe_rc hK hP dk.o rfl)) rfl rfl hl.1 rfl (lv_room (Nat.le_of_ble_eq_true rfl)) dX6_rule_5 ⟨Nat.le_of_ble_eq_true rfl, Nat.le_of_ble_eq_true rfl⟩) hD hS hA (fun r_1 x_1 H locs hq_1 hP hD hS => ?_)
  obtain ⟨⟨k, hk, hr_1⟩, ht_1⟩ := hq_1
  rw [hr_1]
  rw [ht_1] at hP hD
  have dk_2 : DK (pI T d 2 (nI (dr + 1))) d x b Ad (n, na, (upd fF 2 (nI (dr + 1))), fO, fW, fC, fR, fB) := dk.num
  have q8_k : k < 8 := by omega
  obtain ⟨a_k, ja_k⟩ := gg.c.row k (by omega)
  have sw_k := gg.sw2 (by omega) ja_k
  have hC5 : fC k ≤ 5 := (hvm.c q8_k).1
  have e17 : M.2 17 k = nI (fC k) := (hvm.c q8_k).2
  have e8 : gI S a_k 8 = nI (fC k) := (gg.l.rn hk ja_k (q := (8, 17)) (by decide)).trans e17
  obtain ⟨vc, hvc2, hvc4, evc⟩ := gg.vc hk
  have o1 : fO k 1 = nI vc := (hvm.o hk (q := (1, 5)) (by decide)).trans evc
  refine lv_istore_n (lv' := [(1, .int (nI k)), (0, .ref d)]) hx hb dX6_rule_8 rfl hl (by decide) rfl (fun ls hl => ?_)
  refine lv_aload_n hx hb dX6_rule_9 rfl (lv_at hl 1 rfl) ?_
  refine kd_gets (r := (aR Ad)) hx hb htT m_u_X6 hown hK hP dk_2.o rfl 8 (by decide) (by decide) rfl dk_2.q8 (htT _ m_fl_X6_28) dX6_rule_10 ?_
  refine lv_iload_n hx hb dX6_rule_13 rfl (lv_at hl 0 rfl) ?_
  refine ky_aldb (r := some (aRk Ad k)) hx hb hK hP dk_2.ar (show vp_in (nI (k)) 8 from ki_in (by omega) (by omega)) ((congrArg _ (ki_cl (n := k) (by omega))).trans (dk_2.rp (k := k) (show k < 8 by omega))) dX6_rule_14 ?_
  refine ky_lena (v := nI (fC k)) hx hb hK hP (dk_2.ra (k := k) (show k < 8 by omega)) rfl dX6_rule_15 ?_
  refine lv_iconst (v := 5) hx hb dX6_rule_16 (by decide) ?_
  refine lv_icmp_ne (tgt := 48) hx hb dX6_rule_17 (by decide) (fun c_3 => ?_) (fun c_3 => ?_)
  · replace c_3 : ¬ (fC k = 5) := fun h9 => c_3 ((nI_eq (a := fC k) (b := 5) (by omega) (by omega)).mpr h9)
    refine lv_iconst (v := 4) hx hb dX6_rule_48 (by decide) ?_
    refine ky_newi (n := 4) (N' := 4) hx hb (htT _ m_ar_int) hK hP hD hS hA 9 (Nat.le_of_ble_eq_true rfl) (Nat.le_of_ble_eq_true rfl) (by decide) (by decide) (Nat.le_of_ble_eq_true rfl) (Nat.le_of_ble_eq_true rfl) (Nat.le_of_ble_eq_true rfl) dX6_rule_49 (fun q_4 H hq_4 hP hD hS => ?_)
    have nq_4 := dk_2.nq hq_4
    have dk_5 : DK (pW (pI T d 2 (nI (dr + 1))) q_4 9 4) d x b Ad (n, na, (upd fF 2 (nI (dr + 1))), fO, fW, fC, fR, fB) := dk_2.ext (ExtA.new hq_4)
    refine lv_dup hx hb dX6_rule_51 rfl ?_
    refine lv_iconst (v := 0) hx hb dX6_rule_52 (by decide) ?_
    refine lv_aload_n hx hb dX6_rule_53 rfl (lv_at hl 1 rfl) ?_
    refine lv_iconst (v := 2) hx hb dX6_rule_54 (by decide) ?_
    refine kc_i (va_runV (As := [.int 2]) (rest := [.int 0, .ref q_4, .ref q_4]) ⟨hx, hb, hml, hown, htT⟩ (d_draw l D cA _ (PW cA S) b L xs hL (pW (pI T d 2 (nI (dr + 1))) q_4 9 4) d x Ad n na (upd fF 2 (nI (dr + 1))) fO fW fC fR fB dk_5 (dr + 1) rfl (by omega) (2) (by omega) (by omega)) (cwV 1 htT (kg_V m_ml_X6_60 m_im_X6_draw m_sl_X6_draw m_in_X6 m_cd_X6_draw) rfl rfl rfl (by decide +kernel) ⟨Nat.le_of_ble_eq_true rfl, Nat.le_of_ble_eq_true rfl⟩) (kpe_V hK hP hD hTB hTX hX hbl hbA hAO hS hA (kpe_rc hK hP dk_5.o rfl)) rfl rfl hl.1 rfl (lv_room (Nat.le_of_ble_eq_true rfl)) dX6_rule_55 ⟨Nat.le_of_ble_eq_true rfl, Nat.le_of_ble_eq_true rfl⟩) hD hS hA (fun r_6 x_6 H locs hq_6 hP hD hS => ?_)
    obtain ⟨⟨m2, hm2, hr_6⟩, ht_6⟩ := hq_6
    rw [hr_6]
    rw [ht_6] at hP hD
    have dk_7 : DK (pI (pW (pI T d 2 (nI (dr + 1))) q_4 9 4) d 2 (nI (dr + 1 + 1))) d x b Ad (n, na, (upd (upd fF 2 (nI (dr + 1))) 2 (nI (dr + 1 + 1))), fO, fW, fC, fR, fB) := dk_5.num
    refine ky_iastv hx hb hK hP hD hS (isA_q (S := (pI T d 2 (nI (dr + 1)))) (q := q_4) (ki := 9) (n := 4)) (Nat.le_of_ble_eq_true rfl) (Nat.le_of_ble_eq_true rfl) (show vp_in 0 4 from ki_in (n := 0) (by omega) (by omega)) (ki_cl (n := 0) (by omega)) dX6_rule_58 (fun H locs hP hD hS => ?_)
    have dk_8 : DK (pR (pI (pW (pI T d 2 (nI (dr + 1))) q_4 9 4) d 2 (nI (dr + 1 + 1))) q_4 0 (nI m2)) d x b Ad (n, na, (upd (upd fF 2 (nI (dr + 1))) 2 (nI (dr + 1 + 1))), fO, fW, fC, fR, fB) := dk_7.fr nq_4
    refine lv_dup hx hb dX6_rule_59 rfl ?_
    refine lv_iconst (v := 1) hx hb dX6_rule_60 (by decide) ?_
    refine lv_iconst (v := 1) hx hb dX6_rule_61 (by decide) ?_
    refine lv_aload_n hx hb dX6_rule_62 rfl (lv_at hl 1 rfl) ?_
    refine lv_iconst (v := 3) hx hb dX6_rule_63 (by decide) ?_
    refine kc_i (va_runV (As := [.int 3]) (rest := [.int 1, .int 1, .ref q_4, .ref q_4]) ⟨hx, hb, hml, hown, htT⟩ (d_draw l D cA _ (PW cA S) b L xs hL (pR (pI (pW (pI T d 2 (nI (dr + 1))) q_4 9 4) d 2 (nI (dr + 1 + 1))) q_4 0 (nI m2)) d x Ad n na (upd (upd fF 2 (nI (dr + 1))) 2 (nI (dr + 1 + 1))) fO fW fC fR fB dk_8 (dr + 1 + 1) rfl (by omega) (3) (by omega) (by omega)) (cwV 1 htT (kg_V m_ml_X6_60 m_im_X6_draw m_sl_X6_draw m_in_X6 m_cd_X6_draw) rfl rfl rfl (by decide +kernel) ⟨Nat.le_of_ble_eq_true rfl, Nat.le_of_ble_eq_true rfl⟩) (kpe_V hK hP hD hTB hTX hX hbl hbA hAO hS hA (kpe_rc hK hP dk_8.o rfl)) rfl rfl hl.1 rfl (lv_room (Nat.le_of_ble_eq_true rfl)) dX6_rule_64 ⟨Nat.le_of_ble_eq_true rfl, Nat.le_of_ble_eq_true rfl⟩) hD hS hA (fun r_9 x_9 H locs hq_9 hP hD hS => ?_)
    obtain ⟨⟨h3, hh3, hr_9⟩, ht_9⟩ := hq_9
    rw [hr_9]
    rw [ht_9] at hP hD
    have dk_10 : DK (pI (pR (pI (pW (pI T d 2 (nI (dr + 1))) q_4 9 4) d 2 (nI (dr + 1 + 1))) q_4 0 (nI m2)) d 2 (nI (dr + 1 + 1 + 1))) d x b Ad (n, na, (upd (upd (upd fF 2 (nI (dr + 1))) 2 (nI (dr + 1 + 1))) 2 (nI (dr + 1 + 1 + 1))), fO, fW, fC, fR, fB) := dk_8.num
    refine lv_iadd hx hb dX6_rule_67 ?_
    rw [show (1 + (nI h3) : Int32) = nI (1 + h3) from nI_add 1 h3]
    refine ky_iastv hx hb hK hP hD hS (isA_q (S := (pI T d 2 (nI (dr + 1)))) (q := q_4) (ki := 9) (n := 4)) (Nat.le_of_ble_eq_true rfl) (Nat.le_of_ble_eq_true rfl) (show vp_in 1 4 from ki_in (n := 1) (by omega) (by omega)) (ki_cl (n := 1) (by omega)) dX6_rule_68 (fun H locs hP hD hS => ?_)
    have dk_11 : DK (pR (pI (pR (pI (pW (pI T d 2 (nI (dr + 1))) q_4 9 4) d 2 (nI (dr + 1 + 1))) q_4 0 (nI m2)) d 2 (nI (dr + 1 + 1 + 1))) q_4 1 (nI (1 + h3))) d x b Ad (n, na, (upd (upd (upd fF 2 (nI (dr + 1))) 2 (nI (dr + 1 + 1))) 2 (nI (dr + 1 + 1 + 1))), fO, fW, fC, fR, fB) := dk_10.fr nq_4
    refine lv_dup hx hb dX6_rule_69 rfl ?_
    refine lv_iconst (v := 2) hx hb dX6_rule_70 (by decide) ?_
    refine lv_aload_n hx hb dX6_rule_71 rfl (lv_at hl 1 rfl) ?_
    refine lv_bipush (v := 10) hx hb dX6_rule_72 (by decide) ?_
    refine kc_i (va_runV (As := [.int 10]) (rest := [.int 2, .ref q_4, .ref q_4]) ⟨hx, hb, hml, hown, htT⟩ (d_draw l D cA _ (PW cA S) b L xs hL (pR (pI (pR (pI (pW (pI T d 2 (nI (dr + 1))) q_4 9 4) d 2 (nI (dr + 1 + 1))) q_4 0 (nI m2)) d 2 (nI (dr + 1 + 1 + 1))) q_4 1 (nI (1 + h3))) d x Ad n na (upd (upd (upd fF 2 (nI (dr + 1))) 2 (nI (dr + 1 + 1))) 2 (nI (dr + 1 + 1 + 1))) fO fW fC fR fB dk_11 (dr + 1 + 1 + 1) rfl (by omega) (10) (by omega) (by omega)) (cwV 1 htT (kg_V m_ml_X6_60 m_im_X6_draw m_sl_X6_draw m_in_X6 m_cd_X6_draw) rfl rfl rfl (by decide +kernel) ⟨Nat.le_of_ble_eq_true rfl, Nat.le_of_ble_eq_true rfl⟩) (kpe_V hK hP hD hTB hTX hX hbl hbA hAO hS hA (kpe_rc hK hP dk_11.o rfl)) rfl rfl hl.1 rfl (lv_room (Nat.le_of_ble_eq_true rfl)) dX6_rule_74 ⟨Nat.le_of_ble_eq_true rfl, Nat.le_of_ble_eq_true rfl⟩) hD hS hA (fun r_12 x_12 H locs hq_12 hP hD hS => ?_)
    obtain ⟨⟨n10, hn10, hr_12⟩, ht_12⟩ := hq_12
    rw [hr_12]
    rw [ht_12] at hP hD
    have dk_13 : DK (pI (pR (pI (pR (pI (pW (pI T d 2 (nI (dr + 1))) q_4 9 4) d 2 (nI (dr + 1 + 1))) q_4 0 (nI m2)) d 2 (nI (dr + 1 + 1 + 1))) q_4 1 (nI (1 + h3))) d 2 (nI (dr + 1 + 1 + 1 + 1))) d x b Ad (n, na, (upd (upd (upd (upd fF 2 (nI (dr + 1))) 2 (nI (dr + 1 + 1))) 2 (nI (dr + 1 + 1 + 1))) 2 (nI (dr + 1 + 1 + 1 + 1))), fO, fW, fC, fR, fB) := dk_11.num
    refine ky_iastv hx hb hK hP hD hS (isA_q (S := (pI T d 2 (nI (dr + 1)))) (q := q_4) (ki := 9) (n := 4)) (Nat.le_of_ble_eq_true rfl) (Nat.le_of_ble_eq_true rfl) (show vp_in 2 4 from ki_in (n := 2) (by omega) (by omega)) (ki_cl (n := 2) (by omega)) dX6_rule_77 (fun H locs hP hD hS => ?_)
    have dk_14 : DK (pR (pI (pR (pI (pR (pI (pW (pI T d 2 (nI (dr + 1))) q_4 9 4) d 2 (nI (dr + 1 + 1))) q_4 0 (nI m2)) d 2 (nI (dr + 1 + 1 + 1))) q_4 1 (nI (1 + h3))) d 2 (nI (dr + 1 + 1 + 1 + 1))) q_4 2 (nI n10)) d x b Ad (n, na, (upd (upd (upd (upd fF 2 (nI (dr + 1))) 2 (nI (dr + 1 + 1))) 2 (nI (dr + 1 + 1 + 1))) 2 (nI (dr + 1 + 1 + 1 + 1))), fO, fW, fC, fR, fB) := dk_13.fr nq_4
    refine lv_dup hx hb dX6_rule_78 rfl ?_
    refine lv_iconst (v := 3) hx hb dX6_rule_79 (by decide) ?_
    refine lv_aload_n hx hb dX6_rule_80 rfl (lv_at hl 1 rfl) ?_
    refine lv_iconst (v := 3) hx hb dX6_rule_81 (by decide) ?_
    refine kc_i (va_runV (As := [.int 3]) (rest := [.int 3, .ref q_4, .ref q_4]) ⟨hx, hb, hml, hown, htT⟩ (d_draw l D cA _ (PW cA S) b L xs hL (pR (pI (pR (pI (pR (pI (pW (pI T d 2 (nI (dr + 1))) q_4 9 4) d 2 (nI (dr + 1 + 1))) q_4 0 (nI m2)) d 2 (nI (dr + 1 + 1 + 1))) q_4 1 (nI (1 + h3))) d 2 (nI (dr + 1 + 1 + 1 + 1))) q_4 2 (nI n10)) d x Ad n na (upd (upd (upd (upd fF 2 (nI (dr + 1))) 2 (nI (dr + 1 + 1))) 2 (nI (dr + 1 + 1 + 1))) 2 (nI (dr + 1 + 1 + 1 + 1))) fO fW fC fR fB dk_14 (dr + 1 + 1 + 1 + 1) rfl (by omega) (3) (by omega) (by omega)) (cwV 1 htT (kg_V m_ml_X6_60 m_im_X6_draw m_sl_X6_draw m_in_X6 m_cd_X6_draw) rfl rfl rfl (by decide +kernel) ⟨Nat.le_of_ble_eq_true rfl, Nat.le_of_ble_eq_true rfl⟩) (kpe_V hK hP hD hTB hTX hX hbl hbA hAO hS hA (kpe_rc hK hP dk_14.o rfl)) rfl rfl hl.1 rfl (lv_room (Nat.le_of_ble_eq_true rfl)) dX6_rule_82 ⟨Nat.le_of_ble_eq_true rfl, Nat.le_of_ble_eq_true rfl⟩) hD hS hA (fun r_15 x_15 H locs hq_15 hP hD hS => ?_)
    obtain ⟨⟨w3, hw3, hr_15⟩, ht_15⟩ := hq_15
    rw [hr_15]
    rw [ht_15] at hP hD
    have dk_16 : DK (pI (pR (pI (pR (pI (pR (pI (pW (pI T d 2 (nI (dr + 1))) q_4 9 4) d 2 (nI (dr + 1 + 1))) q_4 0 (nI m2)) d 2 (nI (dr + 1 + 1 + 1))) q_4 1 (nI (1 + h3))) d 2 (nI (dr + 1 + 1 + 1 + 1))) q_4 2 (nI n10)) d 2 (nI (dr + 1 + 1 + 1 + 1 + 1))) d x b Ad (n, na, (upd (upd (upd (upd (upd fF 2 (nI (dr + 1))) 2 (nI (dr + 1 + 1))) 2 (nI (dr + 1 + 1 + 1))) 2 (nI (dr + 1 + 1 + 1 + 1))) 2 (nI (dr + 1 + 1 + 1 + 1 + 1))), fO, fW, fC, fR, fB) := dk_14.num
    refine lv_if_ne (tgt := 92) hx hb dX6_rule_85 (by decide) (fun c_17 => ?_) (fun c_17 => ?_)
    · replace c_17 : ¬ (w3 = 0) := fun h9 => c_17 ((nI_eq (a := w3) (b := 0) (by omega) (by omega)).mpr h9)
      refine lv_aload_n hx hb dX6_rule_92 rfl (lv_at hl 1 rfl) ?_
      refine lv_aload_n hx hb dX6_rule_93 rfl (lv_at hl 1 rfl) ?_
      refine kd_gets (r := (aO Ad)) hx hb htT m_u_X6 hown hK hP dk_16.o rfl 6 (by decide) (by decide) rfl dk_16.q6 (htT _ m_fl_X6_18) dX6_rule_94 ?_
      refine lv_iload_n hx hb dX6_rule_97 rfl (lv_at hl 0 rfl) ?_
      refine ky_alda (r := some (aOk Ad k)) hx hb hK hP dk_16.ao (show vp_in (nI (k)) 8 from ki_in (by omega) (by omega)) ((congrArg _ (ki_cl (n := k) (by omega))).trans (dk_16.op (k := k) (show k < n by omega))) dX6_rule_98 ?_
      refine lv_iconst (v := 1) hx hb dX6_rule_99 (by decide) ?_
      refine kx_ialdv (x := nI vc) hx hb hK (kmy_P hP) (dk_16.oa (k := k) (show k < n by omega)) (Nat.le_of_ble_eq_true rfl) (Nat.le_of_ble_eq_true rfl) (show vp_in 1 12 from ki_in (n := 1) (by omega) (by omega)) ((congrArg _ (ki_cl (n := 1) (by omega))).trans ((dk_16.ov (k := k) (j := 1) (show k < n by omega) (show 1 < 12 by omega)).trans (o1))) dX6_rule_100 ?_
      refine kc_i (va_runV (As := [.int (nI vc)]) (rest := [.int 3, .ref q_4, .ref q_4]) ⟨hx, hb, hml, hown, htT⟩ (d_draw l D cA _ (PW cA S) b L xs hL (pI (pR (pI (pR (pI (pR (pI (pW (pI T d 2 (nI (dr + 1))) q_4 9 4) d 2 (nI (dr + 1 + 1))) q_4 0 (nI m2)) d 2 (nI (dr + 1 + 1 + 1))) q_4 1 (nI (1 + h3))) d 2 (nI (dr + 1 + 1 + 1 + 1))) q_4 2 (nI n10)) d 2 (nI (dr + 1 + 1 + 1 + 1 + 1))) d x Ad n na (upd (upd (upd (upd (upd fF 2 (nI (dr + 1))) 2 (nI (dr + 1 + 1))) 2 (nI (dr + 1 + 1 + 1))) 2 (nI (dr + 1 + 1 + 1 + 1))) 2 (nI (dr + 1 + 1 + 1 + 1 + 1))) fO fW fC fR fB dk_16 (dr + 1 + 1 + 1 + 1 + 1) rfl (by omega) (vc) (by omega) (by omega)) (cwV 1 htT (kg_V m_ml_X6_60 m_im_X6_draw m_sl_X6_draw m_in_X6 m_cd_X6_draw) rfl rfl rfl (by decide +kernel) ⟨Nat.le_of_ble_eq_true rfl, Nat.le_of_ble_eq_true rfl⟩) (kpe_V hK hP hD hTB hTX hX hbl hbA hAO hS hA (kpe_rc hK hP dk_16.o rfl)) rfl rfl hl.1 rfl (lv_room (Nat.le_of_ble_eq_true rfl)) dX6_rule_101 ⟨Nat.le_of_ble_eq_true rfl, Nat.le_of_ble_eq_true rfl⟩) hD hS hA (fun r_18 x_18 H locs hq_18 hP hD hS => ?_)
      obtain ⟨⟨v4, hv4, hr_18⟩, ht_18⟩ := hq_18
      rw [hr_18]
      rw [ht_18] at hP hD
      have dk_19 : DK (pI (pI (pR (pI (pR (pI (pR (pI (pW (pI T d 2 (nI (dr + 1))) q_4 9 4) d 2 (nI (dr + 1 + 1))) q_4 0 (nI m2)) d 2 (nI (dr + 1 + 1 + 1))) q_4 1 (nI (1 + h3))) d 2 (nI (dr + 1 + 1 + 1 + 1))) q_4 2 (nI n10)) d 2 (nI (dr + 1 + 1 + 1 + 1 + 1))) d 2 (nI (dr + 1 + 1 + 1 + 1 + 1 + 1))) d x b Ad (n, na, (upd (upd (upd (upd (upd (upd fF 2 (nI (dr + 1))) 2 (nI (dr + 1 + 1))) 2 (nI (dr + 1 + 1 + 1))) 2 (nI (dr + 1 + 1 + 1 + 1))) 2 (nI (dr + 1 + 1 + 1 + 1 + 1))) 2 (nI (dr + 1 + 1 + 1 + 1 + 1 + 1))), fO, fW, fC, fR, fB) := dk_16.num
      refine ky_iastv hx hb hK hP hD hS (isA_q (S := (pI T d 2 (nI (dr + 1)))) (q := q_4) (ki := 9) (n := 4)) (Nat.le_of_ble_eq_true rfl) (Nat.le_of_ble_eq_true rfl) (show vp_in 3 4 from ki_in (n := 3) (by omega) (by omega)) (ki_cl (n := 3) (by omega)) dX6_rule_104 (fun H locs hP hD hS => ?_)
      have dk_20 : DK (pR (pI (pI (pR (pI (pR (pI (pR (pI (pW (pI T d 2 (nI (dr + 1))) q_4 9 4) d 2 (nI (dr + 1 + 1))) q_4 0 (nI m2)) d 2 (nI (dr + 1 + 1 + 1))) q_4 1 (nI (1 + h3))) d 2 (nI (dr + 1 + 1 + 1 + 1))) q_4 2 (nI n10)) d 2 (nI (dr + 1 + 1 + 1 + 1 + 1))) d 2 (nI (dr + 1 + 1 + 1 + 1 + 1 + 1))) q_4 3 (nI v4)) d x b Ad (n, na, (upd (upd (upd (upd (upd (upd fF 2 (nI (dr + 1))) 2 (nI (dr + 1 + 1))) 2 (nI (dr + 1 + 1 + 1))) 2 (nI (dr + 1 + 1 + 1 + 1))) 2 (nI (dr + 1 + 1 + 1 + 1 + 1))) 2 (nI (dr + 1 + 1 + 1 + 1 + 1 + 1))), fO, fW, fC, fR, fB) := dk_19.fr nq_4
      refine lv_astore_n (lv' := [(2, .ref q_4), (1, .int (nI k)), (0, .ref d)]) hx hb dX6_rule_105 rfl hl (by decide) rfl (fun ls hl => ?_)
      refine lv_aload_n hx hb dX6_rule_106 rfl (lv_at hl 2 rfl) ?_
      refine kd_gets (r := (aR Ad)) hx hb htT m_u_X6 hown hK hP dk_20.o rfl 8 (by decide) (by decide) rfl dk_20.q8 (htT _ m_fl_X6_28) dX6_rule_107 ?_
      refine lv_iload_n hx hb dX6_rule_110 rfl (lv_at hl 1 rfl) ?_
      refine lv_aload_n hx hb dX6_rule_111 rfl (lv_at hl 2 rfl) ?_
      refine kd_gets (r := (aR Ad)) hx hb htT m_u_X6 hown hK hP dk_20.o rfl 8 (by decide) (by decide) rfl dk_20.q8 (htT _ m_fl_X6_28) dX6_rule_112 ?_
      refine lv_iload_n hx hb dX6_rule_115 rfl (lv_at hl 1 rfl) ?_
      refine ky_aldb (r := some (aRk Ad k)) hx hb hK hP dk_20.ar (show vp_in (nI (k)) 8 from ki_in (by omega) (by omega)) ((congrArg _ (ki_cl (n := k) (by omega))).trans (dk_20.rp (k := k) (show k < 8 by omega))) dX6_rule_116 ?_
      refine lv_aload_n hx hb dX6_rule_117 rfl (lv_at hl 0 rfl) ?_
      refine kc_q (va_runS (As := [.ref (aRk Ad k), .ref q_4]) (rest := [.int (nI k), .ref (aR Ad)]) ⟨hx, hb, hml, hown, htT⟩ (d_with l D cA _ (PW cA S) b L xs hL (pR (pI (pI (pR (pI (pR (pI (pR (pI (pW (pI T d 2 (nI (dr + 1))) q_4 9 4) d 2 (nI (dr + 1 + 1))) q_4 0 (nI m2)) d 2 (nI (dr + 1 + 1 + 1))) q_4 1 (nI (1 + h3))) d 2 (nI (dr + 1 + 1 + 1 + 1))) q_4 2 (nI n10)) d 2 (nI (dr + 1 + 1 + 1 + 1 + 1))) d 2 (nI (dr + 1 + 1 + 1 + 1 + 1 + 1))) q_4 3 (nI v4)) (aRk Ad k) q_4 (fC k) 9 4 (by omega) (dk_20.ra (k := k) q8_k) (isA_q (S := (pI T d 2 (nI (dr + 1)))) (q := q_4) (ki := 9) (n := 4)) (by decide) (by decide) (fun i hi => ⟨_, 9, 4, dk_20.rrp (k := k) q8_k hi, dk_20.rra (k := k) q8_k hi, by decide, by decide⟩)) (cwS 2 htT (kg_S m_ml_X6_106 m_st_X6_with m_in_X6 m_cd_X6_with) rfl rfl rfl (by decide +kernel) ⟨Nat.le_of_ble_eq_true rfl, Nat.le_of_ble_eq_true rfl⟩) (kpe_S hK hP hD hTB hTX hX hbl hbA hAO hS hA) rfl rfl hl.1 rfl (lv_room (Nat.le_of_ble_eq_true rfl)) dX6_rule_118 ⟨Nat.le_of_ble_eq_true rfl, Nat.le_of_ble_eq_true rfl⟩) hD hS hA (fun r_21 x_21 H locs hq_21 hP hD hS => ?_)
      obtain ⟨qn, hrn, hqn, hEn, isn, gpn, gqn⟩ := hq_21
      rw [hrn]
      have isq : isA x_21 q_4 9 4 := hEn.a (isA_q (S := (pI T d 2 (nI (dr + 1)))) (q := q_4) (ki := 9) (n := 4))
      have gv0 : gR x_21 q_4 0 = nI m2 := ((hEn q_4 (isA_q (S := (pI T d 2 (nI (dr + 1)))) (q := q_4) (ki := 9) (n := 4)).1).2.2.2.1 0).trans ((u2_k (by decide)).trans ((u2_k (by decide)).trans ((u2_k (by decide)).trans (u2_s))))
      have gv1 : gR x_21 q_4 1 = nI (1 + h3) := ((hEn q_4 (isA_q (S := (pI T d 2 (nI (dr + 1)))) (q := q_4) (ki := 9) (n := 4)).1).2.2.2.1 1).trans ((u2_k (by decide)).trans ((u2_k (by decide)).trans (u2_s)))
      have gv2 : gR x_21 q_4 2 = nI n10 := ((hEn q_4 (isA_q (S := (pI T d 2 (nI (dr + 1)))) (q := q_4) (ki := 9) (n := 4)).1).2.2.2.1 2).trans ((u2_k (by decide)).trans (u2_s))
      have gv3 : gR x_21 q_4 3 = nI v4 := ((hEn q_4 (isA_q (S := (pI T d 2 (nI (dr + 1)))) (q := q_4) (ki := 9) (n := 4)).1).2.2.2.1 3).trans (u2_s)
      have dk_22 : DK x_21 d x b Ad (n, na, (upd (upd (upd (upd (upd (upd fF 2 (nI (dr + 1))) 2 (nI (dr + 1 + 1))) 2 (nI (dr + 1 + 1 + 1))) 2 (nI (dr + 1 + 1 + 1 + 1))) 2 (nI (dr + 1 + 1 + 1 + 1 + 1))) 2 (nI (dr + 1 + 1 + 1 + 1 + 1 + 1))), fO, fW, fC, fR, fB) := dk_20.ext hEn
      refine ky_astbv hx hb hP hD hS dk_22.ar isn (rr_2 hK hAO.2) (show vp_in (nI k) 8 from ki_in (by omega) (by decide)) (ki_cl (n := k) (by omega)) dX6_rule_121 (fun H locs hP hD hS => ?_)
      have dk_9 := dk_22.rul (k := k) (q := qn) (m := fC k + 1) (Z := fun z => if z = fC k then q_4 else aRR Ad k z) (g := fun z => if z = fC k then gR x_21 q_4 else fR k z) q8_k isn (fun e9 => hqn (e9 ▸ dk_20.ao.1)) (fun z hz => by
        by_cases ez : z = fC k
        · subst ez; simp only [if_true]; exact ⟨gqn, isq, by intros; first | rfl | trivial⟩
        · simp only [ez, if_false]; exact ⟨(gpn z (by omega)).trans (dk_20.rrp (k := k) q8_k (show z < fC k by omega)), dk_22.rra (k := k) q8_k (show z < fC k by omega), fun j hj => dk_22.rv (k := k) q8_k (show z < fC k by omega) hj⟩)
      obtain ⟨Ad2, dk_8⟩ : ∃ Ad2, DK (pP x_21 (aR Ad) k (some qn)) d x b Ad2 (n, na, (upd (upd (upd (upd (upd (upd fF 2 (nI (dr + 1))) 2 (nI (dr + 1 + 1))) 2 (nI (dr + 1 + 1 + 1))) 2 (nI (dr + 1 + 1 + 1 + 1))) 2 (nI (dr + 1 + 1 + 1 + 1 + 1))) 2 (nI (dr + 1 + 1 + 1 + 1 + 1 + 1))), fO, fW, (va_up fC k (fC k + 1)), (fun i => if i = k then (fun z => if z = fC k then gR x_21 q_4 else fR k z) else fR i), fB) := ⟨_, dk_9⟩
      refine lv_aload_n hx hb dX6_rule_122 rfl (lv_at hl 2 rfl) ?_
      refine kd_gets (r := x) hx hb htT m_u_X6 hown hK hP dk_8.o rfl 0 (by decide) (by decide) rfl dk_8.q0 (htT _ m_fl_X6_10) dX6_rule_123 ?_
      refine lv_iload_n hx hb dX6_rule_126 rfl (lv_at hl 1 rfl) ?_
      refine lv_aload_n hx hb dX6_rule_127 rfl (lv_at hl 0 rfl) ?_
      refine lv_iconst (v := 0) hx hb dX6_rule_128 (by decide) ?_
      refine kx_ialdv (x := nI m2) hx hb hK (kmy_P hP) isq (Nat.le_of_ble_eq_true rfl) (Nat.le_of_ble_eq_true rfl) (show vp_in 0 4 from ki_in (n := 0) (by omega) (by omega)) ((congrArg _ (ki_cl (n := 0) (by omega))).trans (gv0)) dX6_rule_129 ?_
      refine lv_aload_n hx hb dX6_rule_130 rfl (lv_at hl 0 rfl) ?_
      refine lv_iconst (v := 1) hx hb dX6_rule_131 (by decide) ?_
      refine kx_ialdv (x := nI (1 + h3)) hx hb hK (kmy_P hP) isq (Nat.le_of_ble_eq_true rfl) (Nat.le_of_ble_eq_true rfl) (show vp_in 1 4 from ki_in (n := 1) (by omega) (by omega)) ((congrArg _ (ki_cl (n := 1) (by omega))).trans (gv1)) dX6_rule_132 ?_
      refine lv_aload_n hx hb dX6_rule_133 rfl (lv_at hl 0 rfl) ?_
      refine lv_iconst (v := 2) hx hb dX6_rule_134 (by decide) ?_
      refine kx_ialdv (x := nI n10) hx hb hK (kmy_P hP) isq (Nat.le_of_ble_eq_true rfl) (Nat.le_of_ble_eq_true rfl) (show vp_in 2 4 from ki_in (n := 2) (by omega) (by omega)) ((congrArg _ (ki_cl (n := 2) (by omega))).trans (gv2)) dX6_rule_135 ?_
      refine lv_aload_n hx hb dX6_rule_136 rfl (lv_at hl 0 rfl) ?_
      refine lv_iconst (v := 3) hx hb dX6_rule_137 (by decide) ?_
      refine kx_ialdv (x := nI v4) hx hb hK (kmy_P hP) isq (Nat.le_of_ble_eq_true rfl) (Nat.le_of_ble_eq_true rfl) (show vp_in 3 4 from ki_in (n := 3) (by omega) (by omega)) ((congrArg _ (ki_cl (n := 3) (by omega))).trans (gv3)) dX6_rule_138 ?_
      refine kn_i (va_runV (As := [.int (nI k), .int (nI m2), .int (nI (1 + h3)), .int (nI n10), .int (nI v4)]) (rest := []) ⟨hx, hb, hml, hown, htT⟩ (c_rule l D cA _ S x gg.c.hx ar gg.c.q0 ak gg.c.q1 gg.c.kk gg.c.R k q8_k a_k ja_k (nI k) sw_k (nI m2) (nI (1 + h3)) (nI n10) (nI v4) (Or.inr (gg.vko hk ja_k evc (by omega) hvc4)) (kRul_ok (by omega) (by omega) (by omega) (by omega)) (fC k) (by omega) e8) (cwV 5 htT (kg_V m_ml_X6_110 m_im_X5_rule m_sl_X5_rule m_in_X5 m_cd_X5_rule) rfl rfl rfl (by decide +kernel) ⟨Nat.le_of_ble_eq_true rfl, Nat.le_of_ble_eq_true rfl⟩) (kn_V hK hP hD hTB gg.c.hx (Nat.le_of_ble_eq_true rfl) rfl) rfl rfl hl.1 rfl (lv_room (Nat.le_of_ble_eq_true rfl)) dX6_rule_139 ⟨Nat.le_of_ble_eq_true rfl, Nat.le_of_ble_eq_true rfl⟩) hP hD hS hA (fun r_23 x_23 H locs hq_23 hP hD hS => ?_)
      rw [hq_23.1]
      obtain ⟨-, qr, hqr, eqr⟩ := hq_23
      have gg2 : GG n na x_23 (mRul M k (fC k) (nI m2) (nI (1 + h3)) (nI n10) (nI v4)) x ar ak := by rw [eqr]; exact gg.rule hk ja_k (by omega) e17 hqr
      refine lv_aload_n hx hb dX6_rule_142 rfl (lv_at hl 2 rfl) ?_
      refine kd_gets (r := (aR Ad2)) hx hb htT m_u_X6 hown hK hP dk_8.o rfl 8 (by decide) (by decide) rfl dk_8.q8 (htT _ m_fl_X6_28) dX6_rule_143 ?_
      refine lv_iload_n hx hb dX6_rule_146 rfl (lv_at hl 1 rfl) ?_
      refine ky_aldb (r := some (aRk Ad2 k)) hx hb hK hP dk_8.ar (show vp_in (nI (k)) 8 from ki_in (by omega) (by omega)) ((congrArg _ (ki_cl (n := k) (by omega))).trans (dk_8.rp (k := k) (show k < 8 by omega))) dX6_rule_147 ?_
      refine ky_lena (v := nI (fC k + 1)) hx hb hK hP (dk_8.ra (k := k) (show k < 8 by omega)) (congrArg nI up_s) dX6_rule_148 ?_
      refine lv_icmp_ne (tgt := 156) hx hb dX6_rule_149 (by decide) (fun c_24 => ?_) (fun c_24 => ?_)
      · exact absurd rfl c_24
      · refine lv_iconst (v := 1) hx hb dX6_rule_152 (by decide) ?_
        refine lv_goto (tgt := 157) hx hb dX6_rule_153 (by decide) ?_
        exact W.zret (v := 1) hx hb hr (rfl) (fun t ht hW => ⟨⟨1, (pP x_21 (aR Ad) k (some qn), x_23), rfl, ⟨rfl, n, na, dr + 1 + 1 + 1 + 1 + 1 + 1, cM, sB, _, _, _, _, _, _, _, (mRul M k (fC k) (nI m2) (nI (1 + h3)) (nI n10) (nI v4)), by omega, by omega, by omega, by omega, dk_8, (((((((hvm.draw (d2 := dr + 1)).draw (d2 := dr + 1 + 1)).draw (d2 := dr + 1 + 1 + 1)).draw (d2 := dr + 1 + 1 + 1 + 1)).draw (d2 := dr + 1 + 1 + 1 + 1 + 1)).draw (d2 := dr + 1 + 1 + 1 + 1 + 1 + 1)).rule (k := k) q8_k (by show fC k < 5; omega) (g := gR x_21 q_4) (p1 := nI m2) (p2 := nI (1 + h3)) (p3 := nI n10) (p4 := nI v4) ⟨gv0, gv1, gv2, gv3⟩), gg2, (hM.rule (by omega) e17 hvc4 evc ⟨m2, by omega, rfl⟩ ⟨1 + h3, by omega, by omega, rfl⟩ ⟨n10, by omega, rfl⟩ (Or.inr ⟨v4, by omega, rfl⟩))⟩, by rw [ht]; exact hP, va_K.moved hW.alike hK, hD⟩, hS.F ht⟩) hS.2.2 dX6_rule_157
    · replace c_17 := (nI_eq (a := w3) (b := 0) (by omega) (by omega)).mp c_17
      refine lv_iconst (v := (-1)) hx hb dX6_rule_88 (by decide) ?_
      refine lv_goto (tgt := 104) hx hb dX6_rule_89 (by decide) ?_
      refine ky_iastv hx hb hK hP hD hS (isA_q (S := (pI T d 2 (nI (dr + 1)))) (q := q_4) (ki := 9) (n := 4)) (Nat.le_of_ble_eq_true rfl) (Nat.le_of_ble_eq_true rfl) (show vp_in 3 4 from ki_in (n := 3) (by omega) (by omega)) (ki_cl (n := 3) (by omega)) dX6_rule_104 (fun H locs hP hD hS => ?_)
      have dk_25 : DK (pR (pI (pR (pI (pR (pI (pR (pI (pW (pI T d 2 (nI (dr + 1))) q_4 9 4) d 2 (nI (dr + 1 + 1))) q_4 0 (nI m2)) d 2 (nI (dr + 1 + 1 + 1))) q_4 1 (nI (1 + h3))) d 2 (nI (dr + 1 + 1 + 1 + 1))) q_4 2 (nI n10)) d 2 (nI (dr + 1 + 1 + 1 + 1 + 1))) q_4 3 (-1)) d x b Ad (n, na, (upd (upd (upd (upd (upd fF 2 (nI (dr + 1))) 2 (nI (dr + 1 + 1))) 2 (nI (dr + 1 + 1 + 1))) 2 (nI (dr + 1 + 1 + 1 + 1))) 2 (nI (dr + 1 + 1 + 1 + 1 + 1))), fO, fW, fC, fR, fB) := dk_16.fr nq_4
      refine lv_astore_n (lv' := [(2, .ref q_4), (1, .int (nI k)), (0, .ref d)]) hx hb dX6_rule_105 rfl hl (by decide) rfl (fun ls hl => ?_)
      refine lv_aload_n hx hb dX6_rule_106 rfl (lv_at hl 2 rfl) ?_
      refine kd_gets (r := (aR Ad)) hx hb htT m_u_X6 hown hK hP dk_25.o rfl 8 (by decide) (by decide) rfl dk_25.q8 (htT _ m_fl_X6_28) dX6_rule_107 ?_
      refine lv_iload_n hx hb dX6_rule_110 rfl (lv_at hl 1 rfl) ?_
      refine lv_aload_n hx hb dX6_rule_111 rfl (lv_at hl 2 rfl) ?_
      refine kd_gets (r := (aR Ad)) hx hb htT m_u_X6 hown hK hP dk_25.o rfl 8 (by decide) (by decide) rfl dk_25.q8 (htT _ m_fl_X6_28) dX6_rule_112 ?_
      refine lv_iload_n hx hb dX6_rule_115 rfl (lv_at hl 1 rfl) ?_
      refine ky_aldb (r := some (aRk Ad k)) hx hb hK hP dk_25.ar (show vp_in (nI (k)) 8 from ki_in (by omega) (by omega)) ((congrArg _ (ki_cl (n := k) (by omega))).trans (dk_25.rp (k := k) (show k < 8 by omega))) dX6_rule_116 ?_
      refine lv_aload_n hx hb dX6_rule_117 rfl (lv_at hl 0 rfl) ?_
      refine kc_q (va_runS (As := [.ref (aRk Ad k), .ref q_4]) (rest := [.int (nI k), .ref (aR Ad)]) ⟨hx, hb, hml, hown, htT⟩ (d_with l D cA _ (PW cA S) b L xs hL (pR (pI (pR (pI (pR (pI (pR (pI (pW (pI T d 2 (nI (dr + 1))) q_4 9 4) d 2 (nI (dr + 1 + 1))) q_4 0 (nI m2)) d 2 (nI (dr + 1 + 1 + 1))) q_4 1 (nI (1 + h3))) d 2 (nI (dr + 1 + 1 + 1 + 1))) q_4 2 (nI n10)) d 2 (nI (dr + 1 + 1 + 1 + 1 + 1))) q_4 3 (-1)) (aRk Ad k) q_4 (fC k) 9 4 (by omega) (dk_25.ra (k := k) q8_k) (isA_q (S := (pI T d 2 (nI (dr + 1)))) (q := q_4) (ki := 9) (n := 4)) (by decide) (by decide) (fun i hi => ⟨_, 9, 4, dk_25.rrp (k := k) q8_k hi, dk_25.rra (k := k) q8_k hi, by decide, by decide⟩)) (cwS 2 htT (kg_S m_ml_X6_106 m_st_X6_with m_in_X6 m_cd_X6_with) rfl rfl rfl (by decide +kernel) ⟨Nat.le_of_ble_eq_true rfl, Nat.le_of_ble_eq_true rfl⟩) (kpe_S hK hP hD hTB hTX hX hbl hbA hAO hS hA) rfl rfl hl.1 rfl (lv_room (Nat.le_of_ble_eq_true rfl)) dX6_rule_118 ⟨Nat.le_of_ble_eq_true rfl, Nat.le_of_ble_eq_true rfl⟩) hD hS hA (fun r_26 x_26 H locs hq_26 hP hD hS => ?_)
      obtain ⟨qn, hrn, hqn, hEn, isn, gpn, gqn⟩ := hq_26
      rw [hrn]
      have isq : isA x_26 q_4 9 4 := hEn.a (isA_q (S := (pI T d 2 (nI (dr + 1)))) (q := q_4) (ki := 9) (n := 4))
      have gv0 : gR x_26 q_4 0 = nI m2 := ((hEn q_4 (isA_q (S := (pI T d 2 (nI (dr + 1)))) (q := q_4) (ki := 9) (n := 4)).1).2.2.2.1 0).trans ((u2_k (by decide)).trans ((u2_k (by decide)).trans ((u2_k (by decide)).trans (u2_s))))
      have gv1 : gR x_26 q_4 1 = nI (1 + h3) := ((hEn q_4 (isA_q (S := (pI T d 2 (nI (dr + 1)))) (q := q_4) (ki := 9) (n := 4)).1).2.2.2.1 1).trans ((u2_k (by decide)).trans ((u2_k (by decide)).trans (u2_s)))
      have gv2 : gR x_26 q_4 2 = nI n10 := ((hEn q_4 (isA_q (S := (pI T d 2 (nI (dr + 1)))) (q := q_4) (ki := 9) (n := 4)).1).2.2.2.1 2).trans ((u2_k (by decide)).trans (u2_s))
      have gv3 : gR x_26 q_4 3 = -1 := ((hEn q_4 (isA_q (S := (pI T d 2 (nI (dr + 1)))) (q := q_4) (ki := 9) (n := 4)).1).2.2.2.1 3).trans (u2_s)
      have dk_27 : DK x_26 d x b Ad (n, na, (upd (upd (upd (upd (upd fF 2 (nI (dr + 1))) 2 (nI (dr + 1 + 1))) 2 (nI (dr + 1 + 1 + 1))) 2 (nI (dr + 1 + 1 + 1 + 1))) 2 (nI (dr + 1 + 1 + 1 + 1 + 1))), fO, fW, fC, fR, fB) := dk_25.ext hEn
      refine ky_astbv hx hb hP hD hS dk_27.ar isn (rr_2 hK hAO.2) (show vp_in (nI k) 8 from ki_in (by omega) (by decide)) (ki_cl (n := k) (by omega)) dX6_rule_121 (fun H locs hP hD hS => ?_)
      have dk_9 := dk_27.rul (k := k) (q := qn) (m := fC k + 1) (Z := fun z => if z = fC k then q_4 else aRR Ad k z) (g := fun z => if z = fC k then gR x_26 q_4 else fR k z) q8_k isn (fun e9 => hqn (e9 ▸ dk_25.ao.1)) (fun z hz => by
        by_cases ez : z = fC k
        · subst ez; simp only [if_true]; exact ⟨gqn, isq, by intros; first | rfl | trivial⟩
        · simp only [ez, if_false]; exact ⟨(gpn z (by omega)).trans (dk_25.rrp (k := k) q8_k (show z < fC k by omega)), dk_27.rra (k := k) q8_k (show z < fC k by omega), fun j hj => dk_27.rv (k := k) q8_k (show z < fC k by omega) hj⟩)
      obtain ⟨Ad2, dk_8⟩ : ∃ Ad2, DK (pP x_26 (aR Ad) k (some qn)) d x b Ad2 (n, na, (upd (upd (upd (upd (upd fF 2 (nI (dr + 1))) 2 (nI (dr + 1 + 1))) 2 (nI (dr + 1 + 1 + 1))) 2 (nI (dr + 1 + 1 + 1 + 1))) 2 (nI (dr + 1 + 1 + 1 + 1 + 1))), fO, fW, (va_up fC k (fC k + 1)), (fun i => if i = k then (fun z => if z = fC k then gR x_26 q_4 else fR k z) else fR i), fB) := ⟨_, dk_9⟩
      refine lv_aload_n hx hb dX6_rule_122 rfl (lv_at hl 2 rfl) ?_
      refine kd_gets (r := x) hx hb htT m_u_X6 hown hK hP dk_8.o rfl 0 (by decide) (by decide) rfl dk_8.q0 (htT _ m_fl_X6_10) dX6_rule_123 ?_
      refine lv_iload_n hx hb dX6_rule_126 rfl (lv_at hl 1 rfl) ?_
      refine lv_aload_n hx hb dX6_rule_127 rfl (lv_at hl 0 rfl) ?_
      refine lv_iconst (v := 0) hx hb dX6_rule_128 (by decide) ?_
      refine kx_ialdv (x := nI m2) hx hb hK (kmy_P hP) isq (Nat.le_of_ble_eq_true rfl) (Nat.le_of_ble_eq_true rfl) (show vp_in 0 4 from ki_in (n := 0) (by omega) (by omega)) ((congrArg _ (ki_cl (n := 0) (by omega))).trans (gv0)) dX6_rule_129 ?_
      refine lv_aload_n hx hb dX6_rule_130 rfl (lv_at hl 0 rfl) ?_
      refine lv_iconst (v := 1) hx hb dX6_rule_131 (by decide) ?_
      refine kx_ialdv (x := nI (1 + h3)) hx hb hK (kmy_P hP) isq (Nat.le_of_ble_eq_true rfl) (Nat.le_of_ble_eq_true rfl) (show vp_in 1 4 from ki_in (n := 1) (by omega) (by omega)) ((congrArg _ (ki_cl (n := 1) (by omega))).trans (gv1)) dX6_rule_132 ?_
      refine lv_aload_n hx hb dX6_rule_133 rfl (lv_at hl 0 rfl) ?_
      refine lv_iconst (v := 2) hx hb dX6_rule_134 (by decide) ?_
      refine kx_ialdv (x := nI n10) hx hb hK (kmy_P hP) isq (Nat.le_of_ble_eq_true rfl) (Nat.le_of_ble_eq_true rfl) (show vp_in 2 4 from ki_in (n := 2) (by omega) (by omega)) ((congrArg _ (ki_cl (n := 2) (by omega))).trans (gv2)) dX6_rule_135 ?_
      refine lv_aload_n hx hb dX6_rule_136 rfl (lv_at hl 0 rfl) ?_
      refine lv_iconst (v := 3) hx hb dX6_rule_137 (by decide) ?_
      refine kx_ialdv (x := -1) hx hb hK (kmy_P hP) isq (Nat.le_of_ble_eq_true rfl) (Nat.le_of_ble_eq_true rfl) (show vp_in 3 4 from ki_in (n := 3) (by omega) (by omega)) ((congrArg _ (ki_cl (n := 3) (by omega))).trans (gv3)) dX6_rule_138 ?_
      refine kn_i (va_runV (As := [.int (nI k), .int (nI m2), .int (nI (1 + h3)), .int (nI n10), .int (-1)]) (rest := []) ⟨hx, hb, hml, hown, htT⟩ (c_rule l D cA _ S x gg.c.hx ar gg.c.q0 ak gg.c.q1 gg.c.kk gg.c.R k q8_k a_k ja_k (nI k) sw_k (nI m2) (nI (1 + h3)) (nI n10) (-1) (Or.inl rfl) (kRul_ok (by omega) (by omega) (by omega) (by omega)) (fC k) (by omega) e8) (cwV 5 htT (kg_V m_ml_X6_110 m_im_X5_rule m_sl_X5_rule m_in_X5 m_cd_X5_rule) rfl rfl rfl (by decide +kernel) ⟨Nat.le_of_ble_eq_true rfl, Nat.le_of_ble_eq_true rfl⟩) (kn_V hK hP hD hTB gg.c.hx (Nat.le_of_ble_eq_true rfl) rfl) rfl rfl hl.1 rfl (lv_room (Nat.le_of_ble_eq_true rfl)) dX6_rule_139 ⟨Nat.le_of_ble_eq_true rfl, Nat.le_of_ble_eq_true rfl⟩) hP hD hS hA (fun r_28 x_28 H locs hq_28 hP hD hS => ?_)
      rw [hq_28.1]
      obtain ⟨-, qr, hqr, eqr⟩ := hq_28
      have gg2 : GG n na x_28 (mRul M k (fC k) (nI m2) (nI (1 + h3)) (nI n10) (-1)) x ar ak := by rw [eqr]; exact gg.rule hk ja_k (by omega) e17 hqr
      refine lv_aload_n hx hb dX6_rule_142 rfl (lv_at hl 2 rfl) ?_
      refine kd_gets (r := (aR Ad2)) hx hb htT m_u_X6 hown hK hP dk_8.o rfl 8 (by decide) (by decide) rfl dk_8.q8 (htT _ m_fl_X6_28) dX6_rule_143 ?_
      refine lv_iload_n hx hb dX6_rule_146 rfl (lv_at hl 1 rfl) ?_
      refine ky_aldb (r := some (aRk Ad2 k)) hx hb hK hP dk_8.ar (show vp_in (nI (k)) 8 from ki_in (by omega) (by omega)) ((congrArg _ (ki_cl (n := k) (by omega))).trans (dk_8.rp (k := k) (show k < 8 by omega))) dX6_rule_147 ?_
      refine ky_lena (v := nI (fC k + 1)) hx hb hK hP (dk_8.ra (k := k) (show k < 8 by omega)) (congrArg nI up_s) dX6_rule_148 ?_
      refine lv_icmp_ne (tgt := 156) hx hb dX6_rule_149 (by decide) (fun c_29 => ?_) (fun c_29 => ?_)
      · exact absurd rfl c_29
      · refine lv_iconst (v := 1) hx hb dX6_rule_152 (by decide) ?_
        refine lv_goto (tgt := 157) hx hb dX6_rule_153 (by decide) ?_
        exact W.zret (v := 1) hx hb hr (rfl) (fun t ht hW => ⟨⟨1, (pP x_26 (aR Ad) k (some qn), x_28), rfl, ⟨rfl, n, na, dr + 1 + 1 + 1 + 1 + 1, cM, sB, _, _, _, _, _, _, _, (mRul M k (fC k) (nI m2) (nI (1 + h3)) (nI n10) (-1)), by omega, by omega, by omega, by omega, dk_8, ((((((hvm.draw (d2 := dr + 1)).draw (d2 := dr + 1 + 1)).draw (d2 := dr + 1 + 1 + 1)).draw (d2 := dr + 1 + 1 + 1 + 1)).draw (d2 := dr + 1 + 1 + 1 + 1 + 1)).rule (k := k) q8_k (by show fC k < 5; omega) (g := gR x_26 q_4) (p1 := nI m2) (p2 := nI (1 + h3)) (p3 := nI n10) (p4 := -1) ⟨gv0, gv1, gv2, gv3⟩), gg2, (hM.rule (by omega) e17 hvc4 evc ⟨m2, by omega, rfl⟩ ⟨1 + h3, by omega, by omega, rfl⟩ ⟨n10, by omega, rfl⟩ (Or.inl rfl))⟩, by rw [ht]; exact hP, va_K.moved hW.alike hK, hD⟩, hS.F ht⟩) hS.2.2 dX6_rule_157
  · replace c_3 := (nI_eq (a := fC k) (b := 5) (by omega) (by omega)).mp c_3
    refine lv_aload_n hx hb dX6_rule_20 rfl (lv_at hl 1 rfl) ?_
    refine kd_gets (r := x) hx hb htT m_u_X6 hown hK hP dk_2.o rfl 0 (by decide) (by decide) rfl dk_2.q0 (htT _ m_fl_X6_10) dX6_rule_21 ?_
    refine lv_iload_n hx hb dX6_rule_24 rfl (lv_at hl 0 rfl) ?_
    refine lv_iconst (v := 2) hx hb dX6_rule_25 (by decide) ?_
    refine kn_i (va_runV (As := [.int (nI k), .int 2]) (rest := []) ⟨hx, hb, hml, hown, htT⟩ (c_unrule l D cA _ S x gg.c.hx ar gg.c.q0 ak gg.c.q1 gg.c.kk gg.c.R k q8_k a_k ja_k (nI k) sw_k 2 (by omega) (by rw [e8]; exact kOut_sw (n := fC k) (i := 2) (by omega) (by omega) rfl)) (cwV 2 htT (kg_V m_ml_X6_99 m_im_X5_unrule m_sl_X5_unrule m_in_X5 m_cd_X5_unrule) rfl rfl rfl (by decide +kernel) ⟨Nat.le_of_ble_eq_true rfl, Nat.le_of_ble_eq_true rfl⟩) (kn_V hK hP hD hTB gg.c.hx (Nat.le_of_ble_eq_true rfl) rfl) rfl rfl hl.1 rfl (lv_room (Nat.le_of_ble_eq_true rfl)) dX6_rule_26 ⟨Nat.le_of_ble_eq_true rfl, Nat.le_of_ble_eq_true rfl⟩) hP hD hS hA (fun r_30 x_30 H locs hq_30 hP hD hS => ?_)
    have e81 : gI S a_k 8 - 1 = nI (fC k - 1) := by rw [e8]; exact pk_sub (a := fC k) (b := 1) (by omega)
    rw [hq_30.1.trans e81]
    have gg2 : GG n na x_30 (mUnr M k 2 (fC k)) x ar ak := by rw [hq_30.2, e81]; exact gg.unrule hk ja_k hC5 e17 (by omega)
    refine lv_iconst (v := 4) hx hb dX6_rule_29 (by decide) ?_
    refine lv_icmp_ne (tgt := 46) hx hb dX6_rule_30 (by decide) (fun c_31 => ?_) (fun c_31 => ?_)
    · exact absurd ((nI_eq (a := fC k - 1) (b := 4) (by omega) (by omega)).mpr (by omega)) c_31
    · replace c_31 := (nI_eq (a := fC k - 1) (b := 4) (by omega) (by omega)).mp c_31
      refine lv_aload_n hx hb dX6_rule_33 rfl (lv_at hl 1 rfl) ?_
      refine lv_iload_n hx hb dX6_rule_34 rfl (lv_at hl 0 rfl) ?_
      refine lv_iconst (v := 2) hx hb dX6_rule_35 (by decide) ?_
      refine kc_i (va_runV (As := [.int (nI k), .int 2]) (rest := []) ⟨hx, hb, hml, hown, htT⟩ (d_dropRule l D cA _ (PW cA x_30) b L xs hL (pI T d 2 (nI (dr + 1))) d x Ad n na (upd fF 2 (nI (dr + 1))) fO fW fC fR fB dk_2 k 2 q8_k hC5 (by omega)) (cwV 2 htT (kg_V m_ml_X6_102 m_im_X6_dropRule m_sl_X6_dropRule m_in_X6 m_cd_X6_dropRule) rfl rfl rfl (by decide +kernel) ⟨Nat.le_of_ble_eq_true rfl, Nat.le_of_ble_eq_true rfl⟩) (kpe_V hK hP hD hTB hTX hX hbl hbA hAO hS hA (kpe_rc hK hP dk_2.o rfl)) rfl rfl hl.1 rfl (lv_room (Nat.le_of_ble_eq_true rfl)) dX6_rule_36 ⟨Nat.le_of_ble_eq_true rfl, Nat.le_of_ble_eq_true rfl⟩) hD hS hA (fun r_32 x_32 H locs hq_32 hP hD hS => ?_)
      obtain ⟨hr_32, Ad2, dk2⟩ := hq_32
      rw [hr_32]
      refine lv_if_eq (tgt := 46) hx hb dX6_rule_39 (by decide) (fun c_33 => absurd c_33 (by decide)) (fun _ => ?_)
      refine lv_iconst (v := 1) hx hb dX6_rule_42 (by decide) ?_
      refine lv_goto (tgt := 47) hx hb dX6_rule_43 (by decide) ?_
      refine W.widen (k := 3) (n := 109) (Nat.le_of_ble_eq_true rfl) (Nat.le_of_ble_eq_true rfl) ?_
      exact W.zret (v := 1) hx hb hr (rfl) (fun t ht hW => ⟨⟨1, (x_32, x_30), rfl, ⟨rfl, n, na, dr + 1, cM, sB, _, _, _, _, _, _, _, (mUnr M k 2 (fC k)), by omega, by omega, by omega, by omega, dk2, ((hvm.draw (d2 := dr + 1)).unrule (k := k) q8_k (ap := 2) (by show 2 < fC k; omega)), gg2, (hM.unrule hk hC5 e17 (by omega))⟩, by rw [ht]; exact hP, va_K.moved hW.alike hK, hD⟩, hS.F ht⟩) hS.2.2 dX6_rule_47

set_option maxRecDepth 100000 in
set_option maxHeartbeats 4000000 in
/-- add -/
theorem d_add (l : Launch) (D : va_G) (cA : Nat → ClassId) (sz : Nat) (b L : Nat) (xs : Nat → Int32) (hL : L < 2 ^ 31) (T S : Pool) (d x ar ak D0 c0 s0 n0 : Nat) (hD0 : D0 < 1000000) (hc0 : c0 < 100000) (hs0 : s0 < 1000000) (hJ : J38 d x b ar ak D0 c0 s0 n0 T S)  : Met l yX6_add (Cond.code yX6_add cX6_add 2 (some .boolean) :: TT) ({ frames := 4, cells := 9, slots := 60, locals := 80 }) (va_Pc [.ref d] (kPreE D cA (PW cA T ++ PW cA S) b L xs sz)) (va_Qi (fun (r_ : Int32) (x_ : Pool × Pool) => r_ = 1 ∧ J38 d x b ar ak (D0 + 8) c0 s0 (min 8 (n0 + 1)) x_.1 x_.2) (fun x_ => kB D cA (va_A (PW cA T ++ PW cA S) sz) (PW cA x_.1 ++ PW cA x_.2)) (va_A (PW cA T ++ PW cA S) sz)) 9 60 (va_A (PW cA T ++ PW cA S) sz) := by
  refine Met.ofW (cc := cX6_add) (maxL := 2) (ret := (some .boolean)) (by decide) rfl ?_
  intro p e s m args below meth c s₁ B hml hv
  obtain ⟨rfl, ⟨⟨hsz, hP, hK, hD0, hTB⟩, hTX⟩, hX, hbl, hbA, hAO⟩ := hv
  have hx := B.exec
  have hb := B.bytes
  have hr := B.returns
  have hts := atoms_spec (ws := Cond.code yX6_add cX6_add 2 (some .boolean) :: TT) B.pre
  have htT : ∀ w ∈ TT, w.before _ s = true := fun w h => hts w (List.mem_cons_of_mem _ h)
  have hown : s.vm.findClass RX6 = some m.cls := findClass_of_methodNamed B.named
  have hlocks := B.notSynchronized
  subst hsz
  have hD := hD0.self (sz := s.heap.size)
  generalize hAe : va_A (PW cA T ++ PW cA S) s.heap.size = A at hD hTX hbA ⊢
  have hA : ∀ q : Nat, s.heap.size ≤ q → A q := fun q h => by rw [← hAe]; exact Or.inr h
  have hS : va_S A s.heap s.heap [] := va_S.rf
  have hl := lv_entry ([.ref d]) (n := 2) (Nat.le_of_ble_eq_true rfl)
  rw [lg_entry_eq]
  generalize (lg_sl ([.ref d]) ++ List.replicate (2 - (lg_sl ([.ref d])).length) Slot.unset).toArray = ls at hl ⊢
  have hl : lv_has ls 2 [(0, .ref d)] := hl
  obtain ⟨n, na, dr, cM, sB, Ad, fF, fO, fW, fC, fR, fB, M, hn9, hdr9, hcM9, hsB9, dk, hvm, gg, hM⟩ := hJ
  have hn8 : n ≤ 8 := dk.n8
  have hna : na ≤ 100 := gg.r.na
  have hdr : fF 2 = nI dr := hvm.f2
  have oF5 : fF 5 = nI n := hvm.f5
  have oF3 : fF 3 = nI cM := hvm.f3.trans hM.1.1
  have zz := gg.l.2.2.1 n (Nat.le_refl _)
  have zr := gg.r.2.2 n (Nat.le_refl _)
  refine lv_aload_n hx hb dX6_add_0 rfl (lv_at hl 0 rfl) ?_
  refine kd_getiv (x := nI n) hx hb htT m_u_X6 hown hK hP dk.o rfl 5 (by decide) (by decide) rfl (htT _ m_fl_X6_57) ((dk.f 5).trans ((show _ = fF 5 from rfl).trans oF5)) dX6_add_1 ?_
  refine lv_bipush (v := 8) hx hb dX6_add_4 (by decide) ?_
  refine lv_icmp_ne (tgt := 11) hx hb dX6_add_6 (by decide) (fun c_1 => ?_) (fun c_1 => ?_)
  · replace c_1 : ¬ (n = 8) := fun h9 => c_1 ((nI_eq (a := n) (b := 8) (by omega) (by omega)).mpr h9)
    refine lv_bipush (v := 12) hx hb dX6_add_11 (by decide) ?_
    refine ky_newi (n := 12) (N' := 12) hx hb (htT _ m_ar_int) hK hP hD hS hA 7 (Nat.le_of_ble_eq_true rfl) (Nat.le_of_ble_eq_true rfl) (by decide) (by decide) (Nat.le_of_ble_eq_true rfl) (Nat.le_of_ble_eq_true rfl) (Nat.le_of_ble_eq_true rfl) dX6_add_13 (fun q_2 H hq_2 hP hD hS => ?_)
    have nq_2 := dk.nq hq_2
    have dk_3 : DK (pW T q_2 7 12) d x b Ad (n, na, fF, fO, fW, fC, fR, fB) := dk.ext (ExtA.new hq_2)
    refine lv_dup hx hb dX6_add_15 rfl ?_
    refine lv_iconst (v := 0) hx hb dX6_add_16 (by decide) ?_
    refine lv_aload_n hx hb dX6_add_17 rfl (lv_at hl 0 rfl) ?_
    refine lv_sipush (v := 499) hx hb dX6_add_18 (by decide) ?_
    refine kc_i (va_runV (As := [.int 499]) (rest := [.int 0, .ref q_2, .ref q_2]) ⟨hx, hb, hml, hown, htT⟩ (d_draw l D cA _ (PW cA S) b L xs hL (pW T q_2 7 12) d x Ad n na fF fO fW fC fR fB dk_3 (dr) hdr (by omega) (499) (by omega) (by omega)) (cwV 1 htT (kg_V m_ml_X6_60 m_im_X6_draw m_sl_X6_draw m_in_X6 m_cd_X6_draw) rfl rfl rfl (by decide +kernel) ⟨Nat.le_of_ble_eq_true rfl, Nat.le_of_ble_eq_true rfl⟩) (kpe_V hK hP hD hTB hTX hX hbl hbA hAO hS hA (kpe_rc hK hP dk_3.o rfl)) rfl rfl hl.1 rfl (lv_room (Nat.le_of_ble_eq_true rfl)) dX6_add_21 ⟨Nat.le_of_ble_eq_true rfl, Nat.le_of_ble_eq_true rfl⟩) hD hS hA (fun r_4 x_4 H locs hq_4 hP hD hS => ?_)
    obtain ⟨⟨s499, hs499, hr_4⟩, ht_4⟩ := hq_4
    rw [hr_4]
    rw [ht_4] at hP hD
    have dk_5 : DK (pI (pW T q_2 7 12) d 2 (nI (dr + 1))) d x b Ad (n, na, (upd fF 2 (nI (dr + 1))), fO, fW, fC, fR, fB) := dk_3.num
    refine ky_iastv hx hb hK hP hD hS (isA_q (S := T) (q := q_2) (ki := 7) (n := 12)) (Nat.le_of_ble_eq_true rfl) (Nat.le_of_ble_eq_true rfl) (show vp_in 0 12 from ki_in (n := 0) (by omega) (by omega)) (ki_cl (n := 0) (by omega)) dX6_add_24 (fun H locs hP hD hS => ?_)
    have dk_6 : DK (pR (pI (pW T q_2 7 12) d 2 (nI (dr + 1))) q_2 0 (nI s499)) d x b Ad (n, na, (upd fF 2 (nI (dr + 1))), fO, fW, fC, fR, fB) := dk_5.fr nq_2
    refine lv_dup hx hb dX6_add_25 rfl ?_
    refine lv_iconst (v := 1) hx hb dX6_add_26 (by decide) ?_
    refine lv_iconst (v := 2) hx hb dX6_add_27 (by decide) ?_
    refine lv_aload_n hx hb dX6_add_28 rfl (lv_at hl 0 rfl) ?_
    refine lv_iconst (v := 3) hx hb dX6_add_29 (by decide) ?_
    refine kc_i (va_runV (As := [.int 3]) (rest := [.int 2, .int 1, .ref q_2, .ref q_2]) ⟨hx, hb, hml, hown, htT⟩ (d_draw l D cA _ (PW cA S) b L xs hL (pR (pI (pW T q_2 7 12) d 2 (nI (dr + 1))) q_2 0 (nI s499)) d x Ad n na (upd fF 2 (nI (dr + 1))) fO fW fC fR fB dk_6 (dr + 1) rfl (by omega) (3) (by omega) (by omega)) (cwV 1 htT (kg_V m_ml_X6_60 m_im_X6_draw m_sl_X6_draw m_in_X6 m_cd_X6_draw) rfl rfl rfl (by decide +kernel) ⟨Nat.le_of_ble_eq_true rfl, Nat.le_of_ble_eq_true rfl⟩) (kpe_V hK hP hD hTB hTX hX hbl hbA hAO hS hA (kpe_rc hK hP dk_6.o rfl)) rfl rfl hl.1 rfl (lv_room (Nat.le_of_ble_eq_true rfl)) dX6_add_30 ⟨Nat.le_of_ble_eq_true rfl, Nat.le_of_ble_eq_true rfl⟩) hD hS hA (fun r_7 x_7 H locs hq_7 hP hD hS => ?_)
    obtain ⟨⟨v3, hv3, hr_7⟩, ht_7⟩ := hq_7
    rw [hr_7]
    rw [ht_7] at hP hD
    have dk_8 : DK (pI (pR (pI (pW T q_2 7 12) d 2 (nI (dr + 1))) q_2 0 (nI s499)) d 2 (nI (dr + 1 + 1))) d x b Ad (n, na, (upd (upd fF 2 (nI (dr + 1))) 2 (nI (dr + 1 + 1))), fO, fW, fC, fR, fB) := dk_6.num
    refine lv_iadd hx hb dX6_add_33 ?_
    rw [show (2 + (nI v3) : Int32) = nI (2 + v3) from nI_add 2 v3]
    refine ky_iastv hx hb hK hP hD hS (isA_q (S := T) (q := q_2) (ki := 7) (n := 12)) (Nat.le_of_ble_eq_true rfl) (Nat.le_of_ble_eq_true rfl) (show vp_in 1 12 from ki_in (n := 1) (by omega) (by omega)) (ki_cl (n := 1) (by omega)) dX6_add_34 (fun H locs hP hD hS => ?_)
    have dk_9 : DK (pR (pI (pR (pI (pW T q_2 7 12) d 2 (nI (dr + 1))) q_2 0 (nI s499)) d 2 (nI (dr + 1 + 1))) q_2 1 (nI (2 + v3))) d x b Ad (n, na, (upd (upd fF 2 (nI (dr + 1))) 2 (nI (dr + 1 + 1))), fO, fW, fC, fR, fB) := dk_8.fr nq_2
    refine lv_dup hx hb dX6_add_35 rfl ?_
    refine lv_iconst (v := 2) hx hb dX6_add_36 (by decide) ?_
    refine lv_aload_n hx hb dX6_add_37 rfl (lv_at hl 0 rfl) ?_
    refine lv_iconst (v := 3) hx hb dX6_add_38 (by decide) ?_
    refine kc_i (va_runV (As := [.int 3]) (rest := [.int 2, .ref q_2, .ref q_2]) ⟨hx, hb, hml, hown, htT⟩ (d_draw l D cA _ (PW cA S) b L xs hL (pR (pI (pR (pI (pW T q_2 7 12) d 2 (nI (dr + 1))) q_2 0 (nI s499)) d 2 (nI (dr + 1 + 1))) q_2 1 (nI (2 + v3))) d x Ad n na (upd (upd fF 2 (nI (dr + 1))) 2 (nI (dr + 1 + 1))) fO fW fC fR fB dk_9 (dr + 1 + 1) rfl (by omega) (3) (by omega) (by omega)) (cwV 1 htT (kg_V m_ml_X6_60 m_im_X6_draw m_sl_X6_draw m_in_X6 m_cd_X6_draw) rfl rfl rfl (by decide +kernel) ⟨Nat.le_of_ble_eq_true rfl, Nat.le_of_ble_eq_true rfl⟩) (kpe_V hK hP hD hTB hTX hX hbl hbA hAO hS hA (kpe_rc hK hP dk_9.o rfl)) rfl rfl hl.1 rfl (lv_room (Nat.le_of_ble_eq_true rfl)) dX6_add_39 ⟨Nat.le_of_ble_eq_true rfl, Nat.le_of_ble_eq_true rfl⟩) hD hS hA (fun r_10 x_10 H locs hq_10 hP hD hS => ?_)
    obtain ⟨⟨y3, hy3, hr_10⟩, ht_10⟩ := hq_10
    rw [hr_10]
    rw [ht_10] at hP hD
    have dk_11 : DK (pI (pR (pI (pR (pI (pW T q_2 7 12) d 2 (nI (dr + 1))) q_2 0 (nI s499)) d 2 (nI (dr + 1 + 1))) q_2 1 (nI (2 + v3))) d 2 (nI (dr + 1 + 1 + 1))) d x b Ad (n, na, (upd (upd (upd fF 2 (nI (dr + 1))) 2 (nI (dr + 1 + 1))) 2 (nI (dr + 1 + 1 + 1))), fO, fW, fC, fR, fB) := dk_9.num
    refine lv_if_ne (tgt := 49) hx hb dX6_add_42 (by decide) (fun c_12 => ?_) (fun c_12 => ?_)
    · replace c_12 : ¬ (y3 = 0) := fun h9 => c_12 ((nI_eq (a := y3) (b := 0) (by omega) (by omega)).mpr h9)
      refine lv_iconst (v := 0) hx hb dX6_add_49 (by decide) ?_
      refine ky_iastv hx hb hK hP hD hS (isA_q (S := T) (q := q_2) (ki := 7) (n := 12)) (Nat.le_of_ble_eq_true rfl) (Nat.le_of_ble_eq_true rfl) (show vp_in 2 12 from ki_in (n := 2) (by omega) (by omega)) (ki_cl (n := 2) (by omega)) dX6_add_50 (fun H locs hP hD hS => ?_)
      have dk_13 : DK (pR (pI (pR (pI (pR (pI (pW T q_2 7 12) d 2 (nI (dr + 1))) q_2 0 (nI s499)) d 2 (nI (dr + 1 + 1))) q_2 1 (nI (2 + v3))) d 2 (nI (dr + 1 + 1 + 1))) q_2 2 0) d x b Ad (n, na, (upd (upd (upd fF 2 (nI (dr + 1))) 2 (nI (dr + 1 + 1))) 2 (nI (dr + 1 + 1 + 1))), fO, fW, fC, fR, fB) := dk_11.fr nq_2
      refine lv_dup hx hb dX6_add_51 rfl ?_
      refine lv_iconst (v := 3) hx hb dX6_add_52 (by decide) ?_
      refine lv_iconst (v := 0) hx hb dX6_add_53 (by decide) ?_
      refine ky_iastv hx hb hK hP hD hS (isA_q (S := T) (q := q_2) (ki := 7) (n := 12)) (Nat.le_of_ble_eq_true rfl) (Nat.le_of_ble_eq_true rfl) (show vp_in 3 12 from ki_in (n := 3) (by omega) (by omega)) (ki_cl (n := 3) (by omega)) dX6_add_54 (fun H locs hP hD hS => ?_)
      have dk_14 : DK (pR (pR (pI (pR (pI (pR (pI (pW T q_2 7 12) d 2 (nI (dr + 1))) q_2 0 (nI s499)) d 2 (nI (dr + 1 + 1))) q_2 1 (nI (2 + v3))) d 2 (nI (dr + 1 + 1 + 1))) q_2 2 0) q_2 3 0) d x b Ad (n, na, (upd (upd (upd fF 2 (nI (dr + 1))) 2 (nI (dr + 1 + 1))) 2 (nI (dr + 1 + 1 + 1))), fO, fW, fC, fR, fB) := dk_13.fr nq_2
      refine lv_dup hx hb dX6_add_55 rfl ?_
      refine lv_iconst (v := 4) hx hb dX6_add_56 (by decide) ?_
      refine lv_sipush (v := 1000) hx hb dX6_add_57 (by decide) ?_
      refine ky_iastv hx hb hK hP hD hS (isA_q (S := T) (q := q_2) (ki := 7) (n := 12)) (Nat.le_of_ble_eq_true rfl) (Nat.le_of_ble_eq_true rfl) (show vp_in 4 12 from ki_in (n := 4) (by omega) (by omega)) (ki_cl (n := 4) (by omega)) dX6_add_60 (fun H locs hP hD hS => ?_)
      have dk_15 : DK (pR (pR (pR (pI (pR (pI (pR (pI (pW T q_2 7 12) d 2 (nI (dr + 1))) q_2 0 (nI s499)) d 2 (nI (dr + 1 + 1))) q_2 1 (nI (2 + v3))) d 2 (nI (dr + 1 + 1 + 1))) q_2 2 0) q_2 3 0) q_2 4 1000) d x b Ad (n, na, (upd (upd (upd fF 2 (nI (dr + 1))) 2 (nI (dr + 1 + 1))) 2 (nI (dr + 1 + 1 + 1))), fO, fW, fC, fR, fB) := dk_14.fr nq_2
      refine lv_dup hx hb dX6_add_61 rfl ?_
      refine lv_iconst (v := 5) hx hb dX6_add_62 (by decide) ?_
      refine lv_iconst (v := 0) hx hb dX6_add_63 (by decide) ?_
      refine ky_iastv hx hb hK hP hD hS (isA_q (S := T) (q := q_2) (ki := 7) (n := 12)) (Nat.le_of_ble_eq_true rfl) (Nat.le_of_ble_eq_true rfl) (show vp_in 5 12 from ki_in (n := 5) (by omega) (by omega)) (ki_cl (n := 5) (by omega)) dX6_add_64 (fun H locs hP hD hS => ?_)
      have dk_16 : DK (pR (pR (pR (pR (pI (pR (pI (pR (pI (pW T q_2 7 12) d 2 (nI (dr + 1))) q_2 0 (nI s499)) d 2 (nI (dr + 1 + 1))) q_2 1 (nI (2 + v3))) d 2 (nI (dr + 1 + 1 + 1))) q_2 2 0) q_2 3 0) q_2 4 1000) q_2 5 0) d x b Ad (n, na, (upd (upd (upd fF 2 (nI (dr + 1))) 2 (nI (dr + 1 + 1))) 2 (nI (dr + 1 + 1 + 1))), fO, fW, fC, fR, fB) := dk_15.fr nq_2
      refine lv_dup hx hb dX6_add_65 rfl ?_
      refine lv_bipush (v := 6) hx hb dX6_add_66 (by decide) ?_
      refine lv_aload_n hx hb dX6_add_68 rfl (lv_at hl 0 rfl) ?_
      refine kd_getiv (x := nI cM) hx hb htT m_u_X6 hown hK hP dk_16.o rfl 3 (by decide) (by decide) rfl (htT _ m_fl_X6_64) ((dk_16.f 3).trans ((show _ = fF 3 from rfl).trans oF3)) dX6_add_69 ?_
      refine ky_iastv hx hb hK hP hD hS (isA_q (S := T) (q := q_2) (ki := 7) (n := 12)) (Nat.le_of_ble_eq_true rfl) (Nat.le_of_ble_eq_true rfl) (show vp_in 6 12 from ki_in (n := 6) (by omega) (by omega)) (ki_cl (n := 6) (by omega)) dX6_add_72 (fun H locs hP hD hS => ?_)
      have dk_17 : DK (pR (pR (pR (pR (pR (pI (pR (pI (pR (pI (pW T q_2 7 12) d 2 (nI (dr + 1))) q_2 0 (nI s499)) d 2 (nI (dr + 1 + 1))) q_2 1 (nI (2 + v3))) d 2 (nI (dr + 1 + 1 + 1))) q_2 2 0) q_2 3 0) q_2 4 1000) q_2 5 0) q_2 6 (nI cM)) d x b Ad (n, na, (upd (upd (upd fF 2 (nI (dr + 1))) 2 (nI (dr + 1 + 1))) 2 (nI (dr + 1 + 1 + 1))), fO, fW, fC, fR, fB) := dk_16.fr nq_2
      refine lv_dup hx hb dX6_add_73 rfl ?_
      refine lv_bipush (v := 7) hx hb dX6_add_74 (by decide) ?_
      refine lv_iconst (v := (-1)) hx hb dX6_add_76 (by decide) ?_
      refine ky_iastv hx hb hK hP hD hS (isA_q (S := T) (q := q_2) (ki := 7) (n := 12)) (Nat.le_of_ble_eq_true rfl) (Nat.le_of_ble_eq_true rfl) (show vp_in 7 12 from ki_in (n := 7) (by omega) (by omega)) (ki_cl (n := 7) (by omega)) dX6_add_77 (fun H locs hP hD hS => ?_)
      have dk_18 : DK (pR (pR (pR (pR (pR (pR (pI (pR (pI (pR (pI (pW T q_2 7 12) d 2 (nI (dr + 1))) q_2 0 (nI s499)) d 2 (nI (dr + 1 + 1))) q_2 1 (nI (2 + v3))) d 2 (nI (dr + 1 + 1 + 1))) q_2 2 0) q_2 3 0) q_2 4 1000) q_2 5 0) q_2 6 (nI cM)) q_2 7 (-1)) d x b Ad (n, na, (upd (upd (upd fF 2 (nI (dr + 1))) 2 (nI (dr + 1 + 1))) 2 (nI (dr + 1 + 1 + 1))), fO, fW, fC, fR, fB) := dk_17.fr nq_2
      refine lv_dup hx hb dX6_add_78 rfl ?_
      refine lv_bipush (v := 8) hx hb dX6_add_79 (by decide) ?_
      refine lv_iconst (v := 0) hx hb dX6_add_81 (by decide) ?_
      refine ky_iastv hx hb hK hP hD hS (isA_q (S := T) (q := q_2) (ki := 7) (n := 12)) (Nat.le_of_ble_eq_true rfl) (Nat.le_of_ble_eq_true rfl) (show vp_in 8 12 from ki_in (n := 8) (by omega) (by omega)) (ki_cl (n := 8) (by omega)) dX6_add_82 (fun H locs hP hD hS => ?_)
      have dk_19 : DK (pR (pR (pR (pR (pR (pR (pR (pI (pR (pI (pR (pI (pW T q_2 7 12) d 2 (nI (dr + 1))) q_2 0 (nI s499)) d 2 (nI (dr + 1 + 1))) q_2 1 (nI (2 + v3))) d 2 (nI (dr + 1 + 1 + 1))) q_2 2 0) q_2 3 0) q_2 4 1000) q_2 5 0) q_2 6 (nI cM)) q_2 7 (-1)) q_2 8 0) d x b Ad (n, na, (upd (upd (upd fF 2 (nI (dr + 1))) 2 (nI (dr + 1 + 1))) 2 (nI (dr + 1 + 1 + 1))), fO, fW, fC, fR, fB) := dk_18.fr nq_2
      refine lv_dup hx hb dX6_add_83 rfl ?_
      refine lv_bipush (v := 9) hx hb dX6_add_84 (by decide) ?_
      refine lv_iconst (v := 0) hx hb dX6_add_86 (by decide) ?_
      refine ky_iastv hx hb hK hP hD hS (isA_q (S := T) (q := q_2) (ki := 7) (n := 12)) (Nat.le_of_ble_eq_true rfl) (Nat.le_of_ble_eq_true rfl) (show vp_in 9 12 from ki_in (n := 9) (by omega) (by omega)) (ki_cl (n := 9) (by omega)) dX6_add_87 (fun H locs hP hD hS => ?_)
      have dk_20 : DK (pR (pR (pR (pR (pR (pR (pR (pR (pI (pR (pI (pR (pI (pW T q_2 7 12) d 2 (nI (dr + 1))) q_2 0 (nI s499)) d 2 (nI (dr + 1 + 1))) q_2 1 (nI (2 + v3))) d 2 (nI (dr + 1 + 1 + 1))) q_2 2 0) q_2 3 0) q_2 4 1000) q_2 5 0) q_2 6 (nI cM)) q_2 7 (-1)) q_2 8 0) q_2 9 0) d x b Ad (n, na, (upd (upd (upd fF 2 (nI (dr + 1))) 2 (nI (dr + 1 + 1))) 2 (nI (dr + 1 + 1 + 1))), fO, fW, fC, fR, fB) := dk_19.fr nq_2
      refine lv_dup hx hb dX6_add_88 rfl ?_
      refine lv_bipush (v := 10) hx hb dX6_add_89 (by decide) ?_
      refine lv_iconst (v := (-1)) hx hb dX6_add_91 (by decide) ?_
      refine ky_iastv hx hb hK hP hD hS (isA_q (S := T) (q := q_2) (ki := 7) (n := 12)) (Nat.le_of_ble_eq_true rfl) (Nat.le_of_ble_eq_true rfl) (show vp_in 10 12 from ki_in (n := 10) (by omega) (by omega)) (ki_cl (n := 10) (by omega)) dX6_add_92 (fun H locs hP hD hS => ?_)
      have dk_21 : DK (pR (pR (pR (pR (pR (pR (pR (pR (pR (pI (pR (pI (pR (pI (pW T q_2 7 12) d 2 (nI (dr + 1))) q_2 0 (nI s499)) d 2 (nI (dr + 1 + 1))) q_2 1 (nI (2 + v3))) d 2 (nI (dr + 1 + 1 + 1))) q_2 2 0) q_2 3 0) q_2 4 1000) q_2 5 0) q_2 6 (nI cM)) q_2 7 (-1)) q_2 8 0) q_2 9 0) q_2 10 (-1)) d x b Ad (n, na, (upd (upd (upd fF 2 (nI (dr + 1))) 2 (nI (dr + 1 + 1))) 2 (nI (dr + 1 + 1 + 1))), fO, fW, fC, fR, fB) := dk_20.fr nq_2
      refine lv_dup hx hb dX6_add_93 rfl ?_
      refine lv_bipush (v := 11) hx hb dX6_add_94 (by decide) ?_
      refine lv_iconst (v := 0) hx hb dX6_add_96 (by decide) ?_
      refine ky_iastv hx hb hK hP hD hS (isA_q (S := T) (q := q_2) (ki := 7) (n := 12)) (Nat.le_of_ble_eq_true rfl) (Nat.le_of_ble_eq_true rfl) (show vp_in 11 12 from ki_in (n := 11) (by omega) (by omega)) (ki_cl (n := 11) (by omega)) dX6_add_97 (fun H locs hP hD hS => ?_)
      have dk_22 : DK (pR (pR (pR (pR (pR (pR (pR (pR (pR (pR (pI (pR (pI (pR (pI (pW T q_2 7 12) d 2 (nI (dr + 1))) q_2 0 (nI s499)) d 2 (nI (dr + 1 + 1))) q_2 1 (nI (2 + v3))) d 2 (nI (dr + 1 + 1 + 1))) q_2 2 0) q_2 3 0) q_2 4 1000) q_2 5 0) q_2 6 (nI cM)) q_2 7 (-1)) q_2 8 0) q_2 9 0) q_2 10 (-1)) q_2 11 0) d x b Ad (n, na, (upd (upd (upd fF 2 (nI (dr + 1))) 2 (nI (dr + 1 + 1))) 2 (nI (dr + 1 + 1 + 1))), fO, fW, fC, fR, fB) := dk_21.fr nq_2
      refine lv_astore_n (lv' := [(1, .ref q_2), (0, .ref d)]) hx hb dX6_add_98 rfl hl (by decide) rfl (fun ls hl => ?_)
      refine lv_aload_n hx hb dX6_add_99 rfl (lv_at hl 1 rfl) ?_
      refine kd_gets (r := (aO Ad)) hx hb htT m_u_X6 hown hK hP dk_22.o rfl 6 (by decide) (by decide) rfl dk_22.q6 (htT _ m_fl_X6_18) dX6_add_100 ?_
      refine lv_aload_n hx hb dX6_add_103 rfl (lv_at hl 1 rfl) ?_
      refine kd_getiv (x := nI n) hx hb htT m_u_X6 hown hK hP dk_22.o rfl 5 (by decide) (by decide) rfl (htT _ m_fl_X6_57) ((dk_22.f 5).trans ((show _ = fF 5 from rfl).trans oF5)) dX6_add_104 ?_
      refine lv_aload_n hx hb dX6_add_107 rfl (lv_at hl 0 rfl) ?_
      refine ky_astav hx hb hP hD hS dk_22.ao (isA_q (S := T) (q := q_2) (ki := 7) (n := 12)) (by decide) (by decide) (rr_1 hK hAO.1) (show vp_in (nI n) 8 from ki_in (by omega) (by decide)) (ki_cl (n := n) (by omega)) dX6_add_108 (fun H locs hP hD hS => ?_)
      have dk_9 := dk_22.add (q := q_2) (g := gR (pR (pR (pR (pR (pR (pR (pR (pR (pR (pR (pI (pR (pI (pR (pI (pW T q_2 7 12) d 2 (nI (dr + 1))) q_2 0 (nI s499)) d 2 (nI (dr + 1 + 1))) q_2 1 (nI (2 + v3))) d 2 (nI (dr + 1 + 1 + 1))) q_2 2 0) q_2 3 0) q_2 4 1000) q_2 5 0) q_2 6 (nI cM)) q_2 7 (-1)) q_2 8 0) q_2 9 0) q_2 10 (-1)) q_2 11 0) q_2) (show n < 8 by omega) (isA_q (S := T) (q := q_2) (ki := 7) (n := 12)) (fun _ _ => rfl) (fun k9 hk9 e9 => hq_2 (e9 ▸ (dk.oa (k := k9) hk9).1))
      obtain ⟨Ad2, dk_8⟩ : ∃ Ad2, DK (pP (pR (pR (pR (pR (pR (pR (pR (pR (pR (pR (pI (pR (pI (pR (pI (pW T q_2 7 12) d 2 (nI (dr + 1))) q_2 0 (nI s499)) d 2 (nI (dr + 1 + 1))) q_2 1 (nI (2 + v3))) d 2 (nI (dr + 1 + 1 + 1))) q_2 2 0) q_2 3 0) q_2 4 1000) q_2 5 0) q_2 6 (nI cM)) q_2 7 (-1)) q_2 8 0) q_2 9 0) q_2 10 (-1)) q_2 11 0) (aO Ad) n (some q_2)) d x b Ad2 ((n + 1), na, (upd (upd (upd fF 2 (nI (dr + 1))) 2 (nI (dr + 1 + 1))) 2 (nI (dr + 1 + 1 + 1))), (u1 fO n (gR (pR (pR (pR (pR (pR (pR (pR (pR (pR (pR (pI (pR (pI (pR (pI (pW T q_2 7 12) d 2 (nI (dr + 1))) q_2 0 (nI s499)) d 2 (nI (dr + 1 + 1))) q_2 1 (nI (2 + v3))) d 2 (nI (dr + 1 + 1 + 1))) q_2 2 0) q_2 3 0) q_2 4 1000) q_2 5 0) q_2 6 (nI cM)) q_2 7 (-1)) q_2 8 0) q_2 9 0) q_2 10 (-1)) q_2 11 0) q_2)), fW, fC, fR, fB) := ⟨_, dk_9⟩
      refine lv_aload_n hx hb dX6_add_109 rfl (lv_at hl 1 rfl) ?_
      refine kd_gets (r := (aW Ad2)) hx hb htT m_u_X6 hown hK hP dk_8.o rfl 7 (by decide) (by decide) rfl dk_8.q7 (htT _ m_fl_X6_23) dX6_add_110 ?_
      refine lv_aload_n hx hb dX6_add_113 rfl (lv_at hl 1 rfl) ?_
      refine kd_getiv (x := nI n) hx hb htT m_u_X6 hown hK hP dk_8.o rfl 5 (by decide) (by decide) rfl (htT _ m_fl_X6_57) ((dk_8.f 5).trans ((show _ = fF 5 from rfl).trans oF5)) dX6_add_114 ?_
      refine ky_alda (r := some (aWk Ad2 n)) hx hb hK hP dk_8.aw (show vp_in (nI (n)) 8 from ki_in (by omega) (by omega)) ((congrArg _ (ki_cl (n := n) (by omega))).trans (dk_8.wp (k := n) (show n < 8 by omega))) dX6_add_117 ?_
      refine lv_iconst (v := 0) hx hb dX6_add_118 (by decide) ?_
      refine lv_sipush (v := 1000) hx hb dX6_add_119 (by decide) ?_
      refine ky_iastv hx hb hK hP hD hS (dk_8.wa (k := n) (show n < 8 by omega)) (Nat.le_of_ble_eq_true rfl) (Nat.le_of_ble_eq_true rfl) (show vp_in 0 4 from ki_in (n := 0) (by omega) (by omega)) (ki_cl (n := 0) (by omega)) dX6_add_122 (fun H locs hP hD hS => ?_)
      have dk_23 : DK (pR (pP (pR (pR (pR (pR (pR (pR (pR (pR (pR (pR (pI (pR (pI (pR (pI (pW T q_2 7 12) d 2 (nI (dr + 1))) q_2 0 (nI s499)) d 2 (nI (dr + 1 + 1))) q_2 1 (nI (2 + v3))) d 2 (nI (dr + 1 + 1 + 1))) q_2 2 0) q_2 3 0) q_2 4 1000) q_2 5 0) q_2 6 (nI cM)) q_2 7 (-1)) q_2 8 0) q_2 9 0) q_2 10 (-1)) q_2 11 0) (aO Ad) n (some q_2)) (aWk Ad2 n) 0 1000) d x b Ad2 ((n + 1), na, (upd (upd (upd fF 2 (nI (dr + 1))) 2 (nI (dr + 1 + 1))) 2 (nI (dr + 1 + 1 + 1))), (u1 fO n (gR (pR (pR (pR (pR (pR (pR (pR (pR (pR (pR (pI (pR (pI (pR (pI (pW T q_2 7 12) d 2 (nI (dr + 1))) q_2 0 (nI s499)) d 2 (nI (dr + 1 + 1))) q_2 1 (nI (2 + v3))) d 2 (nI (dr + 1 + 1 + 1))) q_2 2 0) q_2 3 0) q_2 4 1000) q_2 5 0) q_2 6 (nI cM)) q_2 7 (-1)) q_2 8 0) q_2 9 0) q_2 10 (-1)) q_2 11 0) q_2)), (u2 fW n 0 1000), fC, fR, fB) := dk_8.wt (show n < 8 by omega)
      refine lv_aload_n hx hb dX6_add_123 rfl (lv_at hl 1 rfl) ?_
      refine kd_gets (r := x) hx hb htT m_u_X6 hown hK hP dk_23.o rfl 0 (by decide) (by decide) rfl dk_23.q0 (htT _ m_fl_X6_10) dX6_add_124 ?_
      refine lv_aload_n hx hb dX6_add_127 rfl (lv_at hl 0 rfl) ?_
      refine lv_iconst (v := 0) hx hb dX6_add_128 (by decide) ?_
      refine kx_ialdv (x := nI s499) hx hb hK (kmy_P hP) (isA_q (S := T) (q := q_2) (ki := 7) (n := 12)) (Nat.le_of_ble_eq_true rfl) (Nat.le_of_ble_eq_true rfl) (show vp_in 0 12 from ki_in (n := 0) (by omega) (by omega)) ((congrArg _ (ki_cl (n := 0) (by omega))).trans ((u2_a (ne_of_kind (isA_q (S := T) (q := q_2) (ki := 7) (n := 12)).2.1 (dk_8.wa (k := n) (show n < 8 by omega)).2.1 (by decide))).trans ((u2_k (by decide)).trans ((u2_k (by decide)).trans ((u2_k (by decide)).trans ((u2_k (by decide)).trans ((u2_k (by decide)).trans ((u2_k (by decide)).trans ((u2_k (by decide)).trans ((u2_k (by decide)).trans ((u2_k (by decide)).trans ((u2_k (by decide)).trans ((u2_k (by decide)).trans (u2_s)))))))))))))) dX6_add_129 ?_
      refine lv_aload_n hx hb dX6_add_130 rfl (lv_at hl 0 rfl) ?_
      refine lv_iconst (v := 1) hx hb dX6_add_131 (by decide) ?_
      refine kx_ialdv (x := nI (2 + v3)) hx hb hK (kmy_P hP) (isA_q (S := T) (q := q_2) (ki := 7) (n := 12)) (Nat.le_of_ble_eq_true rfl) (Nat.le_of_ble_eq_true rfl) (show vp_in 1 12 from ki_in (n := 1) (by omega) (by omega)) ((congrArg _ (ki_cl (n := 1) (by omega))).trans ((u2_a (ne_of_kind (isA_q (S := T) (q := q_2) (ki := 7) (n := 12)).2.1 (dk_8.wa (k := n) (show n < 8 by omega)).2.1 (by decide))).trans ((u2_k (by decide)).trans ((u2_k (by decide)).trans ((u2_k (by decide)).trans ((u2_k (by decide)).trans ((u2_k (by decide)).trans ((u2_k (by decide)).trans ((u2_k (by decide)).trans ((u2_k (by decide)).trans ((u2_k (by decide)).trans ((u2_k (by decide)).trans (u2_s))))))))))))) dX6_add_132 ?_
      refine lv_aload_n hx hb dX6_add_133 rfl (lv_at hl 0 rfl) ?_
      refine lv_iconst (v := 2) hx hb dX6_add_134 (by decide) ?_
      refine kx_ialdv (x := 0) hx hb hK (kmy_P hP) (isA_q (S := T) (q := q_2) (ki := 7) (n := 12)) (Nat.le_of_ble_eq_true rfl) (Nat.le_of_ble_eq_true rfl) (show vp_in 2 12 from ki_in (n := 2) (by omega) (by omega)) ((congrArg _ (ki_cl (n := 2) (by omega))).trans ((u2_a (ne_of_kind (isA_q (S := T) (q := q_2) (ki := 7) (n := 12)).2.1 (dk_8.wa (k := n) (show n < 8 by omega)).2.1 (by decide))).trans ((u2_k (by decide)).trans ((u2_k (by decide)).trans ((u2_k (by decide)).trans ((u2_k (by decide)).trans ((u2_k (by decide)).trans ((u2_k (by decide)).trans ((u2_k (by decide)).trans ((u2_k (by decide)).trans ((u2_k (by decide)).trans (u2_s)))))))))))) dX6_add_135 ?_
      refine lv_iconst (v := 1) hx hb dX6_add_136 (by decide) ?_
      refine lv_icmp_ne (tgt := 144) hx hb dX6_add_137 (by decide) (fun _ => ?_) (fun c_24 => absurd c_24 (by decide))
      refine lv_iconst (v := 0) hx hb dX6_add_144 (by decide) ?_
      refine kn_i (va_runV (As := [.int (nI s499), .int (nI (2 + v3)), .int 0]) (rest := []) ⟨hx, hb, hml, hown, htT⟩ (c_add l D cA _ S x gg.c.hx ar gg.c.q0 gg.c.R.1 (nI s499) (nI (2 + v3)) 0 (Or.inl rfl) (kOut_n (a := s499) (lo := 0) (hi := 498) (by omega) (by omega) (by omega)) (kOut_n (a := 2 + v3) (lo := 2) (hi := 4) (by omega) (by omega) (by omega)) (by rw [gg.c.x2]; exact fun h9 => absurd ((nI_ltI (a := n) (b := 0) (by omega) (by omega)).mp h9) (by omega)) (by rw [gg.c.x2]; exact (nI_ltI (a := n) (b := 8) (by omega) (by omega)).mpr (by omega))) (cwV 3 htT (kg_V m_ml_X6_67 m_im_X5_add m_sl_X5_add m_in_X5 m_cd_X5_add) rfl rfl rfl (by decide +kernel) ⟨Nat.le_of_ble_eq_true rfl, Nat.le_of_ble_eq_true rfl⟩) (kn_V hK hP hD hTB gg.c.hx (Nat.le_of_ble_eq_true rfl) rfl) rfl rfl hl.1 rfl (lv_room (Nat.le_of_ble_eq_true rfl)) dX6_add_145 ⟨Nat.le_of_ble_eq_true rfl, Nat.le_of_ble_eq_true rfl⟩) hP hD hS hA (fun r_25 x_25 H locs hq_25 hP hD hS => ?_)
      rw [hq_25.1.trans gg.c.x2]
      obtain ⟨Tn, qn, eX, hEq, hqT, hsT, hgR, g0, gN, gw, hw, gp, hr2, g7, tq1, tq2, tq3, tq4, hgJ⟩ := add_facts2 hq_25.2
      have gg2 : GG (n + 1) na x_25 (mAdd M n (nI s499) (nI (2 + v3)) 0) x ar ak := by rw [eX]; exact gg.add (by omega) (kIn_out.mpr (kOut_n (a := s499) (lo := 0) (hi := 498) (by omega) (by omega) (by omega))) (kIn_out.mpr (kOut_n (a := 2 + v3) (lo := 2) (hi := 4) (by omega) (by omega) (by omega))) hEq hqT hsT hgR g0 gN gw hw gp hr2 g7 tq1 tq2 tq3 tq4 hgJ
      refine lv_aload_n hx hb dX6_add_148 rfl (lv_at hl 1 rfl) ?_
      refine lv_dup hx hb dX6_add_149 rfl ?_
      refine kd_getiv (x := nI n) hx hb htT m_u_X6 hown hK hP dk_23.o rfl 5 (by decide) (by decide) rfl (htT _ m_fl_X6_57) ((dk_23.f 5).trans ((show _ = fF 5 from rfl).trans oF5)) dX6_add_150 ?_
      refine lv_dup_x1 hx hb dX6_add_153 rfl rfl ?_
      refine lv_iconst (v := 1) hx hb dX6_add_154 (by decide) ?_
      refine lv_iadd hx hb dX6_add_155 ?_
      rw [show ((nI n) + 1 : Int32) = nI (n + 1) from nI_add n 1]
      refine kd_puti (ty := .int) hx hb htT m_u_X6 tyX6 tyX6_ok nmX6 hown hK hP hD hS dk_23.o rfl 5 (by decide) (by decide) rfl (htT _ m_fl_X6_57) rfl (by decide +kernel) rfl rfl dX6_add_156 (fun H locs hP hD hS => ?_)
      have dk_26 : DK (pI (pR (pP (pR (pR (pR (pR (pR (pR (pR (pR (pR (pR (pI (pR (pI (pR (pI (pW T q_2 7 12) d 2 (nI (dr + 1))) q_2 0 (nI s499)) d 2 (nI (dr + 1 + 1))) q_2 1 (nI (2 + v3))) d 2 (nI (dr + 1 + 1 + 1))) q_2 2 0) q_2 3 0) q_2 4 1000) q_2 5 0) q_2 6 (nI cM)) q_2 7 (-1)) q_2 8 0) q_2 9 0) q_2 10 (-1)) q_2 11 0) (aO Ad) n (some q_2)) (aWk Ad2 n) 0 1000) d 5 (nI (n + 1))) d x b Ad2 ((n + 1), na, (upd (upd (upd (upd fF 2 (nI (dr + 1))) 2 (nI (dr + 1 + 1))) 2 (nI (dr + 1 + 1 + 1))) 5 (nI (n + 1))), (u1 fO n (gR (pR (pR (pR (pR (pR (pR (pR (pR (pR (pR (pI (pR (pI (pR (pI (pW T q_2 7 12) d 2 (nI (dr + 1))) q_2 0 (nI s499)) d 2 (nI (dr + 1 + 1))) q_2 1 (nI (2 + v3))) d 2 (nI (dr + 1 + 1 + 1))) q_2 2 0) q_2 3 0) q_2 4 1000) q_2 5 0) q_2 6 (nI cM)) q_2 7 (-1)) q_2 8 0) q_2 9 0) q_2 10 (-1)) q_2 11 0) q_2)), (u2 fW n 0 1000), fC, fR, fB) := dk_23.num
      refine lv_icmp_ne (tgt := 166) hx hb dX6_add_159 (by decide) (fun c_27 => ?_) (fun c_27 => ?_)
      · exact absurd rfl c_27
      · refine lv_iconst (v := 1) hx hb dX6_add_162 (by decide) ?_
        refine lv_goto (tgt := 167) hx hb dX6_add_163 (by decide) ?_
        have vm9 : VM ((n + 1), na, (upd (upd (upd (upd fF 2 (nI (dr + 1))) 2 (nI (dr + 1 + 1))) 2 (nI (dr + 1 + 1 + 1))) 5 (nI (n + 1))), (u1 fO n (gR (pR (pR (pR (pR (pR (pR (pR (pR (pR (pR (pI (pR (pI (pR (pI (pW T q_2 7 12) d 2 (nI (dr + 1))) q_2 0 (nI s499)) d 2 (nI (dr + 1 + 1))) q_2 1 (nI (2 + v3))) d 2 (nI (dr + 1 + 1 + 1))) q_2 2 0) q_2 3 0) q_2 4 1000) q_2 5 0) q_2 6 (nI cM)) q_2 7 (-1)) q_2 8 0) q_2 9 0) q_2 10 (-1)) q_2 11 0) q_2)), (u2 fW n 0 1000), fC, fR, fB) (n + 1) na (dr + 1 + 1 + 1) (mAdd M n (nI s499) (nI (2 + v3)) 0) := (((hvm.draw (d2 := dr + 1)).draw (d2 := dr + 1 + 1)).draw (d2 := dr + 1 + 1 + 1)).add (by omega) (F := (upd (upd (upd (upd fF 2 (nI (dr + 1))) 2 (nI (dr + 1 + 1))) 2 (nI (dr + 1 + 1 + 1))) 5 (nI (n + 1)))) (g := gR (pR (pR (pR (pR (pR (pR (pR (pR (pR (pR (pI (pR (pI (pR (pI (pW T q_2 7 12) d 2 (nI (dr + 1))) q_2 0 (nI s499)) d 2 (nI (dr + 1 + 1))) q_2 1 (nI (2 + v3))) d 2 (nI (dr + 1 + 1 + 1))) q_2 2 0) q_2 3 0) q_2 4 1000) q_2 5 0) q_2 6 (nI cM)) q_2 7 (-1)) q_2 8 0) q_2 9 0) q_2 10 (-1)) q_2 11 0) q_2) ⟨rfl, rfl, rfl, rfl⟩ ⟨(u2_k (by decide)).trans ((u2_k (by decide)).trans ((u2_k (by decide)).trans ((u2_k (by decide)).trans ((u2_k (by decide)).trans ((u2_k (by decide)).trans ((u2_k (by decide)).trans ((u2_k (by decide)).trans ((u2_k (by decide)).trans ((u2_k (by decide)).trans ((u2_k (by decide)).trans (u2_s))))))))))), (u2_k (by decide)).trans ((u2_k (by decide)).trans ((u2_k (by decide)).trans ((u2_k (by decide)).trans ((u2_k (by decide)).trans ((u2_k (by decide)).trans ((u2_k (by decide)).trans ((u2_k (by decide)).trans ((u2_k (by decide)).trans ((u2_k (by decide)).trans (u2_s)))))))))), (u2_k (by decide)).trans ((u2_k (by decide)).trans ((u2_k (by decide)).trans ((u2_k (by decide)).trans ((u2_k (by decide)).trans ((u2_k (by decide)).trans ((u2_k (by decide)).trans ((u2_k (by decide)).trans ((u2_k (by decide)).trans (u2_s))))))))), (u2_k (by decide)).trans ((u2_k (by decide)).trans ((u2_k (by decide)).trans ((u2_k (by decide)).trans ((u2_k (by decide)).trans ((u2_k (by decide)).trans ((u2_k (by decide)).trans ((u2_k (by decide)).trans (u2_s)))))))), (u2_k (by decide)).trans ((u2_k (by decide)).trans ((u2_k (by decide)).trans ((u2_k (by decide)).trans ((u2_k (by decide)).trans ((u2_k (by decide)).trans ((u2_k (by decide)).trans (u2_s))))))), (u2_k (by decide)).trans ((u2_k (by decide)).trans ((u2_k (by decide)).trans ((u2_k (by decide)).trans ((u2_k (by decide)).trans ((u2_k (by decide)).trans (u2_s)))))), ((show _ = _ from (u2_k (by decide)).trans ((u2_k (by decide)).trans ((u2_k (by decide)).trans ((u2_k (by decide)).trans ((u2_k (by decide)).trans (u2_s)))))).trans hM.1.1.symm), (u2_k (by decide)).trans ((u2_k (by decide)).trans ((u2_k (by decide)).trans ((u2_k (by decide)).trans (u2_s)))), (u2_k (by decide)).trans (u2_s), u2_s⟩ zr.2.1 zz.1 zz.2.2.2
        exact W.zret (v := 1) hx hb hr (rfl) (fun t ht hW => ⟨⟨1, (pI (pR (pP (pR (pR (pR (pR (pR (pR (pR (pR (pR (pR (pI (pR (pI (pR (pI (pW T q_2 7 12) d 2 (nI (dr + 1))) q_2 0 (nI s499)) d 2 (nI (dr + 1 + 1))) q_2 1 (nI (2 + v3))) d 2 (nI (dr + 1 + 1 + 1))) q_2 2 0) q_2 3 0) q_2 4 1000) q_2 5 0) q_2 6 (nI cM)) q_2 7 (-1)) q_2 8 0) q_2 9 0) q_2 10 (-1)) q_2 11 0) (aO Ad) n (some q_2)) (aWk Ad2 n) 0 1000) d 5 (nI (n + 1)), x_25), rfl, ⟨rfl, (n + 1), na, dr + 1 + 1 + 1, cM, sB, _, _, _, _, _, _, _, (mAdd M n (nI s499) (nI (2 + v3)) 0), by omega, by omega, by omega, by omega, dk_26, vm9, gg2, (hM.add zz.2.1 zz.2.2.1 zz.1 zr.1 (Or.inl rfl))⟩, by rw [ht]; exact hP, va_K.moved hW.alike hK, hD⟩, hS.F ht⟩) hS.2.2 dX6_add_167
    · replace c_12 := (nI_eq (a := y3) (b := 0) (by omega) (by omega)).mp c_12
      refine lv_iconst (v := 1) hx hb dX6_add_45 (by decide) ?_
      refine lv_goto (tgt := 50) hx hb dX6_add_46 (by decide) ?_
      refine ky_iastv hx hb hK hP hD hS (isA_q (S := T) (q := q_2) (ki := 7) (n := 12)) (Nat.le_of_ble_eq_true rfl) (Nat.le_of_ble_eq_true rfl) (show vp_in 2 12 from ki_in (n := 2) (by omega) (by omega)) (ki_cl (n := 2) (by omega)) dX6_add_50 (fun H locs hP hD hS => ?_)
      have dk_28 : DK (pR (pI (pR (pI (pR (pI (pW T q_2 7 12) d 2 (nI (dr + 1))) q_2 0 (nI s499)) d 2 (nI (dr + 1 + 1))) q_2 1 (nI (2 + v3))) d 2 (nI (dr + 1 + 1 + 1))) q_2 2 1) d x b Ad (n, na, (upd (upd (upd fF 2 (nI (dr + 1))) 2 (nI (dr + 1 + 1))) 2 (nI (dr + 1 + 1 + 1))), fO, fW, fC, fR, fB) := dk_11.fr nq_2
      refine lv_dup hx hb dX6_add_51 rfl ?_
      refine lv_iconst (v := 3) hx hb dX6_add_52 (by decide) ?_
      refine lv_iconst (v := 0) hx hb dX6_add_53 (by decide) ?_
      refine ky_iastv hx hb hK hP hD hS (isA_q (S := T) (q := q_2) (ki := 7) (n := 12)) (Nat.le_of_ble_eq_true rfl) (Nat.le_of_ble_eq_true rfl) (show vp_in 3 12 from ki_in (n := 3) (by omega) (by omega)) (ki_cl (n := 3) (by omega)) dX6_add_54 (fun H locs hP hD hS => ?_)
      have dk_29 : DK (pR (pR (pI (pR (pI (pR (pI (pW T q_2 7 12) d 2 (nI (dr + 1))) q_2 0 (nI s499)) d 2 (nI (dr + 1 + 1))) q_2 1 (nI (2 + v3))) d 2 (nI (dr + 1 + 1 + 1))) q_2 2 1) q_2 3 0) d x b Ad (n, na, (upd (upd (upd fF 2 (nI (dr + 1))) 2 (nI (dr + 1 + 1))) 2 (nI (dr + 1 + 1 + 1))), fO, fW, fC, fR, fB) := dk_28.fr nq_2
      refine lv_dup hx hb dX6_add_55 rfl ?_
      refine lv_iconst (v := 4) hx hb dX6_add_56 (by decide) ?_
      refine lv_sipush (v := 1000) hx hb dX6_add_57 (by decide) ?_
      refine ky_iastv hx hb hK hP hD hS (isA_q (S := T) (q := q_2) (ki := 7) (n := 12)) (Nat.le_of_ble_eq_true rfl) (Nat.le_of_ble_eq_true rfl) (show vp_in 4 12 from ki_in (n := 4) (by omega) (by omega)) (ki_cl (n := 4) (by omega)) dX6_add_60 (fun H locs hP hD hS => ?_)
      have dk_30 : DK (pR (pR (pR (pI (pR (pI (pR (pI (pW T q_2 7 12) d 2 (nI (dr + 1))) q_2 0 (nI s499)) d 2 (nI (dr + 1 + 1))) q_2 1 (nI (2 + v3))) d 2 (nI (dr + 1 + 1 + 1))) q_2 2 1) q_2 3 0) q_2 4 1000) d x b Ad (n, na, (upd (upd (upd fF 2 (nI (dr + 1))) 2 (nI (dr + 1 + 1))) 2 (nI (dr + 1 + 1 + 1))), fO, fW, fC, fR, fB) := dk_29.fr nq_2
      refine lv_dup hx hb dX6_add_61 rfl ?_
      refine lv_iconst (v := 5) hx hb dX6_add_62 (by decide) ?_
      refine lv_iconst (v := 0) hx hb dX6_add_63 (by decide) ?_
      refine ky_iastv hx hb hK hP hD hS (isA_q (S := T) (q := q_2) (ki := 7) (n := 12)) (Nat.le_of_ble_eq_true rfl) (Nat.le_of_ble_eq_true rfl) (show vp_in 5 12 from ki_in (n := 5) (by omega) (by omega)) (ki_cl (n := 5) (by omega)) dX6_add_64 (fun H locs hP hD hS => ?_)
      have dk_31 : DK (pR (pR (pR (pR (pI (pR (pI (pR (pI (pW T q_2 7 12) d 2 (nI (dr + 1))) q_2 0 (nI s499)) d 2 (nI (dr + 1 + 1))) q_2 1 (nI (2 + v3))) d 2 (nI (dr + 1 + 1 + 1))) q_2 2 1) q_2 3 0) q_2 4 1000) q_2 5 0) d x b Ad (n, na, (upd (upd (upd fF 2 (nI (dr + 1))) 2 (nI (dr + 1 + 1))) 2 (nI (dr + 1 + 1 + 1))), fO, fW, fC, fR, fB) := dk_30.fr nq_2
      refine lv_dup hx hb dX6_add_65 rfl ?_
      refine lv_bipush (v := 6) hx hb dX6_add_66 (by decide) ?_
      refine lv_aload_n hx hb dX6_add_68 rfl (lv_at hl 0 rfl) ?_
      refine kd_getiv (x := nI cM) hx hb htT m_u_X6 hown hK hP dk_31.o rfl 3 (by decide) (by decide) rfl (htT _ m_fl_X6_64) ((dk_31.f 3).trans ((show _ = fF 3 from rfl).trans oF3)) dX6_add_69 ?_
      refine ky_iastv hx hb hK hP hD hS (isA_q (S := T) (q := q_2) (ki := 7) (n := 12)) (Nat.le_of_ble_eq_true rfl) (Nat.le_of_ble_eq_true rfl) (show vp_in 6 12 from ki_in (n := 6) (by omega) (by omega)) (ki_cl (n := 6) (by omega)) dX6_add_72 (fun H locs hP hD hS => ?_)
      have dk_32 : DK (pR (pR (pR (pR (pR (pI (pR (pI (pR (pI (pW T q_2 7 12) d 2 (nI (dr + 1))) q_2 0 (nI s499)) d 2 (nI (dr + 1 + 1))) q_2 1 (nI (2 + v3))) d 2 (nI (dr + 1 + 1 + 1))) q_2 2 1) q_2 3 0) q_2 4 1000) q_2 5 0) q_2 6 (nI cM)) d x b Ad (n, na, (upd (upd (upd fF 2 (nI (dr + 1))) 2 (nI (dr + 1 + 1))) 2 (nI (dr + 1 + 1 + 1))), fO, fW, fC, fR, fB) := dk_31.fr nq_2
      refine lv_dup hx hb dX6_add_73 rfl ?_
      refine lv_bipush (v := 7) hx hb dX6_add_74 (by decide) ?_
      refine lv_iconst (v := (-1)) hx hb dX6_add_76 (by decide) ?_
      refine ky_iastv hx hb hK hP hD hS (isA_q (S := T) (q := q_2) (ki := 7) (n := 12)) (Nat.le_of_ble_eq_true rfl) (Nat.le_of_ble_eq_true rfl) (show vp_in 7 12 from ki_in (n := 7) (by omega) (by omega)) (ki_cl (n := 7) (by omega)) dX6_add_77 (fun H locs hP hD hS => ?_)
      have dk_33 : DK (pR (pR (pR (pR (pR (pR (pI (pR (pI (pR (pI (pW T q_2 7 12) d 2 (nI (dr + 1))) q_2 0 (nI s499)) d 2 (nI (dr + 1 + 1))) q_2 1 (nI (2 + v3))) d 2 (nI (dr + 1 + 1 + 1))) q_2 2 1) q_2 3 0) q_2 4 1000) q_2 5 0) q_2 6 (nI cM)) q_2 7 (-1)) d x b Ad (n, na, (upd (upd (upd fF 2 (nI (dr + 1))) 2 (nI (dr + 1 + 1))) 2 (nI (dr + 1 + 1 + 1))), fO, fW, fC, fR, fB) := dk_32.fr nq_2
      refine lv_dup hx hb dX6_add_78 rfl ?_
      refine lv_bipush (v := 8) hx hb dX6_add_79 (by decide) ?_
      refine lv_iconst (v := 0) hx hb dX6_add_81 (by decide) ?_
      refine ky_iastv hx hb hK hP hD hS (isA_q (S := T) (q := q_2) (ki := 7) (n := 12)) (Nat.le_of_ble_eq_true rfl) (Nat.le_of_ble_eq_true rfl) (show vp_in 8 12 from ki_in (n := 8) (by omega) (by omega)) (ki_cl (n := 8) (by omega)) dX6_add_82 (fun H locs hP hD hS => ?_)
      have dk_34 : DK (pR (pR (pR (pR (pR (pR (pR (pI (pR (pI (pR (pI (pW T q_2 7 12) d 2 (nI (dr + 1))) q_2 0 (nI s499)) d 2 (nI (dr + 1 + 1))) q_2 1 (nI (2 + v3))) d 2 (nI (dr + 1 + 1 + 1))) q_2 2 1) q_2 3 0) q_2 4 1000) q_2 5 0) q_2 6 (nI cM)) q_2 7 (-1)) q_2 8 0) d x b Ad (n, na, (upd (upd (upd fF 2 (nI (dr + 1))) 2 (nI (dr + 1 + 1))) 2 (nI (dr + 1 + 1 + 1))), fO, fW, fC, fR, fB) := dk_33.fr nq_2
      refine lv_dup hx hb dX6_add_83 rfl ?_
      refine lv_bipush (v := 9) hx hb dX6_add_84 (by decide) ?_
      refine lv_iconst (v := 0) hx hb dX6_add_86 (by decide) ?_
      refine ky_iastv hx hb hK hP hD hS (isA_q (S := T) (q := q_2) (ki := 7) (n := 12)) (Nat.le_of_ble_eq_true rfl) (Nat.le_of_ble_eq_true rfl) (show vp_in 9 12 from ki_in (n := 9) (by omega) (by omega)) (ki_cl (n := 9) (by omega)) dX6_add_87 (fun H locs hP hD hS => ?_)
      have dk_35 : DK (pR (pR (pR (pR (pR (pR (pR (pR (pI (pR (pI (pR (pI (pW T q_2 7 12) d 2 (nI (dr + 1))) q_2 0 (nI s499)) d 2 (nI (dr + 1 + 1))) q_2 1 (nI (2 + v3))) d 2 (nI (dr + 1 + 1 + 1))) q_2 2 1) q_2 3 0) q_2 4 1000) q_2 5 0) q_2 6 (nI cM)) q_2 7 (-1)) q_2 8 0) q_2 9 0) d x b Ad (n, na, (upd (upd (upd fF 2 (nI (dr + 1))) 2 (nI (dr + 1 + 1))) 2 (nI (dr + 1 + 1 + 1))), fO, fW, fC, fR, fB) := dk_34.fr nq_2
      refine lv_dup hx hb dX6_add_88 rfl ?_
      refine lv_bipush (v := 10) hx hb dX6_add_89 (by decide) ?_
      refine lv_iconst (v := (-1)) hx hb dX6_add_91 (by decide) ?_
      refine ky_iastv hx hb hK hP hD hS (isA_q (S := T) (q := q_2) (ki := 7) (n := 12)) (Nat.le_of_ble_eq_true rfl) (Nat.le_of_ble_eq_true rfl) (show vp_in 10 12 from ki_in (n := 10) (by omega) (by omega)) (ki_cl (n := 10) (by omega)) dX6_add_92 (fun H locs hP hD hS => ?_)
      have dk_36 : DK (pR (pR (pR (pR (pR (pR (pR (pR (pR (pI (pR (pI (pR (pI (pW T q_2 7 12) d 2 (nI (dr + 1))) q_2 0 (nI s499)) d 2 (nI (dr + 1 + 1))) q_2 1 (nI (2 + v3))) d 2 (nI (dr + 1 + 1 + 1))) q_2 2 1) q_2 3 0) q_2 4 1000) q_2 5 0) q_2 6 (nI cM)) q_2 7 (-1)) q_2 8 0) q_2 9 0) q_2 10 (-1)) d x b Ad (n, na, (upd (upd (upd fF 2 (nI (dr + 1))) 2 (nI (dr + 1 + 1))) 2 (nI (dr + 1 + 1 + 1))), fO, fW, fC, fR, fB) := dk_35.fr nq_2
      refine lv_dup hx hb dX6_add_93 rfl ?_
      refine lv_bipush (v := 11) hx hb dX6_add_94 (by decide) ?_
      refine lv_iconst (v := 0) hx hb dX6_add_96 (by decide) ?_
      refine ky_iastv hx hb hK hP hD hS (isA_q (S := T) (q := q_2) (ki := 7) (n := 12)) (Nat.le_of_ble_eq_true rfl) (Nat.le_of_ble_eq_true rfl) (show vp_in 11 12 from ki_in (n := 11) (by omega) (by omega)) (ki_cl (n := 11) (by omega)) dX6_add_97 (fun H locs hP hD hS => ?_)
      have dk_37 : DK (pR (pR (pR (pR (pR (pR (pR (pR (pR (pR (pI (pR (pI (pR (pI (pW T q_2 7 12) d 2 (nI (dr + 1))) q_2 0 (nI s499)) d 2 (nI (dr + 1 + 1))) q_2 1 (nI (2 + v3))) d 2 (nI (dr + 1 + 1 + 1))) q_2 2 1) q_2 3 0) q_2 4 1000) q_2 5 0) q_2 6 (nI cM)) q_2 7 (-1)) q_2 8 0) q_2 9 0) q_2 10 (-1)) q_2 11 0) d x b Ad (n, na, (upd (upd (upd fF 2 (nI (dr + 1))) 2 (nI (dr + 1 + 1))) 2 (nI (dr + 1 + 1 + 1))), fO, fW, fC, fR, fB) := dk_36.fr nq_2
      refine lv_astore_n (lv' := [(1, .ref q_2), (0, .ref d)]) hx hb dX6_add_98 rfl hl (by decide) rfl (fun ls hl => ?_)
      refine lv_aload_n hx hb dX6_add_99 rfl (lv_at hl 1 rfl) ?_
      refine kd_gets (r := (aO Ad)) hx hb htT m_u_X6 hown hK hP dk_37.o rfl 6 (by decide) (by decide) rfl dk_37.q6 (htT _ m_fl_X6_18) dX6_add_100 ?_
      refine lv_aload_n hx hb dX6_add_103 rfl (lv_at hl 1 rfl) ?_
      refine kd_getiv (x := nI n) hx hb htT m_u_X6 hown hK hP dk_37.o rfl 5 (by decide) (by decide) rfl (htT _ m_fl_X6_57) ((dk_37.f 5).trans ((show _ = fF 5 from rfl).trans oF5)) dX6_add_104 ?_
      refine lv_aload_n hx hb dX6_add_107 rfl (lv_at hl 0 rfl) ?_
      refine ky_astav hx hb hP hD hS dk_37.ao (isA_q (S := T) (q := q_2) (ki := 7) (n := 12)) (by decide) (by decide) (rr_1 hK hAO.1) (show vp_in (nI n) 8 from ki_in (by omega) (by decide)) (ki_cl (n := n) (by omega)) dX6_add_108 (fun H locs hP hD hS => ?_)
      have dk_9 := dk_37.add (q := q_2) (g := gR (pR (pR (pR (pR (pR (pR (pR (pR (pR (pR (pI (pR (pI (pR (pI (pW T q_2 7 12) d 2 (nI (dr + 1))) q_2 0 (nI s499)) d 2 (nI (dr + 1 + 1))) q_2 1 (nI (2 + v3))) d 2 (nI (dr + 1 + 1 + 1))) q_2 2 1) q_2 3 0) q_2 4 1000) q_2 5 0) q_2 6 (nI cM)) q_2 7 (-1)) q_2 8 0) q_2 9 0) q_2 10 (-1)) q_2 11 0) q_2) (show n < 8 by omega) (isA_q (S := T) (q := q_2) (ki := 7) (n := 12)) (fun _ _ => rfl) (fun k9 hk9 e9 => hq_2 (e9 ▸ (dk.oa (k := k9) hk9).1))
      obtain ⟨Ad2, dk_8⟩ : ∃ Ad2, DK (pP (pR (pR (pR (pR (pR (pR (pR (pR (pR (pR (pI (pR (pI (pR (pI (pW T q_2 7 12) d 2 (nI (dr + 1))) q_2 0 (nI s499)) d 2 (nI (dr + 1 + 1))) q_2 1 (nI (2 + v3))) d 2 (nI (dr + 1 + 1 + 1))) q_2 2 1) q_2 3 0) q_2 4 1000) q_2 5 0) q_2 6 (nI cM)) q_2 7 (-1)) q_2 8 0) q_2 9 0) q_2 10 (-1)) q_2 11 0) (aO Ad) n (some q_2)) d x b Ad2 ((n + 1), na, (upd (upd (upd fF 2 (nI (dr + 1))) 2 (nI (dr + 1 + 1))) 2 (nI (dr + 1 + 1 + 1))), (u1 fO n (gR (pR (pR (pR (pR (pR (pR (pR (pR (pR (pR (pI (pR (pI (pR (pI (pW T q_2 7 12) d 2 (nI (dr + 1))) q_2 0 (nI s499)) d 2 (nI (dr + 1 + 1))) q_2 1 (nI (2 + v3))) d 2 (nI (dr + 1 + 1 + 1))) q_2 2 1) q_2 3 0) q_2 4 1000) q_2 5 0) q_2 6 (nI cM)) q_2 7 (-1)) q_2 8 0) q_2 9 0) q_2 10 (-1)) q_2 11 0) q_2)), fW, fC, fR, fB) := ⟨_, dk_9⟩
      refine lv_aload_n hx hb dX6_add_109 rfl (lv_at hl 1 rfl) ?_
      refine kd_gets (r := (aW Ad2)) hx hb htT m_u_X6 hown hK hP dk_8.o rfl 7 (by decide) (by decide) rfl dk_8.q7 (htT _ m_fl_X6_23) dX6_add_110 ?_
      refine lv_aload_n hx hb dX6_add_113 rfl (lv_at hl 1 rfl) ?_
      refine kd_getiv (x := nI n) hx hb htT m_u_X6 hown hK hP dk_8.o rfl 5 (by decide) (by decide) rfl (htT _ m_fl_X6_57) ((dk_8.f 5).trans ((show _ = fF 5 from rfl).trans oF5)) dX6_add_114 ?_
      refine ky_alda (r := some (aWk Ad2 n)) hx hb hK hP dk_8.aw (show vp_in (nI (n)) 8 from ki_in (by omega) (by omega)) ((congrArg _ (ki_cl (n := n) (by omega))).trans (dk_8.wp (k := n) (show n < 8 by omega))) dX6_add_117 ?_
      refine lv_iconst (v := 0) hx hb dX6_add_118 (by decide) ?_
      refine lv_sipush (v := 1000) hx hb dX6_add_119 (by decide) ?_
      refine ky_iastv hx hb hK hP hD hS (dk_8.wa (k := n) (show n < 8 by omega)) (Nat.le_of_ble_eq_true rfl) (Nat.le_of_ble_eq_true rfl) (show vp_in 0 4 from ki_in (n := 0) (by omega) (by omega)) (ki_cl (n := 0) (by omega)) dX6_add_122 (fun H locs hP hD hS => ?_)
      have dk_38 : DK (pR (pP (pR (pR (pR (pR (pR (pR (pR (pR (pR (pR (pI (pR (pI (pR (pI (pW T q_2 7 12) d 2 (nI (dr + 1))) q_2 0 (nI s499)) d 2 (nI (dr + 1 + 1))) q_2 1 (nI (2 + v3))) d 2 (nI (dr + 1 + 1 + 1))) q_2 2 1) q_2 3 0) q_2 4 1000) q_2 5 0) q_2 6 (nI cM)) q_2 7 (-1)) q_2 8 0) q_2 9 0) q_2 10 (-1)) q_2 11 0) (aO Ad) n (some q_2)) (aWk Ad2 n) 0 1000) d x b Ad2 ((n + 1), na, (upd (upd (upd fF 2 (nI (dr + 1))) 2 (nI (dr + 1 + 1))) 2 (nI (dr + 1 + 1 + 1))), (u1 fO n (gR (pR (pR (pR (pR (pR (pR (pR (pR (pR (pR (pI (pR (pI (pR (pI (pW T q_2 7 12) d 2 (nI (dr + 1))) q_2 0 (nI s499)) d 2 (nI (dr + 1 + 1))) q_2 1 (nI (2 + v3))) d 2 (nI (dr + 1 + 1 + 1))) q_2 2 1) q_2 3 0) q_2 4 1000) q_2 5 0) q_2 6 (nI cM)) q_2 7 (-1)) q_2 8 0) q_2 9 0) q_2 10 (-1)) q_2 11 0) q_2)), (u2 fW n 0 1000), fC, fR, fB) := dk_8.wt (show n < 8 by omega)
      refine lv_aload_n hx hb dX6_add_123 rfl (lv_at hl 1 rfl) ?_
      refine kd_gets (r := x) hx hb htT m_u_X6 hown hK hP dk_38.o rfl 0 (by decide) (by decide) rfl dk_38.q0 (htT _ m_fl_X6_10) dX6_add_124 ?_
      refine lv_aload_n hx hb dX6_add_127 rfl (lv_at hl 0 rfl) ?_
      refine lv_iconst (v := 0) hx hb dX6_add_128 (by decide) ?_
      refine kx_ialdv (x := nI s499) hx hb hK (kmy_P hP) (isA_q (S := T) (q := q_2) (ki := 7) (n := 12)) (Nat.le_of_ble_eq_true rfl) (Nat.le_of_ble_eq_true rfl) (show vp_in 0 12 from ki_in (n := 0) (by omega) (by omega)) ((congrArg _ (ki_cl (n := 0) (by omega))).trans ((u2_a (ne_of_kind (isA_q (S := T) (q := q_2) (ki := 7) (n := 12)).2.1 (dk_8.wa (k := n) (show n < 8 by omega)).2.1 (by decide))).trans ((u2_k (by decide)).trans ((u2_k (by decide)).trans ((u2_k (by decide)).trans ((u2_k (by decide)).trans ((u2_k (by decide)).trans ((u2_k (by decide)).trans ((u2_k (by decide)).trans ((u2_k (by decide)).trans ((u2_k (by decide)).trans ((u2_k (by decide)).trans ((u2_k (by decide)).trans (u2_s)))))))))))))) dX6_add_129 ?_
      refine lv_aload_n hx hb dX6_add_130 rfl (lv_at hl 0 rfl) ?_
      refine lv_iconst (v := 1) hx hb dX6_add_131 (by decide) ?_
      refine kx_ialdv (x := nI (2 + v3)) hx hb hK (kmy_P hP) (isA_q (S := T) (q := q_2) (ki := 7) (n := 12)) (Nat.le_of_ble_eq_true rfl) (Nat.le_of_ble_eq_true rfl) (show vp_in 1 12 from ki_in (n := 1) (by omega) (by omega)) ((congrArg _ (ki_cl (n := 1) (by omega))).trans ((u2_a (ne_of_kind (isA_q (S := T) (q := q_2) (ki := 7) (n := 12)).2.1 (dk_8.wa (k := n) (show n < 8 by omega)).2.1 (by decide))).trans ((u2_k (by decide)).trans ((u2_k (by decide)).trans ((u2_k (by decide)).trans ((u2_k (by decide)).trans ((u2_k (by decide)).trans ((u2_k (by decide)).trans ((u2_k (by decide)).trans ((u2_k (by decide)).trans ((u2_k (by decide)).trans ((u2_k (by decide)).trans (u2_s))))))))))))) dX6_add_132 ?_
      refine lv_aload_n hx hb dX6_add_133 rfl (lv_at hl 0 rfl) ?_
      refine lv_iconst (v := 2) hx hb dX6_add_134 (by decide) ?_
      refine kx_ialdv (x := 1) hx hb hK (kmy_P hP) (isA_q (S := T) (q := q_2) (ki := 7) (n := 12)) (Nat.le_of_ble_eq_true rfl) (Nat.le_of_ble_eq_true rfl) (show vp_in 2 12 from ki_in (n := 2) (by omega) (by omega)) ((congrArg _ (ki_cl (n := 2) (by omega))).trans ((u2_a (ne_of_kind (isA_q (S := T) (q := q_2) (ki := 7) (n := 12)).2.1 (dk_8.wa (k := n) (show n < 8 by omega)).2.1 (by decide))).trans ((u2_k (by decide)).trans ((u2_k (by decide)).trans ((u2_k (by decide)).trans ((u2_k (by decide)).trans ((u2_k (by decide)).trans ((u2_k (by decide)).trans ((u2_k (by decide)).trans ((u2_k (by decide)).trans ((u2_k (by decide)).trans (u2_s)))))))))))) dX6_add_135 ?_
      refine lv_iconst (v := 1) hx hb dX6_add_136 (by decide) ?_
      refine lv_icmp_ne (tgt := 144) hx hb dX6_add_137 (by decide) (fun c_39 => absurd c_39 (by decide)) (fun _ => ?_)
      refine lv_iconst (v := 1) hx hb dX6_add_140 (by decide) ?_
      refine lv_goto (tgt := 145) hx hb dX6_add_141 (by decide) ?_
      refine kn_i (va_runV (As := [.int (nI s499), .int (nI (2 + v3)), .int 1]) (rest := []) ⟨hx, hb, hml, hown, htT⟩ (c_add l D cA _ S x gg.c.hx ar gg.c.q0 gg.c.R.1 (nI s499) (nI (2 + v3)) 1 (Or.inr rfl) (kOut_n (a := s499) (lo := 0) (hi := 498) (by omega) (by omega) (by omega)) (kOut_n (a := 2 + v3) (lo := 2) (hi := 4) (by omega) (by omega) (by omega)) (by rw [gg.c.x2]; exact fun h9 => absurd ((nI_ltI (a := n) (b := 0) (by omega) (by omega)).mp h9) (by omega)) (by rw [gg.c.x2]; exact (nI_ltI (a := n) (b := 8) (by omega) (by omega)).mpr (by omega))) (cwV 3 htT (kg_V m_ml_X6_67 m_im_X5_add m_sl_X5_add m_in_X5 m_cd_X5_add) rfl rfl rfl (by decide +kernel) ⟨Nat.le_of_ble_eq_true rfl, Nat.le_of_ble_eq_true rfl⟩) (kn_V hK hP hD hTB gg.c.hx (Nat.le_of_ble_eq_true rfl) rfl) rfl rfl hl.1 rfl (lv_room (Nat.le_of_ble_eq_true rfl)) dX6_add_145 ⟨Nat.le_of_ble_eq_true rfl, Nat.le_of_ble_eq_true rfl⟩) hP hD hS hA (fun r_40 x_40 H locs hq_40 hP hD hS => ?_)
      rw [hq_40.1.trans gg.c.x2]
      obtain ⟨Tn, qn, eX, hEq, hqT, hsT, hgR, g0, gN, gw, hw, gp, hr2, g7, tq1, tq2, tq3, tq4, hgJ⟩ := add_facts2 hq_40.2
      have gg2 : GG (n + 1) na x_40 (mAdd M n (nI s499) (nI (2 + v3)) 1) x ar ak := by rw [eX]; exact gg.add (by omega) (kIn_out.mpr (kOut_n (a := s499) (lo := 0) (hi := 498) (by omega) (by omega) (by omega))) (kIn_out.mpr (kOut_n (a := 2 + v3) (lo := 2) (hi := 4) (by omega) (by omega) (by omega))) hEq hqT hsT hgR g0 gN gw hw gp hr2 g7 tq1 tq2 tq3 tq4 hgJ
      refine lv_aload_n hx hb dX6_add_148 rfl (lv_at hl 1 rfl) ?_
      refine lv_dup hx hb dX6_add_149 rfl ?_
      refine kd_getiv (x := nI n) hx hb htT m_u_X6 hown hK hP dk_38.o rfl 5 (by decide) (by decide) rfl (htT _ m_fl_X6_57) ((dk_38.f 5).trans ((show _ = fF 5 from rfl).trans oF5)) dX6_add_150 ?_
      refine lv_dup_x1 hx hb dX6_add_153 rfl rfl ?_
      refine lv_iconst (v := 1) hx hb dX6_add_154 (by decide) ?_
      refine lv_iadd hx hb dX6_add_155 ?_
      rw [show ((nI n) + 1 : Int32) = nI (n + 1) from nI_add n 1]
      refine kd_puti (ty := .int) hx hb htT m_u_X6 tyX6 tyX6_ok nmX6 hown hK hP hD hS dk_38.o rfl 5 (by decide) (by decide) rfl (htT _ m_fl_X6_57) rfl (by decide +kernel) rfl rfl dX6_add_156 (fun H locs hP hD hS => ?_)
      have dk_41 : DK (pI (pR (pP (pR (pR (pR (pR (pR (pR (pR (pR (pR (pR (pI (pR (pI (pR (pI (pW T q_2 7 12) d 2 (nI (dr + 1))) q_2 0 (nI s499)) d 2 (nI (dr + 1 + 1))) q_2 1 (nI (2 + v3))) d 2 (nI (dr + 1 + 1 + 1))) q_2 2 1) q_2 3 0) q_2 4 1000) q_2 5 0) q_2 6 (nI cM)) q_2 7 (-1)) q_2 8 0) q_2 9 0) q_2 10 (-1)) q_2 11 0) (aO Ad) n (some q_2)) (aWk Ad2 n) 0 1000) d 5 (nI (n + 1))) d x b Ad2 ((n + 1), na, (upd (upd (upd (upd fF 2 (nI (dr + 1))) 2 (nI (dr + 1 + 1))) 2 (nI (dr + 1 + 1 + 1))) 5 (nI (n + 1))), (u1 fO n (gR (pR (pR (pR (pR (pR (pR (pR (pR (pR (pR (pI (pR (pI (pR (pI (pW T q_2 7 12) d 2 (nI (dr + 1))) q_2 0 (nI s499)) d 2 (nI (dr + 1 + 1))) q_2 1 (nI (2 + v3))) d 2 (nI (dr + 1 + 1 + 1))) q_2 2 1) q_2 3 0) q_2 4 1000) q_2 5 0) q_2 6 (nI cM)) q_2 7 (-1)) q_2 8 0) q_2 9 0) q_2 10 (-1)) q_2 11 0) q_2)), (u2 fW n 0 1000), fC, fR, fB) := dk_38.num
      refine lv_icmp_ne (tgt := 166) hx hb dX6_add_159 (by decide) (fun c_42 => ?_) (fun c_42 => ?_)
      · exact absurd rfl c_42
      · refine lv_iconst (v := 1) hx hb dX6_add_162 (by decide) ?_
        refine lv_goto (tgt := 167) hx hb dX6_add_163 (by decide) ?_
        have vm9 : VM ((n + 1), na, (upd (upd (upd (upd fF 2 (nI (dr + 1))) 2 (nI (dr + 1 + 1))) 2 (nI (dr + 1 + 1 + 1))) 5 (nI (n + 1))), (u1 fO n (gR (pR (pR (pR (pR (pR (pR (pR (pR (pR (pR (pI (pR (pI (pR (pI (pW T q_2 7 12) d 2 (nI (dr + 1))) q_2 0 (nI s499)) d 2 (nI (dr + 1 + 1))) q_2 1 (nI (2 + v3))) d 2 (nI (dr + 1 + 1 + 1))) q_2 2 1) q_2 3 0) q_2 4 1000) q_2 5 0) q_2 6 (nI cM)) q_2 7 (-1)) q_2 8 0) q_2 9 0) q_2 10 (-1)) q_2 11 0) q_2)), (u2 fW n 0 1000), fC, fR, fB) (n + 1) na (dr + 1 + 1 + 1) (mAdd M n (nI s499) (nI (2 + v3)) 1) := (((hvm.draw (d2 := dr + 1)).draw (d2 := dr + 1 + 1)).draw (d2 := dr + 1 + 1 + 1)).add (by omega) (F := (upd (upd (upd (upd fF 2 (nI (dr + 1))) 2 (nI (dr + 1 + 1))) 2 (nI (dr + 1 + 1 + 1))) 5 (nI (n + 1)))) (g := gR (pR (pR (pR (pR (pR (pR (pR (pR (pR (pR (pI (pR (pI (pR (pI (pW T q_2 7 12) d 2 (nI (dr + 1))) q_2 0 (nI s499)) d 2 (nI (dr + 1 + 1))) q_2 1 (nI (2 + v3))) d 2 (nI (dr + 1 + 1 + 1))) q_2 2 1) q_2 3 0) q_2 4 1000) q_2 5 0) q_2 6 (nI cM)) q_2 7 (-1)) q_2 8 0) q_2 9 0) q_2 10 (-1)) q_2 11 0) q_2) ⟨rfl, rfl, rfl, rfl⟩ ⟨(u2_k (by decide)).trans ((u2_k (by decide)).trans ((u2_k (by decide)).trans ((u2_k (by decide)).trans ((u2_k (by decide)).trans ((u2_k (by decide)).trans ((u2_k (by decide)).trans ((u2_k (by decide)).trans ((u2_k (by decide)).trans ((u2_k (by decide)).trans ((u2_k (by decide)).trans (u2_s))))))))))), (u2_k (by decide)).trans ((u2_k (by decide)).trans ((u2_k (by decide)).trans ((u2_k (by decide)).trans ((u2_k (by decide)).trans ((u2_k (by decide)).trans ((u2_k (by decide)).trans ((u2_k (by decide)).trans ((u2_k (by decide)).trans ((u2_k (by decide)).trans (u2_s)))))))))), (u2_k (by decide)).trans ((u2_k (by decide)).trans ((u2_k (by decide)).trans ((u2_k (by decide)).trans ((u2_k (by decide)).trans ((u2_k (by decide)).trans ((u2_k (by decide)).trans ((u2_k (by decide)).trans ((u2_k (by decide)).trans (u2_s))))))))), (u2_k (by decide)).trans ((u2_k (by decide)).trans ((u2_k (by decide)).trans ((u2_k (by decide)).trans ((u2_k (by decide)).trans ((u2_k (by decide)).trans ((u2_k (by decide)).trans ((u2_k (by decide)).trans (u2_s)))))))), (u2_k (by decide)).trans ((u2_k (by decide)).trans ((u2_k (by decide)).trans ((u2_k (by decide)).trans ((u2_k (by decide)).trans ((u2_k (by decide)).trans ((u2_k (by decide)).trans (u2_s))))))), (u2_k (by decide)).trans ((u2_k (by decide)).trans ((u2_k (by decide)).trans ((u2_k (by decide)).trans ((u2_k (by decide)).trans ((u2_k (by decide)).trans (u2_s)))))), ((show _ = _ from (u2_k (by decide)).trans ((u2_k (by decide)).trans ((u2_k (by decide)).trans ((u2_k (by decide)).trans ((u2_k (by decide)).trans (u2_s)))))).trans hM.1.1.symm), (u2_k (by decide)).trans ((u2_k (by decide)).trans ((u2_k (by decide)).trans ((u2_k (by decide)).trans (u2_s)))), (u2_k (by decide)).trans (u2_s), u2_s⟩ zr.2.1 zz.1 zz.2.2.2
        exact W.zret (v := 1) hx hb hr (rfl) (fun t ht hW => ⟨⟨1, (pI (pR (pP (pR (pR (pR (pR (pR (pR (pR (pR (pR (pR (pI (pR (pI (pR (pI (pW T q_2 7 12) d 2 (nI (dr + 1))) q_2 0 (nI s499)) d 2 (nI (dr + 1 + 1))) q_2 1 (nI (2 + v3))) d 2 (nI (dr + 1 + 1 + 1))) q_2 2 1) q_2 3 0) q_2 4 1000) q_2 5 0) q_2 6 (nI cM)) q_2 7 (-1)) q_2 8 0) q_2 9 0) q_2 10 (-1)) q_2 11 0) (aO Ad) n (some q_2)) (aWk Ad2 n) 0 1000) d 5 (nI (n + 1)), x_40), rfl, ⟨rfl, (n + 1), na, dr + 1 + 1 + 1, cM, sB, _, _, _, _, _, _, _, (mAdd M n (nI s499) (nI (2 + v3)) 1), by omega, by omega, by omega, by omega, dk_41, vm9, gg2, (hM.add zz.2.1 zz.2.2.1 zz.1 zr.1 (Or.inr rfl))⟩, by rw [ht]; exact hP, va_K.moved hW.alike hK, hD⟩, hS.F ht⟩) hS.2.2 dX6_add_167
  · replace c_1 := (nI_eq (a := n) (b := 8) (by omega) (by omega)).mp c_1
    refine lv_iconst (v := 1) hx hb dX6_add_9 (by decide) ?_
    refine W.widen (k := 9) (n := 60) (Nat.le_of_ble_eq_true rfl) (Nat.le_of_ble_eq_true rfl) ?_
    exact W.zret (v := 1) hx hb hr (rfl) (fun t ht hW => ⟨⟨1, (T, S), rfl, ⟨rfl, n, na, dr, cM, sB, _, _, _, _, _, _, _, M, by omega, by omega, by omega, by omega, dk, hvm, gg, hM⟩, by rw [ht]; exact hP, va_K.moved hW.alike hK, hD⟩, hS.F ht⟩) hS.2.2 dX6_add_10

